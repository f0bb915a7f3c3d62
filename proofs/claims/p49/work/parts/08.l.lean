/-! the reference's way, told whole -/
section PN
variable {N n k : Nat} {u v w : sg_St} {a b ld cap pr rt lab : Nat → Nat} {C C' E S B P Lk Fl : Nat → Prop} {c : Int32} {x y l i j t s : Nat}
theorem qup.cl (h : qup n a b C s w) (hcl : ∀ l, C l → (qre s w (a l) ↔ qre s w (b l))) (hR : qg_R a b C s x) : qre s w x := hR (fun z => qre s w z) (Or.inl rfl) hcl
/-- a reached node but s: its line, its way -/
theorem qup.way (h : qup n a b C s w) (hx : x < n) (hre : qre s w x) (hne : x ≠ s) : ∃ l y p, w 24 x = nI l ∧ C l ∧ qg_E a b l x y ∧ qre s w y ∧ p ≠ [] ∧ qcn a b C p s 12 x l :=
  (h.2 x hx).resolve_left (hre.resolve_left hne)
/-- the way to a node, s too -/
theorem qup.wayto (h : qup n a b C s w) (hx : x < n) (hre : qre s w x) : ∃ p l, qcn a b C p s 12 x l ∧ (x = s → p = [] ∧ l = 12) ∧ (x ≠ s → w 24 x = nI l ∧ C l ∧ p ≠ []) := by
  by_cases e : x = s
  · exact ⟨[], 12, ⟨e.symm, rfl⟩, fun _ => ⟨rfl, rfl⟩, fun z => absurd e z⟩
  · obtain ⟨l, y, p, h1, h2, h3, h4, h5, h6⟩ := h.way hx hre e
    exact ⟨p, l, h6, fun z => absurd z e, fun _ => ⟨h1, h2, h5⟩⟩
/-- one of the ends of a line of s's island has it as its line -/
theorem qup.line (hC12 : ¬ C 12) (hk : ∀ l, C l → l < 12) (hF : qg_F a b C) (hne : ∀ l, C l → a l ≠ b l) (h : qup n a b C s w) (ht : C t) (ha : a t < n) (hb : b t < n) (hra : qre s w (a t)) (hrb : qre s w (b t)) (hno : ¬ w 24 (a t) = nI t) : w 24 (b t) = nI t := by
  refine Classical.byContradiction (fun hno2 => ?_)
  have h12 : ∀ {x : Nat} {p : List Nat} {l : Nat}, (x = s → p = [] ∧ l = 12) → (x ≠ s → w 24 x = nI l ∧ C l ∧ p ≠ []) → ¬ w 24 x = nI t → t ≠ l := fun {x p l} g1 g2 g3 e => by
    by_cases z : x = s
    · exact hC12 (by rw [← (g1 z).2, ← e]; exact ht)
    · exact g3 (by rw [e]; exact (g2 z).1)
  obtain ⟨p, l, p1, p2, p3⟩ := h.wayto ha hra
  obtain ⟨q, m, q1, q2, q3⟩ := h.wayto hb hrb
  have f1 := qcn_app ht p s 12 (a t) l p1 (h12 p2 p3 hno) (Or.inl ⟨rfl, rfl⟩)
  have f2 := qcn_app ht q s 12 (b t) m q1 (h12 q2 q3 hno2) (Or.inr ⟨rfl, rfl⟩)
  have h0 : C 12 → ∃ w, qg_E a b 12 s w := fun z => absurd z hC12
  have key : ∀ (r r' : List Nat) (z z' : Nat), r ≠ [] → r' ≠ [] → qcn a b C r s 12 z t → qcn a b C r' s 12 z' t → z = z' := fun r r' z z' g1 g2 g3 g4 => by
    cases r with
    | nil => exact absurd rfl g1
    | cons c r =>
      cases r' with
      | nil => exact absurd rfl g2
      | cons c' r' => exact (qcn_un hF hne r r' c c' s 12 z z' t h0 g3 g4).2
  exact hne t ht (key _ _ _ _ (by simp) (by simp) f2 f1)
theorem qcn_un' (hC12 : ¬ C 12) (hF : qg_F a b C) (hne : ∀ l, C l → a l ≠ b l) {p q : List Nat} {z z' : Nat} (h1 : p ≠ []) (h2 : q ≠ []) (h3 : qcn a b C p s 12 z t) (h4 : qcn a b C q s 12 z' t) : p = q ∧ z = z' := by
  have h0 : C 12 → ∃ w, qg_E a b 12 s w := fun z => absurd z hC12
  cases p with
  | nil => exact absurd rfl h1
  | cons c r =>
    cases q with
    | nil => exact absurd rfl h2
    | cons c' r' => exact qcn_un hF hne r r' c c' s 12 z z' t h0 h3 h4
theorem qm_back (hN : 20 < N) (hM : qM v n k a b ld cap pr rt S B) (hC : ∀ l, C l → l < k) (hF : qg_F a b C) (hs : s < n) (hup : qup n a b C s v) (h4 : v 4 0 = 0) (hx : x < n) (hre : qre s v x) (hxs : x ≠ s) (hxt : v 24 x = nI t) (ht : t < 12) : ∃ v', fX6_finds_j249 N v (nI s) (nI x) = some (1, v') ∧ (∀ j, j ≠ 4 → j ≠ 23 → v' j = v j) ∧ ∃ p, p ≠ [] ∧ qcn a b C p s 12 x t ∧ p.length ≤ 9 ∧ v' 4 0 = nI p.length ∧ ∀ i, i < p.length → v' 23 i = nI (p.getD i 0) := by
  have hM' := hM
  obtain ⟨h0, h1, hn, hk, he, -, -⟩ := hM
  have hC12 : ¬ C 12 := fun q => by have := hC 12 q; omega
  have hne : ∀ l, C l → a l ≠ b l := fun l hl => (he l (hC l hl)).2.2.2.2
  have hbd : ∀ l, C l → a l < n ∧ b l < n := fun l hl => ⟨(he l (hC l hl)).2.2.1, (he l (hC l hl)).2.2.2.1⟩
  obtain ⟨l, y, p, p1, p2, p3, p4, p5, p6⟩ := hup.way hx hre hxs
  have elt : l = t := by
    rw [p1] at hxt
    have := hC l p2
    exact (q_eq (by omega) (by omega)).mp hxt
  subst elt
  have hlen : p.length ≤ 9 := by
    have g := qcn_len (n := n) hF hbd p s 12 x l (fun z => absurd z hC12) hs p6
    have g2 := qc_le (P := qg_R a b (qg_del C 12) s) (n := n)
    omega
  obtain ⟨v', e1, e2, e3, e4⟩ := q_inv (f := fun z : sg_St × Int32 => fX6_finds_L251 N z.1 (nI s) z.2) (fun z => (∀ j, j ≠ 4 → j ≠ 23 → z.1 j = v j) ∧ ∃ e q suf, z.2 = nI e ∧ e < n ∧ q ++ suf = p ∧ qre s v e ∧ (e = s → q = []) ∧ (e ≠ s → ∃ le, v 24 e = nI le ∧ C le ∧ q ≠ [] ∧ qcn a b C q s 12 e le) ∧ z.1 4 0 = nI suf.length ∧ ∀ i, i < suf.length → z.1 23 i = nI (suf.getD i 0)) (fun z => 20 - (z.1 4 0).toNatClampNeg) (fun r => (∀ j, j ≠ 4 → j ≠ 23 → r j = v j) ∧ r 4 0 = nI p.length ∧ ∀ i, i < p.length → r 23 i = nI (p.getD i 0)) (by
    rintro ⟨w, z⟩ ⟨hfr, e, q, suf, hz, hen, hqs, hree, hes, hens, hw4, hw23⟩
    dsimp only at hfr hz hqs hree hes hens hw4 hw23
    replace hz : z = nI e := hz
    subst hz
    replace hw4 : w 4 0 = nI suf.length := hw4
    have hsl : q.length + suf.length = p.length := by rw [← hqs, List.length_append]
    by_cases z : e = s
    · refine Or.inr ⟨w, ?_, hfr, ?_, ?_⟩
      · show fX6_finds_L251 N w (nI s) (nI e) = _
        unfold fX6_finds_L251
        rw [q_ieq1 z]
      · rw [← hqs, hes z, List.nil_append]; exact hw4
      · rw [← hqs, hes z, List.nil_append]; exact hw23
    · obtain ⟨le, g1, g2, g3, g4⟩ := hens z
      have hql : 0 < q.length := List.length_pos_iff.mpr g3
      obtain ⟨le', y, pe, f1, f2, f3, f4, f5, f6⟩ := hup.way hen hree z
      have ele : le' = le := (q_eq (by have := hC le' f2; omega) (by have := hC le g2; omega)).mp (f1.symm.trans g1)
      subst ele
      have hle := hC le' g2
      have hy : y < n := by
        rcases f3 with ⟨r1, r2⟩ | ⟨r1, r2⟩
        · rw [← r2]; exact (hbd le' g2).2
        · rw [← r2]; exact (hbd le' g2).1
      obtain ⟨py, ly, y1, y2, y3⟩ := hup.wayto hy f4
      have hly : le' ≠ ly := fun er => by
        by_cases zy : y = s
        · exact hC12 (by rw [← (y2 zy).2, ← er]; exact g2)
        · rw [← er] at y1
          have := (qcn_un' hC12 hF hne (y3 zy).2.2 f5 y1 f6).2
          subst this
          exact (hne le' g2) (by rcases f3 with ⟨r1, r2⟩ | ⟨r1, r2⟩
                                 · exact r1.trans r2.symm
                                 · exact r2.trans r1.symm)
      have hq : q = py ++ [le'] := (qcn_un' hC12 hF hne g3 (by simp) g4 (qcn_app g2 py s 12 y ly y1 hly (qg_E_sy f3))).1
      have hw24 : w 24 e = nI le' := by rw [hfr 24 (by omega) (by omega)]; exact g1
      obtain ⟨w', s1, s2, s3⟩ := qm_shift (N := N) (w := w) hN (show suf.length ≤ 11 by omega) hw4 (nI s) (nI e) (nI le')
      have w12 : w' 12 le' = nI (a le') := by rw [s2 12 (by omega), hfr 12 (by omega) (by omega)]; exact (he le' hle).1
      have w13 : w' 13 le' = nI (b le') := by rw [s2 13 (by omega), hfr 13 (by omega) (by omega)]; exact (he le' hle).2.1
      have w4 : w' 4 0 = nI suf.length := by rw [s2 4 (by omega)]; exact hw4
      obtain ⟨e1, e2, e3, e4, e5⟩ := he le' hle
      have hO : ∀ j, j ≠ 4 → j ≠ 23 → sg_set (sg_set w' 23 0 (nI le')) 4 0 (nI (suf.length + 1)) j = w' j := fun j h1 h2 => by rw [sg_set_o h1, sg_set_o h2]
      have hstep : fX6_finds_L251 N w (nI s) (nI e) = some (.inl (sg_set (sg_set w' 23 0 (nI le')) 4 0 (nI (suf.length + 1)), nI y)) := by
        unfold fX6_finds_L251
        rw [q_ieq0 (by omega) (by omega) (by omega)]
        simp (disch := omega) only [q_ck, q_cl, q_gt, hw24]
        rw [s1, q_bs, show sg_inb 0 12 = true from by decide, q_gt, show (0 : Int32).toNatClampNeg = 0 from by decide, sg_set_o (u := w') (show (4 : Nat) ≠ 23 by omega), w4, q_sc, hO 12 (by omega) (by omega), hO 13 (by omega) (by omega), w12, w13]
        rcases f3 with ⟨r1, r2⟩ | ⟨r1, r2⟩
        · rw [q_ieq1 r1, ← r2]
          simp (disch := omega) only [q_ile0, q_ile1, q_ilt0, q_ilt1, q_ieq0, q_ieq1, q_iltz, q_ilez, q_ilez0, q_izlt, q_im1, q_im1a, q_ieqz, q_ieqz0, q_l10, q_l12, q_ck, q_cl, q_gt, q_bs, q_b2s, q_ls, q_sc, nI_add, if_true, if_false, ite_true, ite_false, reduceIte, q_10, q_01, q_11, q_00]
        · have : ¬ a le' = e := fun er => e5 (er.trans r1.symm)
          rw [q_ieq0 (by omega) (by omega) (by omega), ← r2]
          simp (disch := omega) only [q_ile0, q_ile1, q_ilt0, q_ilt1, q_ieq0, q_ieq1, q_iltz, q_ilez, q_ilez0, q_izlt, q_im1, q_im1a, q_ieqz, q_ieqz0, q_l10, q_l12, q_ck, q_cl, q_gt, q_bs, q_b2s, q_ls, q_sc, nI_add, if_true, if_false, ite_true, ite_false, reduceIte, q_10, q_01, q_11, q_00]
      refine Or.inl ⟨_, hstep, ⟨fun j h1 h2 => ?_, y, py, le' :: suf, rfl, hy, ?_, f4, fun zy => (y2 zy).1, fun zy => ⟨ly, (y3 zy).1, (y3 zy).2.1, (y3 zy).2.2, y1⟩, ?_, fun i hi => ?_⟩, ?_⟩
      · show sg_set (sg_set w' 23 0 (nI le')) 4 0 (nI (suf.length + 1)) j = _
        rw [hO j h1 h2, s2 j h2]; exact hfr j h1 h2
      · rw [← hqs, hq, List.append_assoc]; rfl
      · show sg_set (sg_set w' 23 0 (nI le')) 4 0 (nI (suf.length + 1)) 4 0 = _
        rw [sg_set_s, upd_s]; rfl
      · show sg_set (sg_set w' 23 0 (nI le')) 4 0 (nI (suf.length + 1)) 23 i = _
        rw [sg_set_o (by omega), sg_set_s]
        cases i with
        | zero => rw [upd_s]; rfl
        | succ i =>
          rw [upd_o (by omega), s3 i (Nat.lt_of_succ_lt_succ hi)]
          exact hw23 i (Nat.lt_of_succ_lt_succ hi)
      · show 20 - ((sg_set (sg_set w' 23 0 (nI le')) 4 0 (nI (suf.length + 1))) 4 0).toNatClampNeg < 20 - (w 4 0).toNatClampNeg
        rw [sg_set_s, upd_s, hw4, q_cl (by omega), q_cl (by omega)]
        omega) N (v, nI x) ⟨fun _ _ _ => rfl, x, p, [], rfl, hx, List.append_nil p, hre, fun z => absurd z hxs, fun _ => ⟨l, p1, p2, p5, p6⟩, h4, fun i hi => absurd hi (Nat.not_lt_zero i)⟩ (by
    show 20 - (v 4 0).toNatClampNeg < N
    omega)
  refine ⟨v', ?_, e2, p, p5, p6, hlen, e3, e4⟩
  unfold fX6_finds_j249
  rw [e1]
  rfl
theorem qm_finds (hN : 200 < N) (hM : qM v n k a b ld cap pr rt S B) (hV : ∀ l, l < k → v 19 l = qt (C l)) (hSn : ∀ i, S i → i < n) (hC : ∀ l, C l → l < k) (hF : qg_F a b C) (ht : t < k) : ∃ (r : Int32) (v' : sg_St), fX6_finds N v (nI t) = some (r, v') ∧ (∀ j, j ≠ 4 → j ≠ 22 → j ≠ 23 → j ≠ 24 → v' j = v j) ∧ ((r = 0 ∧ ¬ (C t ∧ qg_L a b S C (a t))) ∨ (r = 1 ∧ ∃ s p z, S s ∧ p ≠ [] ∧ qcn a b C p s 12 z t ∧ p.length ≤ 9 ∧ v' 4 0 = nI p.length ∧ ∀ i, i < p.length → v' 23 i = nI (p.getD i 0))) := by
  have hk := hM.2.2.2.1
  have hn := hM.2.2.1
  have hC12 : ¬ C 12 := fun q => by have := hC 12 q; omega
  generalize hv0 : sg_set v 4 0 0 = v0
  have f0 : ∀ j, j ≠ 4 → v0 j = v j := fun j hj => by rw [← hv0, sg_set_o hj]
  have f04 : v0 4 0 = 0 := by rw [← hv0, sg_set_s, upd_s]
  have hM0 : qM v0 n k a b ld cap pr rt S B := hM.fr (fun j hj => f0 j (by omega))
  have hV0 : ∀ l, l < k → v0 19 l = qt (C l) := fun l hl => by rw [f0 19 (by omega)]; exact hV l hl
  unfold fX6_finds
  rw [hv0]
  by_cases q1 : C t
  · obtain ⟨w, p1, p2, lab, p3, p4⟩ := qm_paint (E := C) (W := -1) (X := -1) hN hM0 hV0 (fun m => ⟨fun z => ⟨hC m z, q_m1 (by have := hC m z; omega), Or.inl z⟩, fun z => z.2.2.elim id (fun e => absurd e (q_m1 (by omega)))⟩)
    have hMw := hM0.fr (qKM.of22 p2)
    obtain ⟨e1, e2, e3, e4, e5⟩ := hMw.2.2.2.2.1 t ht
    have hsa := qm_src (N := N) (by omega) hMw p3 p4 e3
    rcases q_srcL (a := a) (b := b) (E := C) hSn (a t) with ⟨s, g1, g2, g3, g4, g5⟩ | ⟨g1, g5⟩
    · -- the island is live
      obtain ⟨w1, a1, a2, a3⟩ := q_loop (f := fun z : sg_St × Int32 => fX6_finds_L47 N z.1 (nI t) (nI s) z.2) (m := n) (N := N) (x0 := (w, 0)) (fun i z => z.2 = nI i ∧ (∀ j, j ≠ 24 → z.1 j = w j) ∧ ∀ q, q < i → z.1 24 q = -1) (fun r => (∀ j, j ≠ 24 → r j = w j) ∧ ∀ q, q < n → r 24 q = -1) (by omega) ⟨rfl, fun _ _ => rfl, fun q hq => absurd hq (Nat.not_lt_zero q)⟩ (by
        rintro i ⟨x, z⟩ hi ⟨hz, r1, r2⟩
        dsimp only at hz r1 r2
        replace hz : z = nI i := hz
        subst hz
        have x1 : x 1 0 = nI n := by rw [r1 1 (by omega)]; exact hMw.1
        refine Or.inl ⟨(sg_set x 24 i (-1), nI (i + 1)), ?_, rfl, fun j hj => ?_, fun q hq => ?_⟩
        · show fX6_finds_L47 N x (nI t) (nI s) (nI i) = _
          unfold fX6_finds_L47
          simp (disch := omega) only [q_ile0, q_ile1, q_ilt0, q_ilt1, q_ieq0, q_ieq1, q_iltz, q_ilez, q_ilez0, q_izlt, q_im1, q_im1a, q_ieqz, q_ieqz0, q_l10, q_l12, q_ck, q_cl, q_gt, q_bs, q_b2s, q_ls, q_sc, nI_add, if_true, if_false, ite_true, ite_false, reduceIte, q_10, q_01, q_11, q_00, x1]
        · show sg_set x 24 i (-1) j = _
          rw [sg_set_o hj]; exact r1 j hj
        · show sg_set x 24 i (-1) 24 q = _
          rw [sg_set_s]
          by_cases e : q = i
          · rw [e, upd_s]
          · rw [upd_o e]; exact r2 q (by omega)) (by
        rintro ⟨x, z⟩ ⟨hz, r1, r2⟩
        dsimp only at hz r1 r2
        replace hz : z = nI n := hz
        subst hz
        have x1 : x 1 0 = nI n := by rw [r1 1 (by omega)]; exact hMw.1
        refine ⟨x, ?_, r1, r2⟩
        show fX6_finds_L47 N x (nI t) (nI s) (nI n) = _
        unfold fX6_finds_L47
        simp (disch := omega) only [q_ile0, q_ile1, q_ilt0, q_ilt1, q_ieq0, q_ieq1, q_iltz, q_ilez, q_ilez0, q_izlt, q_im1, q_im1a, q_ieqz, q_ieqz0, q_l10, q_l12, q_ck, q_cl, q_gt, q_bs, q_b2s, q_ls, q_sc, nI_add, if_true, if_false, ite_true, ite_false, reduceIte, q_10, q_01, q_11, q_00, x1])
      obtain ⟨w2, b1, b2, b3, b4⟩ := q_inv (f := fun z : sg_St × Int32 => fX6_finds_L70 N z.1 (nI t) (nI s) z.2) (fun z => (∀ j, j ≠ 24 → z.1 j = w j) ∧ qup n a b C s z.1 ∧ ((z.2 = 0 ∧ ∀ l, C l → (qre s z.1 (a l) ↔ qre s z.1 (b l))) ∨ z.2 = 1)) (fun z => 2 * qc (fun x => z.1 24 x = -1) n + z.2.toNatClampNeg) (fun r => (∀ j, j ≠ 24 → r j = w j) ∧ qup n a b C s r ∧ ∀ l, C l → (qre s r (a l) ↔ qre s r (b l))) (by
        rintro ⟨x, m⟩ ⟨r1, r2, r3⟩
        dsimp only at r1 r2 r3
        rcases r3 with ⟨r3, r4⟩ | r3
        · replace r3 : m = 0 := r3
          subst r3
          refine Or.inr ⟨x, ?_, r1, r2, r4⟩
          show fX6_finds_L70 N x (nI t) (nI s) 0 = _
          unfold fX6_finds_L70
          exact if_pos rfl
        · replace r3 : m = 1 := r3
          subst r3
          have hMx : qM x n k a b ld cap pr rt S B := hMw.fr (fun j hj => r1 j (by omega))
          obtain ⟨r, t1, t2, t3, t4⟩ := qm_up (N := N) (by omega) hMx (fun l hl => by rw [r1 19 (by omega), p2 19 (by omega)]; exact hV0 l hl) hC g4 r2 (nI t)
          refine Or.inl ⟨(r.1, r.2), ?_, ⟨fun j hj => (t2 j hj).trans (r1 j hj), t3, t4.imp (fun z => ⟨z.1, z.2.2⟩) (fun z => z.1)⟩, ?_⟩
          · show fX6_finds_L70 N x (nI t) (nI s) 1 = _
            unfold fX6_finds_L70
            rw [q_10, t1]
            rfl
          · show 2 * qc (fun q => r.1 24 q = -1) n + r.2.toNatClampNeg < 2 * qc (fun q => x 24 q = -1) n + (1 : Int32).toNatClampNeg
            rw [show (1 : Int32).toNatClampNeg = 1 from by decide]
            rcases t4 with ⟨t4, t5, -⟩ | ⟨t4, t5⟩
            · rw [t4, t5, show (0 : Int32).toNatClampNeg = 0 from by decide]; omega
            · rw [t4, show (1 : Int32).toNatClampNeg = 1 from by decide]
              replace t5 : qc (fun q => r.1 24 q = -1) n < qc (fun q => x 24 q = -1) n := t5
              omega) N (w1, 1) ⟨a2, ⟨a3 s g4, fun x hx => Or.inl (a3 x hx)⟩, Or.inr rfl⟩ (by
        show 2 * qc (fun x => w1 24 x = -1) n + (1 : Int32).toNatClampNeg < N
        have := qc_le (P := fun x => w1 24 x = -1) (n := n)
        rw [show (1 : Int32).toNatClampNeg = 1 from by decide]
        omega)
      have hM2 : qM w2 n k a b ld cap pr rt S B := hMw.fr (fun j hj => b2 j (by omega))
      obtain ⟨c1, c2, -, -, -⟩ := hM2.2.2.2.2.1 t ht
      have hra : qre s w2 (a t) := b3.cl b4 (qg_sy g3)
      have hrb : qre s w2 (b t) := (b4 t q1).mp hra
      have h40 : w2 4 0 = 0 := by rw [b2 4 (by omega), p2 4 (by omega)]; exact f04
      have fin : ∀ x, x < n → qre s w2 x → w2 24 x = nI t → ∃ (r : Int32) (v' : sg_St), fX6_finds_j249 N w2 (nI s) (nI x) = some (r, v') ∧ (∀ j, j ≠ 4 → j ≠ 22 → j ≠ 23 → j ≠ 24 → v' j = v j) ∧ ((r = 0 ∧ ¬ (C t ∧ qg_L a b S C (a t))) ∨ (r = 1 ∧ ∃ s p z, S s ∧ p ≠ [] ∧ qcn a b C p s 12 z t ∧ p.length ≤ 9 ∧ v' 4 0 = nI p.length ∧ ∀ i, i < p.length → v' 23 i = nI (p.getD i 0))) := fun x hx hre hxt => by
        have hxs : x ≠ s := fun e => by
          rw [e, b3.1] at hxt
          exact q_m1' (by omega) hxt
        obtain ⟨v', d1, d2, p, d3, d4, d5, d6, d7⟩ := qm_back (N := N) (by omega) hM2 hC hF g4 b3 h40 hx hre hxs hxt (by omega)
        exact ⟨1, v', d1, fun j h1 h2 h3 h4 => by rw [d2 j h1 h3, b2 j h4, p2 j h2, f0 j h1], Or.inr ⟨rfl, s, p, x, g2, d3, d4, d5, d6, d7⟩⟩
      have hend : ∃ (r : Int32) (v' : sg_St), (if w2 24 (a t) = nI t then fX6_finds_j249 N w2 (nI s) (nI (a t)) else fX6_finds_j249 N w2 (nI s) (nI (b t))) = some (r, v') ∧ (∀ j, j ≠ 4 → j ≠ 22 → j ≠ 23 → j ≠ 24 → v' j = v j) ∧ ((r = 0 ∧ ¬ (C t ∧ qg_L a b S C (a t))) ∨ (r = 1 ∧ ∃ s p z, S s ∧ p ≠ [] ∧ qcn a b C p s 12 z t ∧ p.length ≤ 9 ∧ v' 4 0 = nI p.length ∧ ∀ i, i < p.length → v' 23 i = nI (p.getD i 0))) := by
        by_cases z : w2 24 (a t) = nI t
        · rw [if_pos z]
          exact fin _ e3 hra z
        · rw [if_neg z]
          exact fin _ e4 hrb (b3.line hC12 (fun l hl => by have := hC l hl; omega) hF (fun l hl => (hM.2.2.2.2.1 l (hC l hl)).2.2.2.2) q1 e3 e4 hra hrb z)
      obtain ⟨r, v', d1, d2, d3⟩ := hend
      refine ⟨r, v', ?_, d2, d3⟩
      simp (disch := omega) only [q_ile0, q_ile1, q_ilt0, q_ilt1, q_ieq0, q_ieq1, q_iltz, q_ilez, q_ilez0, q_izlt, q_im1, q_im1a, q_ieqz, q_ieqz0, q_l10, q_l12, q_ck, q_cl, q_gt, q_bs, q_b2s, q_ls, q_sc, nI_add, if_true, if_false, ite_true, ite_false, reduceIte, q_10, q_01, q_11, q_00, hV0 t ht, qt_1 q1, p1, e1, p3 _ e3, hsa, g5, a1, b1, c1, c2]
      exact d1
    · refine ⟨0, w, ?_, fun j h1 h2 _ _ => (p2 j h2).trans (f0 j h1), Or.inl ⟨rfl, fun z => g1 z.2⟩⟩
      simp (disch := omega) only [q_ile0, q_ile1, q_ilt0, q_ilt1, q_ieq0, q_ieq1, q_iltz, q_ilez, q_ilez0, q_izlt, q_im1, q_im1a, q_ieqz, q_ieqz0, q_l10, q_l12, q_ck, q_cl, q_gt, q_bs, q_b2s, q_ls, q_sc, nI_add, if_true, if_false, ite_true, ite_false, reduceIte, q_10, q_01, q_11, q_00, hV0 t ht, qt_1 q1, p1, e1, p3 _ e3, hsa, g5]
  · refine ⟨0, v0, ?_, fun j h1 _ _ _ => f0 j h1, Or.inl ⟨rfl, fun z => q1 z.1⟩⟩
    simp (disch := omega) only [q_ile0, q_ile1, q_ilt0, q_ilt1, q_ieq0, q_ieq1, q_iltz, q_ilez, q_ilez0, q_izlt, q_im1, q_im1a, q_ieqz, q_ieqz0, q_l10, q_l12, q_ck, q_cl, q_gt, q_bs, q_b2s, q_ls, q_sc, nI_add, if_true, if_false, ite_true, ite_false, reduceIte, q_10, q_01, q_11, q_00, hV0 t ht, qt_0 q1]
end PN
