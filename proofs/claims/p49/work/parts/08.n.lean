/-! who trips -/
section TR
variable {N n k : Nat} {u v w : sg_St} {a b ld cap pr rt lab pk mu ins : Nat → Nat} {C C' E S B P Lk Fl : Nat → Prop} {c : Int32} {x y l i j t s cur z : Nat} {p : List Nat}
/-- the way to t from its source -/
def qway (a b : Nat → Nat) (S C : Nat → Prop) (t s : Nat) (p : List Nat) : Prop := S s ∧ p ≠ [] ∧ ∃ z, qcn a b C p s 12 z t
theorem qway.un (hC12 : ¬ C 12) (hF : qg_F a b C) (hO : qg_O a b S C) (hne : ∀ l, C l → a l ≠ b l) {s s' : Nat} {p p' : List Nat} (h : qway a b S C t s p) (h' : qway a b S C t s' p') : s = s' ∧ p = p' := by
  obtain ⟨h1, h2, z, h3⟩ := h
  obtain ⟨g1, g2, z', g3⟩ := h'
  have h0 : ∀ q, C 12 → ∃ w, qg_E a b 12 q w := fun q r => absurd r hC12
  have ra : qg_R a b C s (a t) := by
    cases p with
    | nil => exact absurd rfl h2
    | cons c r => exact qg_del_mo ((qcn_below hF r c s 12 z t (h0 s) h3).2.2 (a t) (b t) (Or.inl ⟨rfl, rfl⟩))
  have ra' : qg_R a b C s' (a t) := by
    cases p' with
    | nil => exact absurd rfl g2
    | cons c r => exact qg_del_mo ((qcn_below hF r c s' 12 z' t (h0 s') g3).2.2 (a t) (b t) (Or.inl ⟨rfl, rfl⟩))
  have e : s = s' := hO s s' h1 g1 (qg_tr ra (qg_sy ra'))
  subst e
  exact ⟨rfl, (qcn_un' hC12 hF hne h2 g2 h3 g3).1⟩
theorem qway.R (hC12 : ¬ C 12) (hF : qg_F a b C) (h : qway a b S C t s p) : C t ∧ qg_R a b C (a t) s := by
  obtain ⟨h1, h2, z, h3⟩ := h
  cases p with
  | nil => exact absurd rfl h2
  | cons c r =>
    have g := qcn_below hF r c s 12 z t (fun q => absurd q hC12) h3
    exact ⟨g.1, qg_sy (qg_del_mo (g.2.2 (a t) (b t) (Or.inl ⟨rfl, rfl⟩)))⟩
theorem qway.mem (h : qway a b S C t s p) (hi : i < p.length) : C (p.getD i 0) := by
  obtain ⟨h1, h2, z, h3⟩ := h
  exact qcn_C p s 12 z t i h3 hi
theorem qway.len (hF : qg_F a b C) (hC12 : ¬ C 12) (hbd : ∀ l, C l → a l < n ∧ b l < n) (hSn : ∀ i, S i → i < n) (hn : n ≤ 10) (h : qway a b S C t s p) : 0 < p.length ∧ p.length ≤ 9 := by
  obtain ⟨h1, h2, z, h3⟩ := h
  have g := qcn_len (n := n) hF hbd p s 12 z t (fun q => absurd q hC12) (hSn s h1) h3
  have g2 := qc_le (P := qg_R a b (qg_del C 12) s) (n := n)
  exact ⟨List.length_pos_iff.mpr h2, by omega⟩
/-- the first line of the way ends at the source -/
theorem qway.head (h : qway a b S C t s p) : a (p.getD 0 0) = s ∨ b (p.getD 0 0) = s := by
  obtain ⟨h1, h2, z, h3⟩ := h
  cases p with
  | nil => exact absurd rfl h2
  | cons c r =>
    obtain ⟨g1, g2, y, g3, g4⟩ := h3
    rcases g3 with ⟨q, -⟩ | ⟨q, -⟩
    · exact Or.inl q
    · exact Or.inr q
/-- the fault current -/
def qcur (cap : Nat → Nat) (s : Nat) (p : List Nat) : Nat := cap s * 10 / p.length
theorem qcur_bd (h : cap s ≤ 999) : qcur cap s p < 1000000 := by
  have : cap s * 10 / p.length ≤ cap s * 10 := Nat.div_le_self _ _
  unfold qcur
  omega
theorem qx_way (hN : 20 < N) (hW : qW u n k a b ld cap pr rt S B) (hc : qS c C) (hC : ∀ l, C l → l < k) (hF : qg_F a b C) (ht : t < k) : ∃ (r : Int32) (u' : sg_St), fX0_layPath N u (nI t) c = some (r, u') ∧ qfr u u' ∧ ((r = 0 ∧ ¬ (C t ∧ qg_L a b S C (a t))) ∨ ∃ s p, qway a b S C t s p ∧ r = nI p.length ∧ ∀ i, i < p.length → u' 18 i = nI (p.getD i 0)) := by
  obtain ⟨r, u', h1, h2, h3⟩ := qx_lay hN hW hc hC hF ht
  exact ⟨r, u', h1, h2, h3.imp id (fun ⟨s, p, z, g1, g2, g3, g4, g5, g6⟩ => ⟨s, p, ⟨g1, g2, z, g3⟩, g4, g6⟩)⟩
theorem qm_way (hN : 200 < N) (hM : qM v n k a b ld cap pr rt S B) (hV : ∀ l, l < k → v 19 l = qt (C l)) (hSn : ∀ i, S i → i < n) (hC : ∀ l, C l → l < k) (hF : qg_F a b C) (ht : t < k) : ∃ (r : Int32) (v' : sg_St), fX6_finds N v (nI t) = some (r, v') ∧ (∀ j, j ≠ 4 → j ≠ 22 → j ≠ 23 → j ≠ 24 → v' j = v j) ∧ ((r = 0 ∧ ¬ (C t ∧ qg_L a b S C (a t))) ∨ (r = 1 ∧ ∃ s p, qway a b S C t s p ∧ v' 4 0 = nI p.length ∧ ∀ i, i < p.length → v' 23 i = nI (p.getD i 0))) := by
  obtain ⟨r, v', h1, h2, h3⟩ := qm_finds hN hM hV hSn hC hF ht
  exact ⟨r, v', h1, h2, h3.imp id (fun ⟨g0, s, p, z, g1, g2, g3, g4, g5, g6⟩ => ⟨g0, s, p, ⟨g1, g2, z, g3⟩, g5, g6⟩)⟩
theorem qx_cof (hN : 20 < N) (hW : qW u n k a b ld cap pr rt S B) (hc : qS c C) (hC : ∀ l, C l → l < k) (hF : qg_F a b C) (hO : qg_O a b S C) (ht : t < k) (hw : qway a b S C t s p) : fX3_currentOfFault N u (nI t) (nI p.length) c = some (nI (qcur cap s p)) := by
  have hk := hW.1.2.2.2.1
  have hn := hW.1.2.2.1
  have hC12 : ¬ C 12 := fun q => by have := hC 12 q; omega
  have hs := hW.Sn s hw.1
  have hl := hw.len hF hC12 (hW.1.bd hC) hW.Sn hn
  have hcs := hW.2.1 s hs
  unfold fX3_currentOfFault
  rw [qx_srcl hW.1 hN ht hc hC hW.sS hW.Sn, q_bs, qf_src hO hW.Sn hw.1 (hw.R hC12 hF).2, qx_cap hW.1 hs, q_bs, hcs.1]
  unfold qcur
  simp (disch := omega) only [q_ilez, q_dn0, q_gt, q_l10m, q_div]
theorem qm_sop (hM : qM v n k a b ld cap pr rt S B) (hC : ∀ l, C l → l < k) (hO : qg_O a b S C) (hw : qway a b S C t s p) (hR : qg_R a b C (a t) s) (h23 : v 23 0 = nI (p.getD 0 0)) (hp : 0 < p.length) : fX6_sourceOfPath N v = some (nI s) := by
  have hk := hM.2.2.2.1
  have hn := hM.2.2.1
  have hCl := hw.mem hp
  have hl := hC _ hCl
  obtain ⟨e1, e2, e3, e4, e5⟩ := hM.2.2.2.2.1 _ hl
  have f8 := hM.2.2.2.2.2.1 (a (p.getD 0 0)) e3
  unfold fX6_sourceOfPath
  rw [show sg_inb 0 12 = true from by decide, q_gt, show (0 : Int32).toNatClampNeg = 0 from by decide, h23]
  simp (disch := omega) only [q_ck, q_cl, q_gt, e1, e2, f8.1]
  by_cases q : S (a (p.getD 0 0))
  · rw [qt_1 q, q_10]
    rcases hw.head with g | g
    · rw [g]
    · have := hO _ _ q hw.1 (by rw [← g]; exact qg_ed hCl)
      rw [this]
  · rw [qt_0 q, q_00]
    rcases hw.head with g | g
    · exact absurd (by rw [g]; exact hw.1) q
    · rw [g]
theorem qm_drawn (hM : qM v n k a b ld cap pr rt S B) (hSn : ∀ i, S i → i < n) (hC : ∀ l, C l → l < k) (hO : qg_O a b S C) (hw : qway a b S C t s p) (hR : qg_R a b C (a t) s) (h4 : v 4 0 = nI p.length) (h23 : v 23 0 = nI (p.getD 0 0)) (hp : 0 < p.length) (hp9 : p.length ≤ 9) : fX6_drawn N v = some (nI (qcur cap s p)) := by
  have hn := hM.2.2.1
  have hs := hSn s hw.1
  have f8 := hM.2.2.2.2.2.1 s hs
  unfold fX6_drawn qcur
  rw [qm_sop hM hC hO hw hR h23 hp, q_bs]
  simp (disch := omega) only [q_ck, q_cl, q_gt, f8.2.1, h4, q_dn0, q_l10m, q_div]
/-- who trips by a fault on t: a line, -1 (no live line), -2 (none before the source) -/
def qans (a b : Nat → Nat) (S C B : Nat → Prop) (cap pk mu ins : Nat → Nat) (t : Nat) (r : Int32) : Prop := (r = -1 ∧ ¬ (C t ∧ qg_L a b S C (a t))) ∨ ∃ s p, qway a b S C t s p ∧ ((r = -2 ∧ qnon p (qta B pk mu ins (qcur cap s p)) p.length) ∨ ∃ j, r = nI (p.getD j 0) ∧ qwin p (qta B pk mu ins (qcur cap s p)) p.length j)
theorem qans.un (hC12 : ¬ C 12) (hF : qg_F a b C) (hO : qg_O a b S C) (hne : ∀ l, C l → a l ≠ b l) {r r' : Int32} (h : qans a b S C B cap pk mu ins t r) (h' : qans a b S C B cap pk mu ins t r') : r = r' := by
  have dark : ∀ {s p}, qway a b S C t s p → ¬ (C t ∧ qg_L a b S C (a t)) → False := fun {s p} hw q => q ⟨(hw.R hC12 hF).1, s, hw.1, (hw.R hC12 hF).2⟩
  rcases h with ⟨h1, h2⟩ | ⟨s, p, h1, h2⟩ <;> rcases h' with ⟨g1, g2⟩ | ⟨s', p', g1, g2⟩
  · exact h1.trans g1.symm
  · exact (dark g1 h2).elim
  · exact (dark h1 g2).elim
  · obtain ⟨e1, e2⟩ := h1.un hC12 hF hO hne g1
    subst e1; subst e2
    rcases h2 with ⟨h2, h3⟩ | ⟨j, h2, h3⟩ <;> rcases g2 with ⟨g2, g3⟩ | ⟨j', g2, g3⟩
    · exact h2.trans g2.symm
    · have := h3 j' g3.1
      have := g3.2.1
      omega
    · have := g3 j h3.1
      have := h3.2.1
      omega
    · rw [h2, g2, qwin_un h3 g3]
theorem qx_answer (hN : 20 < N) (hW : qW u n k a b ld cap pr rt S B) (hPX : qPX u k pk mu ins) (hP : qPb k pk mu ins) (hc : qS c C) (hC : ∀ l, C l → l < k) (hF : qg_F a b C) (hO : qg_O a b S C) (ht : t < k) : ∃ (r : Int32) (u' : sg_St), fX3_answerTo N u (nI t) c = some (r, u') ∧ qfr u u' ∧ qans a b S C B cap pk mu ins t r := by
  have hk := hW.1.2.2.2.1
  have hn := hW.1.2.2.1
  have hC12 : ¬ C 12 := fun q => by have := hC 12 q; omega
  obtain ⟨r, u', h1, h2, h3⟩ := qx_way hN hW hc hC hF ht
  unfold fX3_answerTo
  rw [h1, q_b2s]
  rcases h3 with ⟨h3, h4⟩ | ⟨s, p, h3, h4, h5⟩
  · rw [h3, q_00]
    exact ⟨-1, u', rfl, h2, Or.inl ⟨rfl, h4⟩⟩
  · have hWu := hW.fr (qKW.offr h2)
    have hPu : qPX u' k pk mu ins := fun l hl => by rw [h2 19 (by omega) (by omega), h2 20 (by omega) (by omega), h2 21 (by omega) (by omega)]; exact hPX l hl
    obtain ⟨hl0, hl9⟩ := h3.len hF hC12 (hW.1.bd hC) hW.Sn hn
    have hcur : qcur cap s p < 1000000 := qcur_bd (hW.2.1 s (hW.Sn s h3.1)).2.2.2.1
    obtain ⟨r1, g1, g2⟩ := qx_first (N := N) (out := -1) (τ := qta B pk mu ins (qcur cap s p)) hN hWu hPu hP (fun i hi => hC _ (h3.mem hi)) hl9 h5 hcur (fun l hl => by rw [if_neg (q_m1 (by omega))])
    rw [h4, q_ieqz hl0 (by omega), qx_cof hN hWu hc hC hF hO ht h3, q_bs, g1, q_bs]
    rcases g2 with ⟨g2, g3⟩ | ⟨j, g2, g3⟩
    · rw [g2, q_im1a]
      exact ⟨-2, u', rfl, h2, Or.inr ⟨s, p, h3, Or.inl ⟨rfl, g3⟩⟩⟩
    · have := hC _ (h3.mem g3.1)
      rw [g2, q_im1 (by omega)]
      exact ⟨_, u', rfl, h2, Or.inr ⟨s, p, h3, Or.inr ⟨j, rfl, g3⟩⟩⟩
theorem qm_tripped (hN : 200 < N) (hM : qM v n k a b ld cap pr rt S B) (hPM : qPM v k pk mu ins) (hP : qPb k pk mu ins) (hV : ∀ l, l < k → v 19 l = qt (C l)) (hSn : ∀ i, S i → i < n) (hC : ∀ l, C l → l < k) (hF : qg_F a b C) (hO : qg_O a b S C) (ht : t < k) : ∃ (r : Int32) (v' : sg_St), fX6_tripped N v (nI t) = some (r, v') ∧ (∀ j, j ≠ 4 → j ≠ 22 → j ≠ 23 → j ≠ 24 → v' j = v j) ∧ qans a b S C B cap pk mu ins t r ∧ (∀ s p, qway a b S C t s p → v' 4 0 = nI p.length ∧ ∀ i, i < p.length → v' 23 i = nI (p.getD i 0)) := by
  have hk := hM.2.2.2.1
  have hn := hM.2.2.1
  have hC12 : ¬ C 12 := fun q => by have := hC 12 q; omega
  have hne : ∀ l, C l → a l ≠ b l := fun l hl => (hM.2.2.2.2.1 l (hC l hl)).2.2.2.2
  have hbd : ∀ l, C l → a l < n ∧ b l < n := fun l hl => ⟨(hM.2.2.2.2.1 l (hC l hl)).2.2.1, (hM.2.2.2.2.1 l (hC l hl)).2.2.2.1⟩
  obtain ⟨r, v', h1, h2, h3⟩ := qm_way hN hM hV hSn hC hF ht
  unfold fX6_tripped
  rw [h1, q_b2s]
  rcases h3 with ⟨h3, h4⟩ | ⟨h3, s, p, h4, h5, h6⟩
  · rw [h3, q_00]
    exact ⟨-1, v', rfl, h2, Or.inl ⟨rfl, h4⟩, fun s p hw => absurd ⟨(hw.R hC12 hF).1, s, hw.1, (hw.R hC12 hF).2⟩ h4⟩
  · have hMv : qM v' n k a b ld cap pr rt S B := hM.fr (fun j hj => h2 j (by omega) (by omega) (by omega) (by omega))
    have hPv : qPM v' k pk mu ins := fun l hl => by rw [h2 15 (by omega) (by omega) (by omega) (by omega), h2 16 (by omega) (by omega) (by omega) (by omega), h2 17 (by omega) (by omega) (by omega) (by omega)]; exact hPM l hl
    obtain ⟨hl0, hl9⟩ := h4.len hF hC12 hbd hSn hn
    have hR := (h4.R hC12 hF).2
    have hcap := (hM.2.2.2.2.2.1 s (hSn s h4.1)).2.2.2.2.1
    have hcur : qcur cap s p < 1000000 := qcur_bd hcap
    have hdr := qm_drawn (N := N) hMv hSn hC hO h4 hR h5 (h6 0 hl0) hl0 hl9
    have hpi : ∀ i, i < p.length → p.getD i 0 < k := fun i hi => hC _ (h4.mem hi)
    obtain ⟨r1, g1, g2⟩ := q_loop (f := fun z : Int32 × Int32 => fX6_tripped_L15 N v' z.1 z.2) (m := p.length) (N := N) (x0 := (-2, 0)) (fun i z => z.2 = nI i ∧ ((z.1 = -2 ∧ qnon p (qta B pk mu ins (qcur cap s p)) i) ∨ ∃ j, z.1 = nI (p.getD j 0) ∧ qwin p (qta B pk mu ins (qcur cap s p)) i j)) (fun r => (r = -2 ∧ qnon p (qta B pk mu ins (qcur cap s p)) p.length) ∨ ∃ j, r = nI (p.getD j 0) ∧ qwin p (qta B pk mu ins (qcur cap s p)) p.length j) (by omega) ⟨rfl, Or.inl ⟨rfl, fun j hj => absurd hj (Nat.not_lt_zero j)⟩⟩ (by
      rintro i ⟨f, z⟩ hi ⟨hz, hst⟩
      dsimp only at hz hst
      replace hz : z = nI i := hz
      subst hz
      have hl := hpi i hi
      have hb : qta B pk mu ins (qcur cap s p) (p.getD i 0) ≤ 99902 := qta_bd hP hl
      have h18 := (hMv.2.2.2.2.2.2 _ hl).2.2.2
      have head : fX6_tripped_L15 N v' f (nI i) = fX6_tripped_j55 N v' f (nI i) (nI (p.getD i 0)) (qti (qta B pk mu ins (qcur cap s p) (p.getD i 0))) := by
        unfold fX6_tripped_L15
        rw [h5, q_ile0 hi (by omega)]
        simp (disch := omega) only [q_ck, q_cl, q_gt, h6 i hi, h18]
        by_cases q : B (p.getD i 0)
        · rw [qt_1 q, q_10, hdr, q_bs, qm_time hk hPv hP hl hcur, q_bs, qta_1 q]
        · rw [qt_0 q, q_00, qta_0 q]
          rfl
      refine Or.inl ?_
      show ∃ y, fX6_tripped_L15 N v' f (nI i) = some (.inl y) ∧ _
      rw [head]
      unfold fX6_tripped_j55 fX6_tripped_j81
      by_cases q0 : qta B pk mu ins (qcur cap s p) (p.getD i 0) = 0
      · rw [q0, qti_0, q_im1a, q_sc]
        exact ⟨_, rfl, rfl, hst.imp (fun z => ⟨z.1, qnon_skip z.2 q0⟩) (fun ⟨j, z1, z3⟩ => ⟨j, z1, qwin_skip z3 q0⟩)⟩
      · rw [qti_1 (by omega), q_im1 (by omega), q_sc]
        rcases hst with ⟨y1, y3⟩ | ⟨j, y1, y3⟩
        · replace y1 : f = -2 := y1
          subst y1
          rw [if_pos (by decide)]
          exact ⟨_, rfl, rfl, Or.inr ⟨i, rfl, qwin_first y3 (by omega)⟩⟩
        · replace y1 : f = nI (p.getD j 0) := y1
          subst y1
          have hpj := hpi j (by have := y3.1; omega)
          have hbj : qta B pk mu ins (qcur cap s p) (p.getD j 0) ≤ 99902 := qta_bd hP hpj
          have hBj : B (p.getD j 0) := Classical.byContradiction (fun q => by have := y3.2.1; rw [qta_0 q] at this; omega)
          have ht : fX6_time N v' (nI (p.getD j 0)) (nI (qcur cap s p)) = some (nI (qta B pk mu ins (qcur cap s p) (p.getD j 0))) := by
            rw [qm_time hk hPv hP hpj hcur, ← qta_1 (B := B) hBj, qti_1 y3.2.1]
          rw [q_iltz (by omega), hdr, q_bs, ht, q_bs]
          by_cases q1 : qta B pk mu ins (qcur cap s p) (p.getD j 0) < qta B pk mu ins (qcur cap s p) (p.getD i 0)
          · rw [q_ilt1 q1 (by omega)]
            exact ⟨_, rfl, rfl, Or.inr ⟨j, rfl, qwin_keep y3 q1⟩⟩
          · rw [q_ilt0 (by omega) (by omega)]
            exact ⟨_, rfl, rfl, Or.inr ⟨i, rfl, qwin_new y3 (by omega) (by omega)⟩⟩) (by
      rintro ⟨f, z⟩ ⟨hz, hst⟩
      dsimp only at hz hst
      replace hz : z = nI p.length := hz
      subst hz
      refine ⟨f, ?_, hst⟩
      show fX6_tripped_L15 N v' f (nI p.length) = _
      unfold fX6_tripped_L15
      rw [h5]
      simp (disch := omega) only [q_ile0, q_ile1, q_ilt0, q_ilt1, q_ieq0, q_ieq1, q_iltz, q_ilez, q_ilez0, q_izlt, q_im1, q_im1a, q_ieqz, q_ieqz0, q_l10, q_l12, q_ck, q_cl, q_gt, q_bs, q_b2s, q_ls, q_sc, nI_add, if_true, if_false, ite_true, ite_false, reduceIte, q_10, q_01, q_11, q_00])
    rw [h3, q_10, g1]
    refine ⟨r1, v', rfl, h2, Or.inr ⟨s, p, h4, g2⟩, fun s' p' hw => ?_⟩
    obtain ⟨e1, e2⟩ := h4.un hC12 hF hO hne hw
    subst e1; subst e2
    exact ⟨h5, h6⟩
end TR
