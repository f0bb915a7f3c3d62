/-! the class's plans -/
section PT
variable {n : Nat} {a b ld pr : Nat → Nat} {S C0 : Nat → Prop} {p : List Nat} {V V1 V2 : List Nat → Prop} {g g1 g2 : List Nat}
/-- from the best g, the ways e on from p seen in the order of the search, to the best g' -/
def qTV (n : Nat) (a b ld pr : Nat → Nat) (S C0 : Nat → Prop) (V : List Nat → Prop) (p g g' : List Nat) : Prop := (g' = g ∨ ∃ e, V e ∧ g' = p ++ e) ∧ qsc n a b ld pr S C0 g ≤ qsc n a b ld pr S C0 g' ∧ (∀ e, V e → qsc n a b ld pr S C0 (p ++ e) ≤ qsc n a b ld pr S C0 g') ∧ (g' ≠ g → qsc n a b ld pr S C0 g < qsc n a b ld pr S C0 g' ∧ ∀ e, V e → qsc n a b ld pr S C0 (p ++ e) = qsc n a b ld pr S C0 g' → p ++ e = g' ∨ qlex g' (p ++ e))
theorem qTV_cut (h : ∀ e, V e → qsc n a b ld pr S C0 (p ++ e) ≤ qsc n a b ld pr S C0 g) : qTV n a b ld pr S C0 V p g g := ⟨Or.inl rfl, Nat.le_refl _, h, fun q => absurd rfl q⟩
theorem qTV_cg (h : qTV n a b ld pr S C0 V1 p g g1) (hV : ∀ e, V1 e ↔ V2 e) : qTV n a b ld pr S C0 V2 p g g1 :=
  ⟨h.1.imp id (fun ⟨e, q1, q2⟩ => ⟨e, (hV e).mp q1, q2⟩), h.2.1, fun e q => h.2.2.1 e ((hV e).mpr q), fun q => ⟨(h.2.2.2 q).1, fun e r => (h.2.2.2 q).2 e ((hV e).mpr r)⟩⟩
theorem qTV_tr (h : qTV n a b ld pr S C0 V1 p g g1) (h2 : qTV n a b ld pr S C0 V2 p g1 g2) (hl : ∀ e1 e2, V1 e1 → V2 e2 → qsc n a b ld pr S C0 (p ++ e1) = qsc n a b ld pr S C0 (p ++ e2) → qlex (p ++ e1) (p ++ e2)) : qTV n a b ld pr S C0 (fun e => V1 e ∨ V2 e) p g g2 := by
  obtain ⟨a1, a2, a3, a4⟩ := h
  obtain ⟨b1, b2, b3, b4⟩ := h2
  by_cases q : g2 = g1
  · subst q
    refine ⟨a1.imp id (fun ⟨e, q1, q2⟩ => ⟨e, Or.inl q1, q2⟩), a2, fun e r => r.elim (a3 e) (b3 e), fun r => ⟨(a4 r).1, fun e r1 r2 => ?_⟩⟩
    rcases r1 with r1 | r1
    · exact (a4 r).2 e r1 r2
    · obtain ⟨e1, t1, t2⟩ := a1.resolve_left r
      rw [t2]
      rw [t2] at r2
      exact Or.inr (hl e1 e t1 r1 r2.symm)
  · obtain ⟨c1, c2⟩ := b4 q
    refine ⟨Or.inr ?_, by omega, fun e r => r.elim (fun r => Nat.le_trans (a3 e r) b2) (b3 e), fun _ => ⟨by omega, fun e r1 r2 => ?_⟩⟩
    · obtain ⟨e, t1, t2⟩ := b1.resolve_left q
      exact ⟨e, Or.inr t1, t2⟩
    · rcases r1 with r1 | r1
      · have := a3 e r1
        omega
      · exact c2 e r1 r2
theorem qTV_in {l : Nat} (h : qTV n a b ld pr S C0 V (p ++ [l]) g g1) : qTV n a b ld pr S C0 (fun e => ∃ r, e = l :: r ∧ V r) p g g1 := by
  have e0 : ∀ r, p ++ l :: r = p ++ [l] ++ r := fun r => by rw [List.append_assoc]; rfl
  refine ⟨h.1.imp id (fun ⟨r, q1, q2⟩ => ⟨l :: r, ⟨r, rfl, q1⟩, by rw [e0]; exact q2⟩), h.2.1, fun e ⟨r, q1, q2⟩ => by rw [q1, e0]; exact h.2.2.1 r q2, fun q => ⟨(h.2.2.2 q).1, fun e ⟨r, q1, q2⟩ q3 => ?_⟩⟩
  rw [q1, e0]
  rw [q1, e0] at q3
  exact (h.2.2.2 q).2 r q2 q3
theorem qTV_one {e0 : List Nat} (h : (g1 = p ++ e0 ∧ qsc n a b ld pr S C0 g < qsc n a b ld pr S C0 (p ++ e0)) ∨ (g1 = g ∧ ¬ qsc n a b ld pr S C0 g < qsc n a b ld pr S C0 (p ++ e0))) : qTV n a b ld pr S C0 (fun e => e = e0) p g g1 := by
  rcases h with ⟨h1, h2⟩ | ⟨h1, h2⟩
  · subst h1
    exact ⟨Or.inr ⟨e0, rfl, rfl⟩, by omega, fun e q => by rw [q]; exact Nat.le_refl _, fun _ => ⟨h2, fun e q _ => Or.inl (by rw [q])⟩⟩
  · subst h1
    exact qTV_cut (fun e q => by rw [q]; omega)
end PT
section PX
variable {N n k : Nat} {u v w : sg_St} {a b ld cap pr rt : Nat → Nat} {S B Lk Fl C0 P : Nat → Prop} {s : Int32} {l : Nat}
/-- the class while it plans: net, switches, candidates -/
def qZ (u : sg_St) (n k : Nat) (a b ld cap pr rt : Nat → Nat) (S B Lk Fl C0 : Nat → Prop) : Prop := qW u n k a b ld cap pr rt S B ∧ qS (u 4 0) C0 ∧ qS (u 5 0) Lk ∧ qS (u 6 0) Fl ∧ qS (u 7 0) (qcand B Lk Fl C0)
def qKZ (u v : sg_St) : Prop := ∀ j, j ≠ 8 → j ≠ 9 → j ≠ 17 → j ≠ 18 → v j = u j
theorem qKZ.tr (h : qKZ u v) (h2 : qKZ v w) : qKZ u w := fun j h3 h4 h5 h6 => (h2 j h3 h4 h5 h6).trans (h j h3 h4 h5 h6)
theorem qZ.fr (h : qZ u n k a b ld cap pr rt S B Lk Fl C0) (f : qKZ u v) : qZ v n k a b ld cap pr rt S B Lk Fl C0 := by
  obtain ⟨h1, h2, h3, h4, h5⟩ := h
  refine ⟨h1.fr (fun j hj => f j (by omega) (by omega) (by omega) (by omega)), ?_, ?_, ?_, ?_⟩
  · rw [f 4 (by omega) (by omega) (by omega) (by omega)]; exact h2
  · rw [f 5 (by omega) (by omega) (by omega) (by omega)]; exact h3
  · rw [f 6 (by omega) (by omega) (by omega) (by omega)]; exact h4
  · rw [f 7 (by omega) (by omega) (by omega) (by omega)]; exact h5
/-- the best plan so far, as the class has it -/
def qBX (u : sg_St) (n : Nat) (a b ld pr : Nat → Nat) (S C0 : Nat → Prop) (g : List Nat) : Prop := qS (u 8 0) (fun i => i ∈ g) ∧ u 9 0 = nI (qworth n a b ld pr S (qcl C0 g)) ∧ g.Nodup ∧ ∀ x, x ∈ g → x < 12
theorem qBX.fr {g : List Nat} (h : qBX u n a b ld pr S C0 g) (f : qfr u v) : qBX v n a b ld pr S C0 g := by
  unfold qBX
  rw [f 8 (by omega) (by omega), f 9 (by omega) (by omega)]
  exact h
theorem q_len12 {g : List Nat} (h : g.Nodup) (h2 : ∀ x, x ∈ g → x < 12) : g.length ≤ 12 := by
  have := qc_list g h h2
  have := qc_le (P := fun i => i ∈ g) (n := 12)
  omega
theorem qZ.wb (h : qZ u n k a b ld cap pr rt S B Lk Fl C0) (C : Nat → Prop) : qworth n a b ld pr S C ≤ 8910 :=
  qworth_bd (fun i hi => ⟨(h.1.2.1 i hi).2.2.2.2.1, (h.1.2.1 i hi).2.2.2.2.2.1⟩) h.1.1.2.2.1
theorem qx_val (hN : 20 < N) (hZ : qZ u n k a b ld cap pr rt S B Lk Fl C0) (hC0 : ∀ l, C0 l → l < k) (hs : qS s P) (hP : ∀ l, P l → l < k) : fX2_valueOf N u s = some (nI (qworth n a b ld pr S (fun m => C0 m ∨ P m))) := by
  obtain ⟨hW, h4, -, -, -⟩ := hZ
  obtain ⟨r, e1, e2⟩ := qx_live (N := N) hW.1 hN (h4.or hs) (fun l q => q.elim (hC0 l) (hP l)) hW.sS hW.Sn
  unfold fX2_valueOf
  rw [e1, q_bs, qx_wi (pr := pr) hW.1 hN hW.ldv (fun i hi => (hW.2.1 i hi).2.2.1) e2]
  rfl
theorem qx_better {g : List Nat} {x m : Nat} (hb : qBX u n a b ld pr S C0 g) (hw : qworth n a b ld pr S (qcl C0 g) ≤ 8910) (hx : x ≤ 8910) (hm : m ≤ 13) : fX2_isBetter N u (nI x) (nI m) = some (if qworth n a b ld pr S (qcl C0 g) < x ∨ (x = qworth n a b ld pr S (qcl C0 g) ∧ m < g.length) then 1 else 0) := by
  obtain ⟨h1, h2, h3, h4⟩ := hb
  have hl := q_len12 h3 h4
  unfold fX2_isBetter fX2_isBetter_j31
  rw [h2]
  by_cases q1 : qworth n a b ld pr S (qcl C0 g) < x
  · rw [q_ilt1 q1 (by omega), if_pos (Or.inl q1)]
  · rw [q_ilt0 (by omega) (by omega)]
    by_cases q2 : x = qworth n a b ld pr S (qcl C0 g)
    · rw [q_ieq1 q2, qx_count N h1 h4, q_bs, qc_list g h3 h4]
      by_cases q3 : m < g.length
      · rw [q_ile0 q3 (by omega), if_pos (Or.inr ⟨q2, q3⟩)]
      · rw [q_ile1 (by omega) (by omega), if_neg (fun z => z.elim q1 (fun z => q3 z.2))]
    · rw [q_ieq0 (by omega) (by omega) (by omega), if_neg (fun z => z.elim q1 (fun z => q2 z.1))]
theorem qsc_lt {g e : List Nat} (hg : g.length ≤ 12) (he : e.length ≤ 12) : qsc n a b ld pr S C0 g < qsc n a b ld pr S C0 e ↔ (qworth n a b ld pr S (qcl C0 g) < qworth n a b ld pr S (qcl C0 e) ∨ (qworth n a b ld pr S (qcl C0 e) = qworth n a b ld pr S (qcl C0 g) ∧ e.length < g.length)) := by
  unfold qsc
  omega
theorem qx_keep {g e : List Nat} (hZ : qZ u n k a b ld cap pr rt S B Lk Fl C0) (hb : qBX u n a b ld pr S C0 g) (hs : qS s (fun i => i ∈ e)) (hnd : e.Nodup) (he : ∀ x, x ∈ e → x < 12) : ∃ u' g', fX2_keepIfBetter N u s (nI (qworth n a b ld pr S (qcl C0 e))) = some u' ∧ qKZ u u' ∧ qBX u' n a b ld pr S C0 g' ∧ ((g' = e ∧ qsc n a b ld pr S C0 g < qsc n a b ld pr S C0 e) ∨ (g' = g ∧ ¬ qsc n a b ld pr S C0 g < qsc n a b ld pr S C0 e)) := by
  have hl := q_len12 hnd he
  have hlg := q_len12 hb.2.2.1 hb.2.2.2
  unfold fX2_keepIfBetter
  rw [qx_count N hs he, q_bs, qc_list e hnd he, qx_better hb (hZ.wb _) (hZ.wb _) (by omega), q_bs]
  by_cases q : qsc n a b ld pr S C0 g < qsc n a b ld pr S C0 e
  · rw [if_pos ((qsc_lt hlg hl).mp q), q_10]
    refine ⟨_, e, rfl, fun j h1 h2 h3 h4 => ?_, ⟨?_, ?_, hnd, he⟩, Or.inl ⟨rfl, q⟩⟩
    · rw [sg_set_o h2, sg_set_o h1]
    · show qS (sg_set (sg_set u 8 0 s) 9 0 _ 8 0) _
      rw [sg_set_o (by omega), sg_set_s, upd_s]; exact hs
    · show sg_set (sg_set u 8 0 s) 9 0 _ 9 0 = _
      rw [sg_set_s, upd_s]
  · rw [if_neg (fun z => q ((qsc_lt hlg hl).mpr z)), q_00]
    exact ⟨u, g, rfl, fun _ _ _ _ _ => rfl, hb, Or.inr ⟨rfl, q⟩⟩
theorem qx_extend (hN : 20 < N) (hC0 : ∀ l, C0 l → l < k) : ∀ (d : Nat) (u : sg_St) (s : Int32) (p : List Nat) (f : Nat) (g : List Nat), qZ u n k a b ld cap pr rt S B Lk Fl C0 → qgood n k a b ld cap rt S (qcl C0 p) → qS s (fun i => i ∈ p) → p.Nodup → (∀ x, x ∈ p → x < f ∧ x < k) → f ≤ 12 → 13 ≤ d + f → qBX u n a b ld pr S C0 g → ∃ u' g', fX2_extend N d u s (nI f) = some u' ∧ qKZ u u' ∧ qBX u' n a b ld pr S C0 g' ∧ qTV n a b ld pr S C0 (fun e => e ≠ [] ∧ qval n k a b ld cap rt S B Lk Fl C0 p f e) p g g'
  | 0, u, s, p, f, g, hZ, hgd, hs, hnd, hp, hf, hd, hb => by omega
  | d + 1, u, s, p, f, g, hZ, hgd, hs, hnd, hp, hf, hd, hb => by
    have hk := hZ.1.1.2.2.2.1
    have hBk := hZ.1.2.2.2.2.2.2
    have hp12 : ∀ x, x ∈ p → x < 12 := fun x q => by have := hp x q; omega
    have hpl := q_len12 hnd hp12
    have elen : ∀ {f' e}, f ≤ f' → qval n k a b ld cap rt S B Lk Fl C0 p f' e → (p ++ e).Nodup ∧ ∀ x, x ∈ p ++ e → x < 12 := fun {f' e} h1 h2 => by
      refine ⟨List.nodup_append.mpr ⟨hnd, qval_nd e p f' h2, fun x hx y hy => ?_⟩, fun x hx => ?_⟩
      · have := hp x hx
        have := (qval_ge e p f' h2 y hy).1
        omega
      · rcases List.mem_append.mp hx with hx | hx
        · exact hp12 x hx
        · have := hBk x (qval_ge e p f' h2 x hx).2.1
          omega
    obtain ⟨u', hu', hfr, g', hb', hT⟩ := q_lp (f := fun z : sg_St × Int32 => fX2_extend_L2 N (fX2_extend N d) z.1 s z.2) (m := 12)
      (fun i z => z.2 = nI i ∧ f ≤ i ∧ qKZ u z.1 ∧ ∃ g1, qBX z.1 n a b ld pr S C0 g1 ∧ qTV n a b ld pr S C0 (fun e => ∃ l r, e = l :: r ∧ l < i ∧ qval n k a b ld cap rt S B Lk Fl C0 p f e) p g g1)
      (fun r => qKZ u r ∧ ∃ g1, qBX r n a b ld pr S C0 g1 ∧ qTV n a b ld pr S C0 (fun e => e ≠ [] ∧ qval n k a b ld cap rt S B Lk Fl C0 p f e) p g g1) (by
      rintro i ⟨x, z⟩ hi ⟨hz, hfi, hfr, g1, hb1, hT⟩
      dsimp only at hz hfi hfr g1 hb1 hT
      refine Classical.byContradiction (fun hG => ?_)
      replace hz : z = nI i := hz
      subst hz
      replace hfr : qKZ u x := hfr
      replace hb1 : qBX x n a b ld pr S C0 g1 := hb1
      have hZx := hZ.fr hfr
      obtain ⟨hWx, x4, x5, x6, x7⟩ := hZx
      have hZx := hZ.fr hfr
      -- no way on starts with i
      have skip : (∀ r, ¬ qval n k a b ld cap rt S B Lk Fl C0 p f (i :: r)) → ∀ x', qKZ u x' → qBX x' n a b ld pr S C0 g1 → fX2_extend_L2 N (fX2_extend N d) x s (nI i) = some (.inl (x', nI (i + 1))) → False := fun hno x' h1 h2 e => hG (Or.inl ⟨_, e, rfl, by omega, h1, g1, h2, qTV_cg hT (fun e => ⟨fun ⟨l, r, q1, q2, q3⟩ => ⟨l, r, q1, by omega, q3⟩, fun ⟨l, r, q1, q2, q3⟩ => ⟨l, r, q1, by
        rcases Nat.lt_or_ge l i with z | z
        · exact z
        · have el : l = i := by omega
          subst el
          rw [q1] at q3
          exact absurd q3 (hno r), q3⟩⟩)⟩)
      by_cases q1 : qcand B Lk Fl C0 i
      · have hik := hBk i q1.1
        have hall : qS (s ||| (x 7 0 &&& ((qB i - 1) ^^^ (-1)))) (fun m => m ∈ p ∨ (qcand B Lk Fl C0 m ∧ ¬ m < i)) := hs.or (x7.diff (qS.below hi))
        have hval := qx_val (N := N) hN hZx hC0 hall (fun l q => q.elim (fun q => (hp l q).2) (fun q => hBk l q.1.1))
        have hcnt := qx_count N hs hp12
        rw [qc_list p hnd hp12] at hcnt
        have hbe := qx_better (N := N) (x := qworth n a b ld pr S (fun m => C0 m ∨ (m ∈ p ∨ (qcand B Lk Fl C0 m ∧ ¬ m < i)))) (m := p.length + 1) hb1 (hZx.wb _) (hZx.wb _) (by omega)
        by_cases q2 : qworth n a b ld pr S (qcl C0 g1) < qworth n a b ld pr S (fun m => C0 m ∨ (m ∈ p ∨ (qcand B Lk Fl C0 m ∧ ¬ m < i))) ∨ (qworth n a b ld pr S (fun m => C0 m ∨ (m ∈ p ∨ (qcand B Lk Fl C0 m ∧ ¬ m < i))) = qworth n a b ld pr S (qcl C0 g1) ∧ p.length + 1 < g1.length)
        · rw [if_pos q2] at hbe
          obtain ⟨x', r1, r2⟩ := qx_reason (N := N) (c := x 4 0 ||| s) hN hWx x5 x6 (x4.or hs) hgd hik
          have hKx : qKZ x x' := fun j _ _ h3 h4 => r2 j h3 h4
          have head : fX2_extend_L2 N (fX2_extend N d) x s (nI i) = (if qrs n k a b ld cap rt S B Lk Fl (qcl C0 p) i = 110 then sg_b (fX2_valueOf N x' (s ||| qB i)) (fun r23 => sg_b (fX2_keepIfBetter N x' (s ||| qB i) r23) (fun u27 => sg_b (fX2_extend N d u27 (s ||| qB i) (nI (i + 1))) (fun u30 => some (.inl (u30, nI (i + 1)))))) else some (.inl (x', nI (i + 1)))) := by
            unfold fX2_extend_L2
            rw [x7.has1 q1]
            simp (disch := omega) only [q_l12, q_ile0, q_bs, q_10, qx_bit, hval, hcnt, q_sc, hbe]
            rw [r1, q_b2s]
            rfl
          by_cases q3 : qrs n k a b ld cap rt S B Lk Fl (qcl C0 p) i = 110
          · have hZ' := hZx.fr hKx
            have hs2 : qS (s ||| qB i) (fun m => m ∈ p ++ [i]) := (hs.or (qS.bit (show i < 32 by omega))).cg (fun m => by rw [List.mem_append, List.mem_singleton])
            have hval1 : qval n k a b ld cap rt S B Lk Fl C0 p i [i] := ⟨Nat.le_refl i, q1, q3, trivial⟩
            obtain ⟨nd1, lt1⟩ := elen hfi hval1
            have hv2 := qx_val (N := N) hN hZ' hC0 hs2 (fun l q => by
              rcases List.mem_append.mp q with q | q
              · exact (hp l q).2
              · rw [List.mem_singleton.mp q]; exact hik)
            obtain ⟨y, g2, k1, k2, k3, k4⟩ := qx_keep (N := N) (s := s ||| qB i) hZ' (hb1.fr r2) hs2 nd1 lt1
            have hgd2 := qgood_snoc (B := B) (Lk := Lk) (Fl := Fl) hgd hik q3
            have hZy := hZ'.fr k2
            obtain ⟨y', g3, m1, m2, m3, m4⟩ := qx_extend hN hC0 d y (s ||| qB i) (p ++ [i]) (i + 1) g2 hZy hgd2 hs2 nd1 (fun m q => by
              rcases List.mem_append.mp q with q | q
              · have := hp m q; exact ⟨by omega, this.2⟩
              · rw [List.mem_singleton.mp q]; exact ⟨by omega, hik⟩) (by omega) (by omega) k3
            refine hG (Or.inl ⟨(y', nI (i + 1)), ?_, rfl, by omega, ((hfr.tr hKx).tr k2).tr m2, g3, m3, ?_⟩)
            · show fX2_extend_L2 N (fX2_extend N d) x s (nI i) = _
              rw [head, if_pos q3, hv2, q_bs]
              rw [show fX2_keepIfBetter N x' (s ||| qB i) (nI (qworth n a b ld pr S (fun m => C0 m ∨ m ∈ p ++ [i]))) = some y from k1, q_bs, m1]
              rfl
            · have t1 := qTV_one (e0 := [i]) k4
              have t2 := qTV_in m4
              have t12 := qTV_tr t1 t2 (fun e1 e2 z1 z2 z3 => by
                obtain ⟨r, z4, z5, z6⟩ := z2
                have hv : qval n k a b ld cap rt S B Lk Fl C0 p i (i :: r) := ⟨Nat.le_refl i, q1, q3, z6⟩
                obtain ⟨nd2, lt2⟩ := elen hfi hv
                rw [z1, z4] at z3
                have := (qsc_len z3 (q_len12 nd1 lt1) (q_len12 nd2 lt2)).1
                rw [List.length_append, List.length_append, List.length_cons, List.length_cons] at this
                have : 0 < r.length := List.length_pos_iff.mpr z5
                have : ([] : List Nat).length = 0 := rfl
                omega)
              have t3 := qTV_tr hT t12 (fun e1 e2 z1 z2 _ => by
                obtain ⟨l, r, z3, z4, z5⟩ := z1
                have : ∃ r', e2 = i :: r' := z2.elim (fun z => ⟨[], z⟩) (fun ⟨r', z, _⟩ => ⟨r', z⟩)
                obtain ⟨r', z6⟩ := this
                rw [z3, z6]
                exact qlex_at z4 r r' p)
              refine qTV_cg t3 (fun e => ⟨fun z => ?_, fun ⟨l, r, z1, z2, z3⟩ => ?_⟩)
              · rcases z with ⟨l, r, z1, z2, z3⟩ | z | ⟨r, z1, z2, z3⟩
                · exact ⟨l, r, z1, by omega, z3⟩
                · exact ⟨i, [], z, by omega, by rw [z]; exact qval_mo hfi _ _ hval1⟩
                · exact ⟨i, r, z1, by omega, by rw [z1]; exact ⟨hfi, q1, q3, z3⟩⟩
              · by_cases el : l = i
                · subst el
                  rw [z1] at z3
                  by_cases er : r = []
                  · exact Or.inr (Or.inl (by rw [z1, er]))
                  · exact Or.inr (Or.inr ⟨r, z1, er, z3.2.2.2⟩)
                · exact Or.inl ⟨l, r, z1, by omega, z3⟩
          · refine skip (fun r q => q3 q.2.2.1) x' (hfr.tr hKx) (hb1.fr r2) ?_
            rw [head, if_neg q3]
        · rw [if_neg q2] at hbe
          refine hG (Or.inr ⟨x, ?_, hfr, g1, hb1, ?_⟩)
          · show fX2_extend_L2 N (fX2_extend N d) x s (nI i) = _
            unfold fX2_extend_L2
            rw [x7.has1 q1]
            simp (disch := omega) only [q_l12, q_ile0, q_bs, q_10, qx_bit, hval, hcnt, q_sc, hbe, q_00, if_true, ite_true]
          · have cut : qTV n a b ld pr S C0 (fun e => ∃ l r, e = l :: r ∧ i ≤ l ∧ qval n k a b ld cap rt S B Lk Fl C0 p f e) p g1 g1 := qTV_cut (fun e ⟨l, r, z1, z2, z3⟩ => by
              obtain ⟨nd2, lt2⟩ := elen (Nat.le_refl f) z3
              have hl2 := q_len12 nd2 lt2
              have hl1 := q_len12 hb1.2.2.1 hb1.2.2.2
              have hsub : qworth n a b ld pr S (qcl C0 (p ++ e)) ≤ qworth n a b ld pr S (fun m => C0 m ∨ (m ∈ p ∨ (qcand B Lk Fl C0 m ∧ ¬ m < i))) := qworth_mo (fun m q => q.imp id (fun q => by
                rcases List.mem_append.mp q with q | q
                · exact Or.inl q
                · have e2 : qval n k a b ld cap rt S B Lk Fl C0 p i e := by rw [z1]; rw [z1] at z3; exact ⟨z2, z3.2⟩
                  have := qval_ge e p i e2 m q
                  exact Or.inr ⟨this.2, by omega⟩))
              have hlen : (p ++ e).length = p.length + (r.length + 1) := by rw [List.length_append, z1, List.length_cons]
              refine Nat.le_of_not_lt (fun z => ?_)
              rcases (qsc_lt hl1 hl2).mp z with z | z
              · exact q2 (Or.inl (by omega))
              · by_cases eq : qworth n a b ld pr S (fun m => C0 m ∨ (m ∈ p ∨ (qcand B Lk Fl C0 m ∧ ¬ m < i))) = qworth n a b ld pr S (qcl C0 g1)
                · exact q2 (Or.inr ⟨eq, by omega⟩)
                · exact q2 (Or.inl (by omega)))
            refine qTV_cg (qTV_tr hT cut (fun e1 e2 ⟨l, r, z1, z2, z3⟩ ⟨l', r', z4, z5, z6⟩ _ => by rw [z1, z4]; exact qlex_at (by omega) r r' p)) (fun e => ⟨fun z => ?_, fun ⟨z1, z2⟩ => ?_⟩)
            · rcases z with ⟨l, r, z1, z2, z3⟩ | ⟨l, r, z1, z2, z3⟩
              · exact ⟨by rw [z1]; exact List.cons_ne_nil _ _, z3⟩
              · exact ⟨by rw [z1]; exact List.cons_ne_nil _ _, z3⟩
            · cases e with
              | nil => exact absurd rfl z1
              | cons l r =>
                rcases Nat.lt_or_ge l i with z | z
                · exact Or.inl ⟨l, r, rfl, z, z2⟩
                · exact Or.inr ⟨l, r, rfl, z, z2⟩
      · refine skip (fun r q => q1 q.2.1) x hfr hb1 ?_
        unfold fX2_extend_L2
        rw [x7.has0 (by omega) q1]
        simp (disch := omega) only [q_ile0, q_ile1, q_ilt0, q_ilt1, q_ieq0, q_ieq1, q_iltz, q_ilez, q_ilez0, q_izlt, q_im1, q_im1a, q_ieqz, q_ieqz0, q_l10, q_l12, q_ck, q_cl, q_gt, q_bs, q_b2s, q_ls, q_sc, nI_add, if_true, if_false, ite_true, ite_false, reduceIte, q_10, q_01, q_11, q_00]) (by
      rintro ⟨x, z⟩ ⟨hz, hfi, hfr, g1, hb1, hT⟩
      dsimp only at hz hfi hfr g1 hb1 hT
      replace hz : z = nI 12 := hz
      subst hz
      refine ⟨x, ?_, hfr, g1, hb1, qTV_cg hT (fun e => ⟨fun ⟨l, r, z1, z2, z3⟩ => ⟨by rw [z1]; exact List.cons_ne_nil _ _, z3⟩, fun ⟨z1, z2⟩ => ?_⟩)⟩
      · show fX2_extend_L2 N (fX2_extend N d) x s (nI 12) = _
        unfold fX2_extend_L2
        simp (disch := omega) only [q_ile0, q_ile1, q_ilt0, q_ilt1, q_ieq0, q_ieq1, q_iltz, q_ilez, q_ilez0, q_izlt, q_im1, q_im1a, q_ieqz, q_ieqz0, q_l10, q_l12, q_ck, q_cl, q_gt, q_bs, q_b2s, q_ls, q_sc, nI_add, if_true, if_false, ite_true, ite_false, reduceIte, q_10, q_01, q_11, q_00]
      · cases e with
        | nil => exact absurd rfl z1
        | cons l r => exact ⟨l, r, rfl, by have := hBk l z2.2.1.1; omega, z2⟩) (12 - f) f N (u, nI f) (by omega) (by omega) ⟨rfl, Nat.le_refl f, fun _ _ _ _ _ => rfl, g, hb, qTV_cut (fun e ⟨l, r, z1, z2, z3⟩ => by rw [z1] at z3; have := z3.1; omega)⟩
    exact ⟨u', g', hu', hfr, hb', hT⟩
end PX
