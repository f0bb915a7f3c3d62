/-! calls: a new line, another load -/
section CI
variable {N n k : Nat} {u v u' v' w : sg_St} {a b a' b' ld ld' cap cap' pr rt rt' pk mu ins : Nat → Nat} {S S' B B' C C' Lk Fl Lk' Fl' L : Nat → Prop} {c : Int32} {l x y z : Nat}
theorem ql_R (h : ∀ l, C l → a' l = a l ∧ b' l = b l) (hR : qg_R a b C x y) : qg_R a' b' C x y := fun P hx hP => hR P hx (fun l hl => by
  have := hP l hl
  rw [(h l hl).1, (h l hl).2] at this
  exact this)
theorem ql_iff (h : ∀ l, C l → a' l = a l ∧ b' l = b l) : qg_R a' b' C x y ↔ qg_R a b C x y := ⟨ql_R (fun l hl => ⟨(h l hl).1.symm, (h l hl).2.symm⟩), ql_R h⟩
theorem ql_L (h : ∀ l, C l → a' l = a l ∧ b' l = b l) : qg_L a' b' S C x ↔ qg_L a b S C x := ⟨fun ⟨s, h1, h2⟩ => ⟨s, h1, (ql_iff h).mp h2⟩, fun ⟨s, h1, h2⟩ => ⟨s, h1, (ql_iff h).mpr h2⟩⟩
theorem ql_sum (h : ∀ l, C l → a' l = a l ∧ b' l = b l) : qs ld (qg_R a' b' C x) n = qs ld (qg_R a b C x) n := qs_cg (fun _ _ => ql_iff h) (fun _ _ _ => rfl)
theorem ql_fl (h : ∀ l, C l → a' l = a l ∧ b' l = b l) (hC : C l) : qfl a' b' ld n S C l = qfl a b ld n S C l := by
  have hd : ∀ m, qg_del C l m → a' m = a m ∧ b' m = b m := fun m z => h m z.1
  obtain ⟨ea, eb⟩ := h l hC
  have La : qg_L a' b' S (qg_del C l) (a' l) ↔ qg_L a b S (qg_del C l) (a l) := by rw [ea]; exact ql_L hd
  have Lb : qg_L a' b' S (qg_del C l) (b' l) ↔ qg_L a b S (qg_del C l) (b l) := by rw [eb]; exact ql_L hd
  by_cases q : qg_L a b S (qg_del C l) (a l)
  · rw [qfl_a q, qfl_a (La.mpr q), eb, ql_sum hd]
  · by_cases q2 : qg_L a b S (qg_del C l) (b l)
    · rw [qfl_b q q2, qfl_b (fun z => q (La.mp z)) (Lb.mpr q2), ea, ql_sum hd]
    · rw [qfl_0 q q2, qfl_0 (fun z => q (La.mp z)) (fun z => q2 (Lb.mp z))]
theorem qgood_line (hg : qgood n k a b ld cap rt S C) (h : ∀ l, C l → a' l = a l ∧ b' l = b l ∧ rt' l = rt l) : qgood n (k + 1) a' b' ld cap rt' S C := by
  obtain ⟨h1, h2, h3, h4, h5⟩ := hg
  have h0 : ∀ l, C l → a' l = a l ∧ b' l = b l := fun l hl => ⟨(h l hl).1, (h l hl).2.1⟩
  refine ⟨fun l hl => by have := h1 l hl; omega, fun l hl q => ?_, fun s t hs ht hR => h3 s t hs ht ((ql_iff h0).mp hR), fun s hs => ?_, fun m => ?_⟩
  · rw [(h0 l hl).1, (h0 l hl).2] at q
    exact h2 l hl ((ql_iff (fun m z => h0 m z.1)).mp q)
  · rw [ql_sum h0]; exact h4 s hs
  · by_cases hC : C m
    · rw [qcu_1 hC, ql_fl h0 hC, ← qcu_1 hC, (h m hC).2.2]
      exact h5 m
    · rw [qcu_0 hC]
      exact Nat.zero_le _
theorem qJ.line (h : qJ n k a b ld cap pr rt pk mu ins S B C Lk Fl u v) (hk : k < 12) (hB : ∀ i, i ≠ k → (B' i ↔ B i)) {cc : Nat} (hx : x < n) (hy : y < n) (hxy : x ≠ y) (b1 : 0 < cc ∧ cc ≤ 999) (F : ∀ j, j ≠ 1 → j ≠ 3 → j ≠ 14 → j ≠ 15 → j ≠ 16 → j ≠ 19 → j ≠ 20 → j ≠ 21 → u' j = u j) (F1 : u' 1 0 = nI (k + 1)) (F3 : qS (u' 3 0) B') (Fi : ∀ i, i ≠ k → u' 14 i = u 14 i ∧ u' 15 i = u 15 i ∧ u' 16 i = u 16 i ∧ u' 19 i = u 19 i ∧ u' 20 i = u 20 i ∧ u' 21 i = u 21 i) (Fn : u' 14 k = nI x ∧ u' 15 k = nI y ∧ u' 16 k = nI cc ∧ u' 19 k = nI cc ∧ u' 20 k = nI 1 ∧ u' 21 k = nI 0) (G : ∀ j, j ≠ 0 → j ≠ 2 → j ≠ 12 → j ≠ 13 → j ≠ 14 → j ≠ 15 → j ≠ 16 → j ≠ 18 → v' j = v j) (G1 : v' 2 0 = nI (k + 1)) (Gi : ∀ i, i ≠ k → v' 12 i = v 12 i ∧ v' 13 i = v 13 i ∧ v' 14 i = v 14 i ∧ v' 15 i = v 15 i ∧ v' 16 i = v 16 i ∧ v' 18 i = v 18 i) (Gn : v' 12 k = nI x ∧ v' 13 k = nI y ∧ v' 14 k = nI cc ∧ v' 15 k = nI cc ∧ v' 16 k = nI 1 ∧ v' 18 k = qt (B' k)) : qJ n (k + 1) (qpt a k x) (qpt b k y) ld cap pr (qpt rt k cc) (qpt pk k cc) (qpt mu k 1) (qpt ins k 0) S B' C Lk Fl u' v' := by
  obtain ⟨h1, h2, h3, h4, h5, h6, h7, h8, h9, h10, h11, h12⟩ := h
  obtain ⟨⟨x0, x1, xn, xk, xl⟩, xi, xr, xS, xSn, xB, xBk⟩ := h1
  obtain ⟨y0, y1, yn, yk, yl, yi, yr⟩ := h2
  have hO := h12.2 k (Nat.le_refl k) hk
  have hCk : ¬ C k := fun q => Nat.lt_irrefl k (h8.1 k q)
  have hLk : ¬ Lk k := fun q => Nat.lt_irrefl k (h9 k q)
  have hFk : ¬ Fl k := fun q => Nat.lt_irrefl k (h10 k q)
  have F' : ∀ j, j = 0 ∨ j = 2 ∨ (3 < j ∧ j < 14) ∨ j = 17 ∨ j = 18 → u' j = u j := fun j hj => F j (by omega) (by omega) (by omega) (by omega) (by omega) (by omega) (by omega) (by omega)
  have G' : ∀ j, j = 1 ∨ (2 < j ∧ j < 12) ∨ j = 17 ∨ 18 < j → v' j = v j := fun j hj => G j (by omega) (by omega) (by omega) (by omega) (by omega) (by omega) (by omega) (by omega)
  refine ⟨⟨⟨?_, F1, xn, by omega, fun l hl => ?_⟩, fun i hi => ?_, fun l hl => ?_, ?_, xSn, F3, fun l hl => ?_⟩, ⟨?_, G1, yn, by omega, fun l hl => ?_, fun i hi => ?_, fun l hl => ?_⟩, ?_, fun l hl => ?_, fun l hl => ?_, fun l hl => ?_, fun l hl => ?_, ?_, fun l hl => by have := h9 l hl; omega, fun l hl => by have := h10 l hl; omega, ?_, fun i q1 q2 => ?_, fun l q1 q2 => ?_⟩
  · rw [F' 0 (by omega)]; exact x0
  · by_cases e : l = k
    · rw [e, qpt_s, qpt_s]; exact ⟨Fn.1, Fn.2.1, hx, hy, hxy⟩
    · rw [qpt_o e, qpt_o e, (Fi l e).1, (Fi l e).2.1]; exact xl l (by omega)
  · rw [F' 11 (by omega), F' 12 (by omega), F' 13 (by omega)]; exact xi i hi
  · by_cases e : l = k
    · rw [e, qpt_s]; exact ⟨Fn.2.2.1, b1.2, b1.1⟩
    · rw [qpt_o e, (Fi l e).2.2.1]; exact xr l (by omega)
  · rw [F' 2 (by omega)]; exact xS
  · by_cases e : l = k
    · omega
    · have := xBk l ((hB l e).mp hl); omega
  · rw [G' 1 (by omega)]; exact y0
  · by_cases e : l = k
    · rw [e, qpt_s, qpt_s]; exact ⟨Gn.1, Gn.2.1, hx, hy, hxy⟩
    · rw [qpt_o e, qpt_o e, (Gi l e).1, (Gi l e).2.1]; exact yl l (by omega)
  · rw [G' 8 (by omega), G' 9 (by omega), G' 10 (by omega), G' 11 (by omega)]; exact yi i hi
  · by_cases e : l = k
    · rw [e, qpt_s]; exact ⟨Gn.2.2.1, b1.2, b1.1, Gn.2.2.2.2.2⟩
    · rw [qpt_o e, (Gi l e).2.2.1, (Gi l e).2.2.2.2.2, qt_cg (hB l e)]; exact yr l (by omega)
  · rw [F' 4 (by omega), F' 5 (by omega), F' 6 (by omega)]; exact h3
  · rw [G' 19 (by omega), G' 20 (by omega), G' 21 (by omega)]
    by_cases e : l = k
    · rw [e, qt_0 hCk, qt_0 hLk, qt_0 hFk]; exact hO.2
    · exact h4 l (by omega)
  · by_cases e : l = k
    · rw [e, qpt_s, qpt_s, qpt_s]; exact Fn.2.2.2
    · rw [qpt_o e, qpt_o e, qpt_o e, (Fi l e).2.2.2.1, (Fi l e).2.2.2.2.1, (Fi l e).2.2.2.2.2]; exact h5 l (by omega)
  · rw [G' 17 (by omega)]
    by_cases e : l = k
    · rw [e, qpt_s, qpt_s, qpt_s]; exact ⟨Gn.2.2.2.1, Gn.2.2.2.2.1, hO.1⟩
    · rw [qpt_o e, qpt_o e, qpt_o e, (Gi l e).2.2.2.1, (Gi l e).2.2.2.2.1]; exact h6 l (by omega)
  · by_cases e : l = k
    · rw [e, qpt_s, qpt_s, qpt_s]; exact ⟨b1.1, b1.2, by omega, by omega, by omega⟩
    · rw [qpt_o e, qpt_o e, qpt_o e]; exact h7 l (by omega)
  · exact qgood_line h8 (fun l hl => by
      have := h8.1 l hl
      have e : l ≠ k := by omega
      exact ⟨qpt_o e, qpt_o e, qpt_o e⟩)
  · rw [F' 10 (by omega), G' 3 (by omega)]; exact h11
  · rw [G' 8 (by omega), G' 9 (by omega), G' 10 (by omega), G' 11 (by omega)]; exact h12.1 i q1 q2
  · rw [G' 17 (by omega), G' 19 (by omega), G' 20 (by omega), G' 21 (by omega)]; exact h12.2 l (by omega) q2
theorem qx_addL1 (e0 : u 1 0 = nI k) (hk : k < 12) (p q r : Int32) : fX1_addLineBetween N u p q r 1 = some (nI k, sg_set (sg_set (sg_set (sg_set (sg_set u 14 k p) 15 k q) 16 k r) 3 0 (u 3 0 ||| qB k)) 1 0 (nI (k + 1))) := by
  unfold fX1_addLineBetween fX1_addLineBetween_j58
  rw [e0, q_l12, q_ilt1 hk (by omega), q_ck hk (by omega), q_gt, q_gt, q_gt, q_cl (show k < 2147483648 by omega), q_10, qx_bit, q_bs, q_ls, sg_set_o (show (3 : Nat) ≠ 16 by omega), sg_set_o (show (3 : Nat) ≠ 15 by omega), sg_set_o (show (3 : Nat) ≠ 14 by omega), q_sc]
theorem qx_addL0 (e0 : u 1 0 = nI k) (hk : k < 12) (p q r : Int32) : fX1_addLineBetween N u p q r 0 = some (nI k, sg_set (sg_set (sg_set (sg_set u 14 k p) 15 k q) 16 k r) 1 0 (nI (k + 1))) := by
  unfold fX1_addLineBetween fX1_addLineBetween_j58
  rw [e0, q_l12, q_ilt1 hk (by omega), q_ck hk (by omega), q_gt, q_gt, q_gt, q_cl (show k < 2147483648 by omega), q_00, q_sc]
theorem qx_addLF (e0 : u 1 0 = nI k) (hk : k = 12) (p q r s : Int32) : fX1_addLineBetween N u p q r s = some (-1, u) := by
  unfold fX1_addLineBetween
  rw [e0, q_l12, q_ilt0 (by omega) (by omega)]
theorem qx_isL2 (e0 : u 1 0 = nI (k + 1)) (hk : k < 12) (p q r : Int32) : fX3_setUp N u (nI k) p q r = some (sg_set (sg_set (sg_set u 19 k p) 20 k q) 21 k r) := by
  unfold fX3_setUp fX1_isLine
  rw [q_iltz (by omega), e0, q_ile0 (Nat.lt_succ_self k) (by omega), q_bs, q_10, q_ck hk (by omega), q_gt, q_gt, q_gt, q_cl (show k < 2147483648 by omega)]
/-- what the reference writes for a new line -/
theorem qm_addL (e0 : v 2 0 = nI k) (hk : k < 12) (p q r s : Int32) (h1 : fX6_isNode N v p = some 1) (h2 : fX6_isNode N v q = some 1) (h3 : ¬ p = q) (h4 : fX6_in N r 1 999 = some 1) (hs : vp_nar .boolean s = s) : fX6_addLine N v p q r s = some (nI k, sg_set (sg_set (sg_set (sg_set (sg_set (sg_set (sg_set (sg_set v 0 0 0) 12 k p) 13 k q) 14 k r) 18 k s) 15 k r) 16 k 1) 2 0 (nI (k + 1))) := by
  unfold fX6_addLine
  rw [h1, q_bs, q_10, h2, q_bs, q_10, if_neg h3, h4, q_bs, q_10, e0, q_l12, q_ieq0 (by omega) (by omega) (by omega)]
  simp (disch := omega) only [sg_set_o, sg_set_s, upd_s, e0, hs, q_ck, q_gt, q_cl, q_ls, q_sc, q_pred']
theorem qx_nN (hg : qX u n k a b) (p : Int32) (hM : qM v n k a b ld cap pr rt S B) : (∃ x, x < n ∧ p = nI x ∧ fX5_needNode N u p = some (.inr (), u) ∧ fX6_isNode N v p = some 1) ∨ (fX5_needNode N u p = some (.inl 5, u) ∧ fX6_isNode N v p = some 0) := by
  rcases qx_needNode (N := N) hg p with ⟨l, h1, h2, h3⟩ | ⟨h1, h3⟩ <;> rcases qm_isNode (N := N) hM p with ⟨l', g1, g2, g3⟩ | ⟨g1, g3⟩
  · exact Or.inl ⟨l, h1, h2, h3, g3⟩
  · exact absurd h2 (g1 l h1)
  · exact absurd g2 (h1 l' g1)
  · exact Or.inr ⟨h3, g3⟩
theorem sb2 (hN : 5000 < N) (u v : sg_St) (hI : qI u v) (p p2 p3 p4 : Int32) : sb_2 N qI u v p p2 p3 p4 := by
  unfold sb_2 fX5_addLine
  obtain ⟨n, k, a, b, ld, cap, pr, rt, pk, mu, ins, S, B, C, Lk, Fl, hJ⟩ := hI
  have hn := hJ.n10
  have hk := hJ.k12
  have x0 := hJ.1.1.2.1
  have y0 := hJ.2.1.2.1
  rcases qx_nN (N := N) hJ.1.1 p hJ.2.1 with ⟨x, hx, rfl, e1, e2⟩ | ⟨e1, e2⟩
  rotate_left
  · refine ⟨(.inl 5, u), 0, sg_set v 0 0 1, ?_, ?_, q_fail hJ.I (by decide) (by decide)⟩
    · rw [e1]; rfl
    · unfold fX6_addLine
      rw [e2, q_bs, q_00]; rfl
  rw [e1, sg_bt_r]
  rcases qx_nN (N := N) hJ.1.1 p2 hJ.2.1 with ⟨y, hy, rfl, g1, g2⟩ | ⟨g1, g2⟩
  rotate_left
  · refine ⟨(.inl 5, u), 0, sg_set v 0 0 1, ?_, ?_, q_fail hJ.I (by decide) (by decide)⟩
    · rw [g1]; rfl
    · unfold fX6_addLine
      rw [e2, q_bs, q_10, g2, q_bs, q_00]; rfl
  rw [g1, sg_bt_r]
  by_cases hxy : x = y
  · refine ⟨(.inl 1, u), 0, sg_set v 0 0 2, ?_, ?_, q_fail hJ.I (by decide) (by decide)⟩
    · rw [q_ieq1 hxy]
    · unfold fX6_addLine
      rw [e2, q_bs, q_10, g2, q_bs, q_10, q_ieq1 hxy]; rfl
  rw [q_ieq0 (by omega) (by omega) (by omega)]
  have hne : ¬ nI x = nI y := fun e => hxy ((q_eq (by omega) (by omega)).mp e)
  rcases q_in (N := N) (lo := 1) (hi := 999) (L := 1) (H := 999) rfl (by decide) (by omega) (by omega) p3 with ⟨c, c1, c2, rfl, c4, c5, c6⟩ | ⟨c1, c6⟩
  rotate_left
  · refine ⟨(.inl 1, u), 0, sg_set v 0 0 2, ?_, ?_, q_fail hJ.I (by decide) (by decide)⟩
    · rcases c1 with z | ⟨z, z2⟩
      · rw [if_pos z]; rfl
      · rw [if_neg z, if_neg z2]; rfl
    · unfold fX6_addLine
      rw [e2, q_bs, q_10, g2, q_bs, q_10, if_neg hne, c6, q_bs, q_00]; rfl
  rw [if_neg c4, if_pos c5]
  by_cases h12 : k < 12
  rotate_left
  · refine ⟨(.inl 0, u), 0, sg_set v 0 0 3, ?_, ?_, q_fail hJ.I (by decide) (by decide)⟩
    · rw [qx_addLF x0 (by omega), q_b2s]; rfl
    · unfold fX6_addLine
      rw [e2, q_bs, q_10, g2, q_bs, q_10, if_neg hne, c6, q_bs, q_10, y0, q_l12, q_ieq1 (show k = 12 by omega)]; rfl
  by_cases h4 : p4 = 0
  · have hb : sg_nb p4 = 0 := if_pos h4
    rw [hb]
    have hBk : ¬ B k := fun q => Nat.lt_irrefl k (hJ.Bk k q)
    refine ⟨(.inr (nI k), sg_set (sg_set (sg_set (sg_set (sg_set (sg_set (sg_set u 14 k (nI x)) 15 k (nI y)) 16 k (nI c)) 1 0 (nI (k + 1))) 19 k (nI c)) 20 k (nI 1)) 21 k (nI 0)), nI k, sg_set (sg_set (sg_set (sg_set (sg_set (sg_set (sg_set (sg_set v 0 0 0) 12 k (nI x)) 13 k (nI y)) 14 k (nI c)) 18 k 0) 15 k (nI c)) 16 k (nI 1)) 2 0 (nI (k + 1)), ?_, qm_addL y0 h12 _ _ _ _ e2 g2 hne c6 rfl, Or.inl ⟨_, rfl, ?_, (hJ.line (B' := B) (cc := c) h12 (fun i hi => Iff.rfl) hx hy hxy ⟨by omega, c2⟩ (fun j j1 j3 j14 j15 j16 j19 j20 j21 => ?_) ?_ ?_ (fun i hi => ⟨?_, ?_, ?_, ?_, ?_, ?_⟩) ⟨?_, ?_, ?_, ?_, ?_, ?_⟩ (fun j j0 j2 j12 j13 j14 j15 j16 j18 => ?_) ?_ (fun i hi => ⟨?_, ?_, ?_, ?_, ?_, ?_⟩) ⟨?_, ?_, ?_, ?_, ?_, ?_⟩).I⟩⟩
    · rw [qx_addL0 x0 h12, q_b2s, qx_added (by omega), sg_bt0_r, qx_isL2 (by rw [sg_set_s, upd_s]) h12, q_bs]
      rfl
    · simp (disch := omega) only [sg_set_o, sg_set_s, upd_s]
    · rw [sg_set_o j21, sg_set_o j20, sg_set_o j19, sg_set_o j1, sg_set_o j16, sg_set_o j15, sg_set_o j14]
    · simp (disch := omega) only [sg_set_o, sg_set_s, upd_s]
    · simp (disch := omega) only [sg_set_o]
      exact hJ.1.sB
    all_goals first
      | (simp (disch := omega) only [sg_set_o, sg_set_s, upd_o hi]; done)
      | (simp (disch := omega) only [sg_set_o, sg_set_s, upd_s]; done)
      | (rw [sg_set_o j2, sg_set_o j16, sg_set_o j15, sg_set_o j18, sg_set_o j14, sg_set_o j13, sg_set_o j12, sg_set_o j0]; done)
      | (rw [qt_0 hBk]; simp (disch := omega) only [sg_set_o, sg_set_s, upd_s]; done)
  · have hb : sg_nb p4 = 1 := if_neg h4
    rw [hb]
    refine ⟨(.inr (nI k), sg_set (sg_set (sg_set (sg_set (sg_set (sg_set (sg_set (sg_set u 14 k (nI x)) 15 k (nI y)) 16 k (nI c)) 3 0 (u 3 0 ||| qB k)) 1 0 (nI (k + 1))) 19 k (nI c)) 20 k (nI 1)) 21 k (nI 0)), nI k, sg_set (sg_set (sg_set (sg_set (sg_set (sg_set (sg_set (sg_set v 0 0 0) 12 k (nI x)) 13 k (nI y)) 14 k (nI c)) 18 k 1) 15 k (nI c)) 16 k (nI 1)) 2 0 (nI (k + 1)), ?_, qm_addL y0 h12 _ _ _ _ e2 g2 hne c6 rfl, Or.inl ⟨_, rfl, ?_, (hJ.line (B' := fun i => B i ∨ i = k) (cc := c) h12 (fun i hi => ⟨fun z => z.elim id (fun z => absurd z hi), Or.inl⟩) hx hy hxy ⟨by omega, c2⟩ (fun j j1 j3 j14 j15 j16 j19 j20 j21 => ?_) ?_ ?_ (fun i hi => ⟨?_, ?_, ?_, ?_, ?_, ?_⟩) ⟨?_, ?_, ?_, ?_, ?_, ?_⟩ (fun j j0 j2 j12 j13 j14 j15 j16 j18 => ?_) ?_ (fun i hi => ⟨?_, ?_, ?_, ?_, ?_, ?_⟩) ⟨?_, ?_, ?_, ?_, ?_, ?_⟩).I⟩⟩
    · rw [qx_addL1 x0 h12, q_b2s, qx_added (by omega), sg_bt0_r, qx_isL2 (by rw [sg_set_s, upd_s]) h12, q_bs]
      rfl
    · simp (disch := omega) only [sg_set_o, sg_set_s, upd_s]
    · rw [sg_set_o j21, sg_set_o j20, sg_set_o j19, sg_set_o j1, sg_set_o j3, sg_set_o j16, sg_set_o j15, sg_set_o j14]
    · simp (disch := omega) only [sg_set_o, sg_set_s, upd_s]
    · simp (disch := omega) only [sg_set_o, sg_set_s, upd_s]
      exact hJ.1.sB.or (qS.bit (by omega))
    all_goals first
      | (simp (disch := omega) only [sg_set_o, sg_set_s, upd_o hi]; done)
      | (simp (disch := omega) only [sg_set_o, sg_set_s, upd_s]; done)
      | (rw [sg_set_o j2, sg_set_o j16, sg_set_o j15, sg_set_o j18, sg_set_o j14, sg_set_o j13, sg_set_o j12, sg_set_o j0]; done)
      | (rw [qt_1 (Or.inr rfl)]; simp (disch := omega) only [sg_set_o, sg_set_s, upd_s]; done)
end CI
