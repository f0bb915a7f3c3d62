/-! calls: a new node -/
section CH
variable {N n k : Nat} {u v u' v' w : sg_St} {a b a' b' ld ld' cap cap' pr rt rt' pk mu ins : Nat → Nat} {S S' B B' C C' Lk Fl Lk' Fl' L : Nat → Prop} {l x y : Nat}
theorem qn_iso (h : ∀ l, C l → a l < n ∧ b l < n) (hR : qg_R a b C n y) : y = n :=
  hR (fun z => z = n) rfl (fun l hl => ⟨fun (e : a l = n) => absurd (h l hl).1 (by omega), fun (e : b l = n) => absurd (h l hl).2 (by omega)⟩)
theorem qn_sum (h : ∀ l, C l → a l < n ∧ b l < n) (hx : x < n) (hl : ∀ i, i ≠ n → ld' i = ld i) : qs ld' (qg_R a b C x) (n + 1) = qs ld (qg_R a b C x) n := by
  rw [qs_s0 (f := ld') (P := qg_R a b C x) (n := n) (fun q => absurd (qg_bd h hx q) (Nat.lt_irrefl n))]
  exact qs_cg (fun _ _ => Iff.rfl) (fun i hi _ => hl i (by omega))
theorem qn_L (h : ∀ l, C l → a l < n ∧ b l < n) (hx : x < n) (hS : ∀ i, i ≠ n → (S' i ↔ S i)) : qg_L a b S' C x ↔ qg_L a b S C x :=
  ⟨fun ⟨s, h1, h2⟩ => ⟨s, (hS s (by have := qg_bd h hx h2; omega)).mp h1, h2⟩, fun ⟨s, h1, h2⟩ => ⟨s, (hS s (by have := qg_bd h hx h2; omega)).mpr h1, h2⟩⟩
theorem qn_fl (h : ∀ l, C l → a l < n ∧ b l < n) (hC : C l) (hl : ∀ i, i ≠ n → ld' i = ld i) (hS : ∀ i, i ≠ n → (S' i ↔ S i)) : qfl a b ld' (n + 1) S' C l = qfl a b ld n S C l := by
  have hd : ∀ m, qg_del C l m → a m < n ∧ b m < n := fun m z => h m z.1
  have ha := (h l hC).1
  have hb := (h l hC).2
  have La := qn_L (S := S) (S' := S') hd ha hS
  have Lb := qn_L (S := S) (S' := S') hd hb hS
  by_cases q : qg_L a b S (qg_del C l) (a l)
  · rw [qfl_a q, qfl_a (La.mpr q), qn_sum hd hb hl]
  · by_cases q2 : qg_L a b S (qg_del C l) (b l)
    · rw [qfl_b q q2, qfl_b (fun z => q (La.mp z)) (Lb.mpr q2), qn_sum hd ha hl]
    · rw [qfl_0 q q2, qfl_0 (fun z => q (La.mp z)) (fun z => q2 (Lb.mp z))]
theorem qgood_node (hg : qgood n k a b ld cap rt S C) (h : ∀ l, C l → a l < n ∧ b l < n) (hSn : ∀ i, S i → i < n) (hl : ∀ i, i ≠ n → ld' i = ld i) (hc : ∀ i, i ≠ n → cap' i = cap i) (hS : ∀ i, i ≠ n → (S' i ↔ S i)) (hn : S' n → ld' n ≤ cap' n) : qgood (n + 1) k a b ld' cap' rt S' C := by
  obtain ⟨h1, h2, h3, h4, h5⟩ := hg
  refine ⟨h1, h2, fun s t hs ht hR => ?_, fun s hs => ?_, fun m => ?_⟩
  · by_cases e : s = n
    · rw [e] at hR
      rw [e, qn_iso h hR]
    · by_cases e2 : t = n
      · rw [e2] at hR
        rw [e2, qn_iso h (qg_sy hR)]
      · exact h3 s t ((hS s e).mp hs) ((hS t e2).mp ht) hR
  · by_cases e : s = n
    · rw [e] at hs ⊢
      rw [qs_s1 (f := ld') (P := qg_R a b C n) (n := n) qg_rf, qs_no (f := ld') (P := qg_R a b C n) (n := n) (fun i hi q => by have := qn_iso h q; omega), Nat.zero_add]
      exact hn hs
    · have hs0 := (hS s e).mp hs
      rw [qn_sum h (hSn s hs0) hl, hc s e]
      exact h4 s hs0
  · by_cases hC : C m
    · rw [qcu_1 hC, qn_fl h hC hl hS, ← qcu_1 hC]
      exact h5 m
    · rw [qcu_0 hC]
      exact Nat.zero_le _
theorem qJ.node (h : qJ n k a b ld cap pr rt pk mu ins S B C Lk Fl u v) (hn : n < 10) (hS : ∀ i, i ≠ n → (S' i ↔ S i)) {cc ll pp : Nat} (b1 : cc ≤ 999) (b2 : ll ≤ 99) (b3 : pp ≤ 9) (b4 : S' n → 0 < cc ∧ ll = 0) (F : ∀ j, j ≠ 0 → j ≠ 2 → j ≠ 11 → j ≠ 12 → j ≠ 13 → u' j = u j) (F0 : u' 0 0 = nI (n + 1)) (F2 : qS (u' 2 0) S') (Fi : ∀ i, i ≠ n → u' 11 i = u 11 i ∧ u' 12 i = u 12 i ∧ u' 13 i = u 13 i) (Fn : u' 11 n = nI cc ∧ u' 12 n = nI ll ∧ u' 13 n = nI pp) (G : ∀ j, j ≠ 0 → j ≠ 1 → j ≠ 8 → j ≠ 9 → j ≠ 10 → j ≠ 11 → v' j = v j) (G1 : v' 1 0 = nI (n + 1)) (Gi : ∀ i, i ≠ n → v' 8 i = v 8 i ∧ v' 9 i = v 9 i ∧ v' 10 i = v 10 i ∧ v' 11 i = v 11 i) (Gn : v' 8 n = qt (S' n) ∧ v' 9 n = nI cc ∧ v' 10 n = nI ll ∧ v' 11 n = nI pp) : qJ (n + 1) k a b (qpt ld n ll) (qpt cap n cc) (qpt pr n pp) rt pk mu ins S' B C Lk Fl u' v' := by
  have hbd := h.1.1.bd h.gd.1
  obtain ⟨h1, h2, h3, h4, h5, h6, h7, h8, h9, h10, h11, h12⟩ := h
  obtain ⟨⟨x0, x1, xn, xk, xl⟩, xi, xr, xS, xSn, xB, xBk⟩ := h1
  obtain ⟨y0, y1, yn, yk, yl, yi, yr⟩ := h2
  have F' : ∀ j, j = 1 ∨ (2 < j ∧ j < 11) ∨ 13 < j → u' j = u j := fun j hj => F j (by omega) (by omega) (by omega) (by omega) (by omega)
  have G' : ∀ j, (1 < j ∧ j < 8) ∨ 11 < j → v' j = v j := fun j hj => G j (by omega) (by omega) (by omega) (by omega) (by omega) (by omega)
  refine ⟨⟨⟨F0, ?_, by omega, xk, fun l hl => ?_⟩, fun i hi => ?_, fun l hl => ?_, F2, fun i hi => ?_, ?_, xBk⟩, ⟨G1, ?_, by omega, yk, fun l hl => ?_, fun i hi => ?_, fun l hl => ?_⟩, ?_, fun l hl => ?_, fun l hl => ?_, fun l hl => ?_, h7, ?_, h9, h10, ?_, fun i q1 q2 => ?_, fun l q1 q2 => ?_⟩
  · rw [F' 1 (by omega)]; exact x1
  · obtain ⟨z1, z2, z3, z4, z5⟩ := xl l hl
    rw [F' 14 (by omega), F' 15 (by omega)]
    exact ⟨z1, z2, by omega, by omega, z5⟩
  · by_cases e : i = n
    · rw [e, qpt_s, qpt_s, qpt_s]
      exact ⟨Fn.1, Fn.2.1, Fn.2.2, b1, b2, b3, b4⟩
    · obtain ⟨z1, z2, z3, z4, z5, z6, z7⟩ := xi i (by omega)
      rw [qpt_o e, qpt_o e, qpt_o e, (Fi i e).1, (Fi i e).2.1, (Fi i e).2.2]
      exact ⟨z1, z2, z3, z4, z5, z6, fun q => z7 ((hS i e).mp q)⟩
  · rw [F' 16 (by omega)]; exact xr l hl
  · by_cases e : i = n
    · omega
    · have := xSn i ((hS i e).mp hi)
      omega
  · rw [F' 3 (by omega)]; exact xB
  · rw [G' 2 (by omega)]; exact y1
  · obtain ⟨z1, z2, z3, z4, z5⟩ := yl l hl
    rw [G' 12 (by omega), G' 13 (by omega)]
    exact ⟨z1, z2, by omega, by omega, z5⟩
  · by_cases e : i = n
    · rw [e, qpt_s, qpt_s, qpt_s]
      exact ⟨Gn.1, Gn.2.1, Gn.2.2.1, Gn.2.2.2, b1, b2, b3⟩
    · obtain ⟨z1, z2, z3, z4, z5, z6, z7⟩ := yi i (by omega)
      rw [qpt_o e, qpt_o e, qpt_o e, (Gi i e).1, (Gi i e).2.1, (Gi i e).2.2.1, (Gi i e).2.2.2, qt_cg (hS i e)]
      exact ⟨z1, z2, z3, z4, z5, z6, z7⟩
  · rw [G' 14 (by omega), G' 18 (by omega)]; exact yr l hl
  · rw [F' 4 (by omega), F' 5 (by omega), F' 6 (by omega)]; exact h3
  · rw [G' 19 (by omega), G' 20 (by omega), G' 21 (by omega)]; exact h4 l hl
  · rw [F' 19 (by omega), F' 20 (by omega), F' 21 (by omega)]; exact h5 l hl
  · rw [G' 15 (by omega), G' 16 (by omega), G' 17 (by omega)]; exact h6 l hl
  · refine qgood_node h8 hbd xSn (fun i hi => qpt_o hi) (fun i hi => qpt_o hi) hS (fun q => ?_)
    rw [qpt_s, qpt_s, (b4 q).2]
    exact Nat.zero_le _
  · rw [F' 10 (by omega), G' 3 (by omega)]; exact h11
  · have e : i ≠ n := by omega
    rw [(Gi i e).1, (Gi i e).2.1, (Gi i e).2.2.1, (Gi i e).2.2.2]; exact h12.1 i (by omega) q2
  · rw [G' 17 (by omega), G' 19 (by omega), G' 20 (by omega), G' 21 (by omega)]; exact h12.2 l q1 q2
theorem qx_addN1 (e0 : u 0 0 = nI n) (hn : n < 10) {c : Nat} (hc : 0 < c) (hc2 : c < 2147483648) (y z : Int32) : fX1_addNode N u (nI c) y z = some (nI n, sg_set (sg_set (sg_set (sg_set (sg_set u 11 n (nI c)) 12 n y) 13 n z) 2 0 (u 2 0 ||| qB n)) 0 0 (nI (n + 1))) := by
  unfold fX1_addNode fX1_addNode_j57
  rw [e0, q_l10, q_ilt1 hn (by omega), q_ck hn (by omega), q_gt, q_gt, q_gt, q_cl (show n < 2147483648 by omega), q_ilez hc hc2, qx_bit, q_bs, q_ls, sg_set_o (show (2 : Nat) ≠ 13 by omega), sg_set_o (show (2 : Nat) ≠ 12 by omega), sg_set_o (show (2 : Nat) ≠ 11 by omega), q_sc]
theorem qx_addN0 (e0 : u 0 0 = nI n) (hn : n < 10) (y z : Int32) : fX1_addNode N u 0 y z = some (nI n, sg_set (sg_set (sg_set (sg_set u 11 n 0) 12 n y) 13 n z) 0 0 (nI (n + 1))) := by
  unfold fX1_addNode fX1_addNode_j57
  rw [e0, q_l10, q_ilt1 hn (by omega), q_ck hn (by omega), q_gt, q_gt, q_gt, q_cl (show n < 2147483648 by omega), if_pos (show (0 : Int32) ≤ 0 by decide), q_sc]
theorem qx_addNF (e0 : u 0 0 = nI n) (hn : n = 10) (c y z : Int32) : fX1_addNode N u c y z = some (-1, u) := by
  unfold fX1_addNode
  rw [e0, q_l10, q_ilt0 (by omega) (by omega)]
theorem qx_added {m : Nat} (hm : m < 2147483648) : fX5_added N (nI m) = some (.inr (nI m), sg_u0) := by
  unfold fX5_added
  rw [q_im1 hm]
theorem sb0 (hN : 5000 < N) (u v : sg_St) (hI : qI u v) (p : Int32) : sb_0 N qI u v p := by
  unfold sb_0 fX5_addSource fX6_addSource
  obtain ⟨n, k, a, b, ld, cap, pr, rt, pk, mu, ins, S, B, C, Lk, Fl, hJ⟩ := hI
  have hn := hJ.n10
  have x0 := hJ.1.1.1
  have y0 := hJ.2.1.1
  have n1 : vp_nar .boolean 1 = 1 := rfl
  rcases q_in (N := N) (lo := 1) (hi := 999) (L := 1) (H := 999) rfl (by decide) (by omega) (by omega) p with ⟨c, c1, c2, rfl, c4, c5, c6⟩ | ⟨c1, c6⟩
  · rw [if_neg c4, if_pos c5, c6, q_bs, q_10, y0, q_l10]
    by_cases h10 : n < 10
    · have hO := hJ.2.2.2.2.2.2.2.2.2.2.2.1 n (Nat.le_refl n) h10
      refine ⟨(.inr (nI n), sg_set (sg_set (sg_set (sg_set (sg_set u 11 n (nI c)) 12 n 0) 13 n 0) 2 0 (u 2 0 ||| qB n)) 0 0 (nI (n + 1))), nI n, sg_set (sg_set (sg_set (sg_set v 0 0 0) 8 n 1) 9 n (nI c)) 1 0 (nI (n + 1)), ?_, ?_, Or.inl ⟨_, rfl, ?_, (hJ.node (S' := fun i => S i ∨ i = n) (cc := c) (ll := 0) (pp := 0) h10 (fun i hi => ⟨fun z => z.elim id (fun z => absurd z hi), Or.inl⟩) c2 (by omega) (by omega) (fun _ => ⟨by omega, rfl⟩) (fun j j0 j2 j11 j12 j13 => ?_) ?_ ?_ (fun i hi => ⟨?_, ?_, ?_⟩) ⟨?_, ?_, ?_⟩ (fun j j0 j1 j8 j9 j10 j11 => ?_) ?_ (fun i hi => ⟨?_, ?_, ?_, ?_⟩) ⟨?_, ?_, ?_, ?_⟩).I⟩⟩
      · rw [qx_addN1 x0 h10 (by omega) (by omega), q_b2s, qx_added (by omega), sg_bt0_r]
      · rw [q_ieq0 (by omega) (by omega) (by omega)]
        simp (disch := omega) only [sg_set_o, sg_set_s, upd_s, y0, n1, q_ck, q_gt, q_cl, q_ls, q_sc, q_pred']
      · simp (disch := omega) only [sg_set_o, sg_set_s, upd_s]
      · rw [sg_set_o j0, sg_set_o j2, sg_set_o j13, sg_set_o j12, sg_set_o j11]
      · rw [sg_set_s, upd_s]
      · rw [sg_set_o (show (2 : Nat) ≠ 0 by omega), sg_set_s, upd_s]
        exact hJ.1.sS.or (qS.bit (by omega))
      · simp (disch := omega) only [sg_set_o, sg_set_s, upd_o hi]
      · simp (disch := omega) only [sg_set_o, sg_set_s, upd_o hi]
      · simp (disch := omega) only [sg_set_o, sg_set_s, upd_o hi]
      · simp (disch := omega) only [sg_set_o, sg_set_s, upd_s]
      · show _ = (0 : Int32)
        simp (disch := omega) only [sg_set_o, sg_set_s, upd_s]
      · show _ = (0 : Int32)
        simp (disch := omega) only [sg_set_o, sg_set_s, upd_s]
      · rw [sg_set_o j1, sg_set_o j9, sg_set_o j8, sg_set_o j0]
      · rw [sg_set_s, upd_s]
      · simp (disch := omega) only [sg_set_o, sg_set_s, upd_o hi]
      · simp (disch := omega) only [sg_set_o, sg_set_s, upd_o hi]
      · simp (disch := omega) only [sg_set_o]
      · simp (disch := omega) only [sg_set_o]
      · rw [qt_1 (Or.inr rfl)]
        simp (disch := omega) only [sg_set_o, sg_set_s, upd_s]
      · simp (disch := omega) only [sg_set_o, sg_set_s, upd_s]
      · simp (disch := omega) only [sg_set_o]
        exact hO.2.2.1
      · simp (disch := omega) only [sg_set_o]
        exact hO.2.2.2
    · refine ⟨(.inl 0, u), 0, sg_set v 0 0 2, ?_, ?_, q_fail hJ.I (by decide) (by decide)⟩
      · rw [qx_addNF x0 (by omega), q_b2s]; rfl
      · rw [q_ieq1 (show n = 10 by omega)]; rfl
  · refine ⟨(.inl 1, u), 0, sg_set v 0 0 1, ?_, ?_, q_fail hJ.I (by decide) (by decide)⟩
    · rcases c1 with z | ⟨z, z2⟩
      · rw [if_pos z]; rfl
      · rw [if_neg z, if_neg z2]; rfl
    · rw [c6, q_bs, q_00]; rfl
theorem qx_ndLoad (p : Int32) : (∃ c, c ≤ 99 ∧ p = nI c ∧ fX5_needLoad N p = some (.inr (), sg_u0) ∧ fX6_in N p 0 99 = some 1) ∨ (fX5_needLoad N p = some (.inl 1, sg_u0) ∧ fX6_in N p 0 99 = some 0) := by
  unfold fX5_needLoad fX5_needLoad_j10
  rcases q_in (N := N) (lo := 0) (hi := 99) (L := 0) (H := 99) rfl (by decide) (by omega) (by omega) p with ⟨c, c1, c2, rfl, c4, c5, c6⟩ | ⟨c1, c6⟩
  · exact Or.inl ⟨c, c2, rfl, by rw [if_neg c4, if_pos c5], c6⟩
  · refine Or.inr ⟨?_, c6⟩
    rcases c1 with z | ⟨z, z2⟩
    · rw [if_pos z]
    · rw [if_neg z, if_neg z2]
theorem sb1 (hN : 5000 < N) (u v : sg_St) (hI : qI u v) (p p2 : Int32) : sb_1 N qI u v p p2 := by
  unfold sb_1 fX5_addBus fX6_addBus
  obtain ⟨n, k, a, b, ld, cap, pr, rt, pk, mu, ins, S, B, C, Lk, Fl, hJ⟩ := hI
  have hn := hJ.n10
  have x0 := hJ.1.1.1
  have y0 := hJ.2.1.1
  have hSn : ¬ S n := fun q => Nat.lt_irrefl n (hJ.Sn n q)
  rcases qx_ndLoad (N := N) p with ⟨d, d1, rfl, d2, d3⟩ | ⟨d2, d3⟩
  · rw [d2, sg_bt0_r, d3, q_bs, q_10]
    rcases q_in (N := N) (lo := 0) (hi := 9) (L := 0) (H := 9) rfl (by decide) (by omega) (by omega) p2 with ⟨c, c1, c2, rfl, c4, c5, c6⟩ | ⟨c1, c6⟩
    · rw [if_neg c4, if_pos c5, c6, q_bs, q_10, y0, q_l10]
      by_cases h10 : n < 10
      · have hO := hJ.2.2.2.2.2.2.2.2.2.2.2.1 n (Nat.le_refl n) h10
        refine ⟨(.inr (nI n), sg_set (sg_set (sg_set (sg_set u 11 n 0) 12 n (nI d)) 13 n (nI c)) 0 0 (nI (n + 1))), nI n, sg_set (sg_set (sg_set (sg_set v 0 0 0) 10 n (nI d)) 11 n (nI c)) 1 0 (nI (n + 1)), ?_, ?_, Or.inl ⟨_, rfl, ?_, (hJ.node (S' := S) (cc := 0) (ll := d) (pp := c) h10 (fun i hi => Iff.rfl) (by omega) d1 c2 (fun q => absurd q hSn) (fun j j0 j2 j11 j12 j13 => ?_) ?_ ?_ (fun i hi => ⟨?_, ?_, ?_⟩) ⟨?_, ?_, ?_⟩ (fun j j0 j1 j8 j9 j10 j11 => ?_) ?_ (fun i hi => ⟨?_, ?_, ?_, ?_⟩) ⟨?_, ?_, ?_, ?_⟩).I⟩⟩
        · rw [qx_addN0 x0 h10, q_b2s, qx_added (by omega), sg_bt0_r]
        · rw [q_ieq0 (by omega) (by omega) (by omega)]
          simp (disch := omega) only [sg_set_o, sg_set_s, upd_s, y0, q_ck, q_gt, q_cl, q_ls, q_sc, q_pred']
        · simp (disch := omega) only [sg_set_o, sg_set_s, upd_s]
        · rw [sg_set_o j0, sg_set_o j13, sg_set_o j12, sg_set_o j11]
        · rw [sg_set_s, upd_s]
        · rw [sg_set_o (show (2 : Nat) ≠ 0 by omega), sg_set_o (show (2 : Nat) ≠ 13 by omega), sg_set_o (show (2 : Nat) ≠ 12 by omega), sg_set_o (show (2 : Nat) ≠ 11 by omega)]
          exact hJ.1.sS
        · simp (disch := omega) only [sg_set_o, sg_set_s, upd_o hi]
        · simp (disch := omega) only [sg_set_o, sg_set_s, upd_o hi]
        · simp (disch := omega) only [sg_set_o, sg_set_s, upd_o hi]
        · show _ = (0 : Int32)
          simp (disch := omega) only [sg_set_o, sg_set_s, upd_s]
        · simp (disch := omega) only [sg_set_o, sg_set_s, upd_s]
        · simp (disch := omega) only [sg_set_o, sg_set_s, upd_s]
        · rw [sg_set_o j1, sg_set_o j11, sg_set_o j10, sg_set_o j0]
        · rw [sg_set_s, upd_s]
        · simp (disch := omega) only [sg_set_o]
        · simp (disch := omega) only [sg_set_o]
        · simp (disch := omega) only [sg_set_o, sg_set_s, upd_o hi]
        · simp (disch := omega) only [sg_set_o, sg_set_s, upd_o hi]
        · rw [qt_0 hSn]
          simp (disch := omega) only [sg_set_o]
          exact hO.1
        · simp (disch := omega) only [sg_set_o]
          exact hO.2.1
        · simp (disch := omega) only [sg_set_o, sg_set_s, upd_s]
        · simp (disch := omega) only [sg_set_o, sg_set_s, upd_s]
      · refine ⟨(.inl 0, u), 0, sg_set v 0 0 2, ?_, ?_, q_fail hJ.I (by decide) (by decide)⟩
        · rw [qx_addNF x0 (by omega), q_b2s]; rfl
        · rw [q_ieq1 (show n = 10 by omega)]; rfl
    · refine ⟨(.inl 1, u), 0, sg_set v 0 0 1, ?_, ?_, q_fail hJ.I (by decide) (by decide)⟩
      · rcases c1 with z | ⟨z, z2⟩
        · rw [if_pos z]; rfl
        · rw [if_neg z, if_neg z2]; rfl
      · rw [c6, q_bs, q_00]; rfl
  · refine ⟨(.inl 1, u), 0, sg_set v 0 0 1, ?_, ?_, q_fail hJ.I (by decide) (by decide)⟩
    · rw [d2]; rfl
    · rw [d3, q_bs, q_00]; rfl
end CH
