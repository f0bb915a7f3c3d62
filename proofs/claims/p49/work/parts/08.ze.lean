/-! calls: another load -/
section CK
variable {N n k : Nat} {u v u' v' w : sg_St} {a b ld cap pr rt pk mu ins : Nat → Nat} {S B C Lk Fl : Nat → Prop} {l x d : Nat}
theorem qx_put (hg : qX u n k a b) (hx : x < n) (p : Int32) : fX1_putLoad N u (nI x) p = some (sg_set u 12 x p) := by
  have hn := hg.2.2.1
  unfold fX1_putLoad
  rw [qx_isN hg hx, q_bs, q_10, q_ck (show x < 10 by omega) (by omega), q_gt, q_cl (show x < 2147483648 by omega)]
theorem qW_load (h : qW u n k a b ld cap pr rt S B) (hx : x < n) (hS : ¬ S x) (hd : d ≤ 99) : qW (sg_set u 12 x (nI d)) n k a b (qpt ld x d) cap pr rt S B := by
  obtain ⟨⟨x0, x1, xn, xk, xl⟩, xi, xr, xS, xSn, xB, xBk⟩ := h
  have F : ∀ j, j ≠ 12 → sg_set u 12 x (nI d) j = u j := fun j hj => sg_set_o hj
  refine ⟨⟨by rw [F 0 (by omega)]; exact x0, by rw [F 1 (by omega)]; exact x1, xn, xk, fun l hl => by rw [F 14 (by omega), F 15 (by omega)]; exact xl l hl⟩, fun i hi => ?_, fun l hl => by rw [F 16 (by omega)]; exact xr l hl, by rw [F 2 (by omega)]; exact xS, xSn, by rw [F 3 (by omega)]; exact xB, xBk⟩
  obtain ⟨z1, z2, z3, z4, z5, z6, z7⟩ := xi i hi
  rw [F 11 (by omega), F 13 (by omega), sg_set_s]
  by_cases e : i = x
  · subst e
    rw [upd_s, qpt_s]
    exact ⟨z1, rfl, z3, z4, hd, z6, fun q => absurd q hS⟩
  · rw [upd_o e, qpt_o e]
    exact ⟨z1, z2, z3, z4, z5, z6, z7⟩
theorem qM_load (h : qM v n k a b ld cap pr rt S B) (hx : x < n) (hd : d ≤ 99) : qM (sg_set v 10 x (nI d)) n k a b (qpt ld x d) cap pr rt S B := by
  obtain ⟨y0, y1, yn, yk, yl, yi, yr⟩ := h
  have F : ∀ j, j ≠ 10 → sg_set v 10 x (nI d) j = v j := fun j hj => sg_set_o hj
  refine ⟨by rw [F 1 (by omega)]; exact y0, by rw [F 2 (by omega)]; exact y1, yn, yk, fun l hl => by rw [F 12 (by omega), F 13 (by omega)]; exact yl l hl, fun i hi => ?_, fun l hl => by rw [F 14 (by omega), F 18 (by omega)]; exact yr l hl⟩
  obtain ⟨z1, z2, z3, z4, z5, z6, z7⟩ := yi i hi
  rw [F 8 (by omega), F 9 (by omega), F 11 (by omega), sg_set_s]
  by_cases e : i = x
  · subst e
    rw [upd_s, qpt_s]
    exact ⟨z1, z2, rfl, z4, z5, hd, z7⟩
  · rw [upd_o e, qpt_o e]
    exact ⟨z1, z2, z3, z4, z5, z6, z7⟩
theorem qJ.load (h : qJ n k a b ld cap pr rt pk mu ins S B C Lk Fl u v) (hx : x < n) (hS : ¬ S x) (hd : d ≤ 99) (hg : qgood n k a b (qpt ld x d) cap rt S C) (f : qfr (sg_set u 12 x (nI d)) u') (g : ∀ j, j ≠ 0 → j ≠ 22 → v' j = sg_set v 10 x (nI d) j) : qJ n k a b (qpt ld x d) cap pr rt pk mu ins S B C Lk Fl u' v' := by
  obtain ⟨h1, h2, h3, h4, h5, h6, h7, h8, h9, h10, h11, h12⟩ := h
  have F : ∀ j, j ≠ 12 → j ≠ 17 → j ≠ 18 → u' j = u j := fun j q1 q2 q3 => (f j q2 q3).trans (sg_set_o q1)
  have G : ∀ j, j ≠ 0 → j ≠ 10 → j ≠ 22 → v' j = v j := fun j q1 q2 q3 => (g j q1 q3).trans (sg_set_o q2)
  have hn := h1.1.2.2.1
  refine ⟨(qW_load h1 hx hS hd).fr (qKW.offr f), (qM_load h2 hx hd).fr (fun j hj => g j (by omega) (by omega)), ?_, fun l hl => ?_, fun l hl => ?_, fun l hl => ?_, h7, hg, h9, h10, ?_, fun i q1 q2 => ?_, fun l q1 q2 => ?_⟩
  · rw [F 4 (by omega) (by omega) (by omega), F 5 (by omega) (by omega) (by omega), F 6 (by omega) (by omega) (by omega)]; exact h3
  · rw [G 19 (by omega) (by omega) (by omega), G 20 (by omega) (by omega) (by omega), G 21 (by omega) (by omega) (by omega)]; exact h4 l hl
  · rw [F 19 (by omega) (by omega) (by omega), F 20 (by omega) (by omega) (by omega), F 21 (by omega) (by omega) (by omega)]; exact h5 l hl
  · rw [G 15 (by omega) (by omega) (by omega), G 16 (by omega) (by omega) (by omega), G 17 (by omega) (by omega) (by omega)]; exact h6 l hl
  · rw [F 10 (by omega) (by omega) (by omega), G 3 (by omega) (by omega) (by omega)]; exact h11
  · have e : i ≠ x := by omega
    rw [G 8 (by omega) (by omega) (by omega), G 9 (by omega) (by omega) (by omega), g 10 (by omega) (by omega), G 11 (by omega) (by omega) (by omega), sg_set_s, upd_o e]
    exact h12.1 i q1 q2
  · rw [G 17 (by omega) (by omega) (by omega), G 19 (by omega) (by omega) (by omega), G 20 (by omega) (by omega) (by omega), G 21 (by omega) (by omega) (by omega)]; exact h12.2 l q1 q2
theorem qx_keepL (hN : 20 < N) (hW : qW u n k a b ld cap pr rt S B) (hc : qS (u 4 0) C) (hC : ∀ l, C l → l < k) (hF : qg_F a b C) (hO : qg_O a b S C) : ∃ r : Int32 × sg_St, fX4_keepLimits N u = some r ∧ qfr u r.2 ∧ ((r.1 = 1 ∧ (∀ s, S s → qs ld (qg_R a b C s) n ≤ cap s) ∧ ∀ l, qcu a b ld n S C l ≤ rt l) ∨ (r.1 = 0 ∧ ¬ ((∀ s, S s → qs ld (qg_R a b C s) n ≤ cap s) ∧ ∀ l, qcu a b ld n S C l ≤ rt l))) := by
  have hX := hW.1
  have hn := hX.2.2.1
  have hk := hX.2.2.2.1
  obtain ⟨o, o1, o2⟩ := qx_over (N := N) hN hW hc hC hF hO
  unfold fX4_keepLimits
  refine q_loop (f := fun x => fX4_keepLimits_L2 N u x) (m := n) (N := N) (x0 := 0) (fun i z => z = nI i ∧ ∀ s, s < i → S s → qs ld (qg_R a b C s) n ≤ cap s) (fun r => qfr u r.2 ∧ ((r.1 = 1 ∧ (∀ s, S s → qs ld (qg_R a b C s) n ≤ cap s) ∧ ∀ l, qcu a b ld n S C l ≤ rt l) ∨ (r.1 = 0 ∧ ¬ ((∀ s, S s → qs ld (qg_R a b C s) n ≤ cap s) ∧ ∀ l, qcu a b ld n S C l ≤ rt l)))) (by omega) ⟨rfl, fun s hs => absurd hs (Nat.not_lt_zero s)⟩ (fun i z hi hz => ?_) (fun z hz => ?_)
  · obtain ⟨hz, d⟩ := hz
    subst hz
    show (∃ y, fX4_keepLimits_L2 N u (nI i) = some (.inl y) ∧ _) ∨ (∃ r, fX4_keepLimits_L2 N u (nI i) = some (.inr r) ∧ _)
    unfold fX4_keepLimits_L2
    by_cases q : S i
    · obtain ⟨r, r1, r2⟩ := qx_island (N := N) hX hN hi hc hC
      have b1 : qs ld (qg_R a b C i) n ≤ n * 99 := qs_bd (fun j hj _ => hW.ld9 j hj)
      have b2 := (hW.2.1 i hi).2.2.2.1
      have hask : fX1_asksTooMuch N u r = if nI (qs ld (qg_R a b C i) n) ≤ nI (cap i) then some 0 else some 1 := by
        unfold fX1_asksTooMuch
        rw [qx_li hX hN hW.ldv r2, q_bs, qx_src hN hn r2 hW.sS hW.Sn, q_bs, qf_src hO hW.Sn q qg_rf, qx_cap hX hi, q_bs, (hW.2.1 i hi).1]
      rw [hX.1, q_ile0 hi (by omega), hW.sS.has1 q, q_bs, q_10, r1, q_bs, hask]
      by_cases h : cap i < qs ld (qg_R a b C i) n
      · rw [q_ile0 h (by omega), q_bs, q_10]
        exact Or.inr ⟨(0, u), rfl, qfr.rf u, Or.inr ⟨rfl, fun z => by have := z.1 i q; omega⟩⟩
      · rw [q_ile1 (by omega) (by omega), q_bs, q_00, q_sc]
        refine Or.inl ⟨nI (i + 1), rfl, rfl, fun s hs h2 => ?_⟩
        by_cases e : s = i
        · rw [e]; omega
        · exact d s (by omega) h2
    · rw [hX.1, q_ile0 hi (by omega), hW.sS.has0 (by omega) q, q_bs, q_00, q_sc]
      refine Or.inl ⟨nI (i + 1), rfl, rfl, fun s hs h2 => ?_⟩
      by_cases e : s = i
      · rw [e] at h2; exact absurd h2 q
      · exact d s (by omega) h2
  · obtain ⟨hz, d⟩ := hz
    subst hz
    show ∃ r, fX4_keepLimits_L2 N u (nI n) = some (.inr r) ∧ _
    unfold fX4_keepLimits_L2
    rw [hX.1, q_ile1 (Nat.le_refl n) (by omega), o1, q_b2s]
    rcases qf_or (fun l => rt l < qcu a b ld n S C l) k with ⟨i, i1, i2, i3, i4⟩ | ⟨i1, i4⟩
    · rw [i4, q_im1 (by omega)]
      exact ⟨(0, o), rfl, o2, Or.inr ⟨rfl, fun z => by have := z.2 i; omega⟩⟩
    · rw [i4, q_im1a]
      refine ⟨(1, o), rfl, o2, Or.inl ⟨rfl, fun s hs => d s (hW.Sn s hs) hs, fun l => ?_⟩⟩
      by_cases hl : C l
      · exact Nat.le_of_not_lt (i1 l (hC l hl))
      · rw [qcu_0 hl]; exact Nat.zero_le _
theorem qm_117g (y : sg_St) (p : Int32) : fX6_setLoad_j117 N y (nI x) p 0 = some (p, sg_set y 0 0 0) := by
  unfold fX6_setLoad_j117
  rw [q_00]
theorem qm_117b (hx : x < 10) (y : sg_St) (p : Int32) : fX6_setLoad_j117 N y (nI x) p 1 = some (0, sg_set (sg_set y 10 x p) 0 0 4) := by
  unfold fX6_setLoad_j117
  rw [q_10, q_ck hx (by omega), q_gt, q_cl (show x < 2147483648 by omega)]
  rfl
theorem sb3 (hN : 5000 < N) (u v : sg_St) (hI : qI u v) (p p2 : Int32) : sb_3 N qI u v p p2 := by
  unfold sb_3 fX5_setLoad fX6_setLoad
  refine q_node2 hI p _ _ (fun n k a b ld cap pr rt pk mu ins S B C Lk Fl x hJ hx hp => ?_)
  subst hp
  have hn := hJ.n10
  have hk := hJ.k12
  rcases qx_ndLoad (N := N) p2 with ⟨d, d1, rfl, d2, d3⟩ | ⟨d2, d3⟩
  rotate_left
  · refine ⟨(.inl 1, u), 0, sg_set v 0 0 2, ?_, ?_, q_fail hJ.I (by decide) (by decide)⟩
    · rw [d2]; rfl
    · rw [d3, q_bs, q_00]; rfl
  rw [d2, sg_bt0_r, d3, q_bs, q_10]
  have v8 := (hJ.2.1.2.2.2.2.2.1 x hx).1
  have v10 : v 10 x = nI (ld x) := (hJ.2.1.2.2.2.2.2.1 x hx).2.2.1
  have u12 : u 12 x = nI (ld x) := hJ.1.ldv x hx
  unfold fX5_needBus
  by_cases hS : S x
  · refine ⟨(.inl 4, u), 0, sg_set v 0 0 3, ?_, ?_, q_fail hJ.I (by decide) (by decide)⟩
    · rw [hJ.1.sS.has1 hS]; rfl
    · rw [q_ck (show x < 10 by omega) (by omega), q_gt, q_cl (show x < 2147483648 by omega), v8, qt_1 hS, q_10]; rfl
  have hW' := qW_load hJ.1 hx hS d1
  have hM' := qM_load hJ.2.1 hx d1
  have hV' : ∀ l, l < k → sg_set v 10 x (nI d) 19 l = qt (C l) := fun l hl => by rw [sg_set_o (by omega)]; exact hJ.V l hl
  have hc' : qS (sg_set u 12 x (nI d) 4 0) C := by rw [sg_set_o (by omega)]; exact hJ.Cs
  obtain ⟨⟨r, o⟩, o1, o2, o3⟩ := qx_keepL (N := N) (by omega) hW' hc' hJ.gd.1 hJ.gd.2.1 hJ.gd.2.2.1
  dsimp only at o2 o3
  have hE : ∀ m, C m ↔ m < k ∧ nI m ≠ -1 ∧ (C m ∨ nI m = -1) := fun m => ⟨fun z => ⟨hJ.gd.1 m z, q_m1 (by have := hJ.gd.1 m z; omega), Or.inl z⟩, fun z => z.2.2.elim id (fun e => absurd e (q_m1 (by omega)))⟩
  have hE2 : ∀ m, C m ↔ m < k ∧ (C m ∨ nI m = -1) := fun m => ⟨fun z => ⟨hJ.gd.1 m z, Or.inl z⟩, fun z => z.2.elim id (fun e => absurd e (q_m1 (by omega)))⟩
  obtain ⟨w, w1, w2, lab, w3, w4⟩ := qm_paint (N := N) (E := C) (W := -1) (X := -1) (by omega) hM' hV' hE
  have hMw := hM'.fr (qKM.of22 w2)
  have hVw : ∀ l, l < k → w 19 l = qt (C l) := fun l hl => by rw [w2 19 (by omega)]; exact hV' l hl
  obtain ⟨t, t1, t2⟩ := qm_over (N := N) (C' := C) (X := -1) (by omega) hMw hJ.Sn hVw hE2
  have tw : ∀ j, j ≠ 22 → t j = sg_set v 10 x (nI d) j := fun j hj => (t2 j hj).trans (w2 j hj)
  have far : ∀ s, S s → ¬ qg_R a b C x s → qs (qpt ld x d) (qg_R a b C s) n ≤ cap s := fun s h1 h2 => by
    rw [qs_cg (g := ld) (Q := qg_R a b C s) (fun _ _ => Iff.rfl) (fun i _ hR => qpt_o (fun e => h2 (by rw [e] at hR; exact qg_sy hR)))]
    exact hJ.gd.2.2.2.1 s h1
  have same : ∀ s, qg_R a b C x s → qs (qpt ld x d) (qg_R a b C s) n = qs (qpt ld x d) (qg_R a b C x) n := fun s h => qs_cg (fun i _ => ⟨fun z => qg_tr h z, fun z => qg_tr (qg_sy h) z⟩) (fun _ _ _ => rfl)
  have nov : (∀ i, i < k → ¬ rt i < qcu a b (qpt ld x d) n S C i) → ∀ l, qcu a b (qpt ld x d) n S C l ≤ rt l := fun h l => by
    by_cases hl : C l
    · exact Nat.le_of_not_lt (h l (hJ.gd.1 l hl))
    · rw [qcu_0 hl]; exact Nat.zero_le _
  rw [hJ.1.sS.has0 (by omega) hS, q_bs, q_00, sg_bt_r, qx_load hJ.1.1 hx, q_bs, qx_put hJ.1.1 hx, q_bs, o1, q_b2s, u12]
  rw [q_ck (show x < 10 by omega) (by omega), q_gt, q_cl (show x < 2147483648 by omega), v8, qt_0 hS, q_00, q_gt, q_gt, w1, q_bs, q_gt, w3 x hx, qm_src (N := N) (by omega) hMw w3 w4 hx, v10]
  have goodc : ((∀ s, S s → qs (qpt ld x d) (qg_R a b C s) n ≤ cap s) ∧ ∀ l, qcu a b (qpt ld x d) n S C l ≤ rt l) → ∀ y, (∀ j, j ≠ 22 → y j = sg_set v 10 x (nI d) j) → ∃ (R : (Nat ⊕ Int32) × sg_St) (r1 : Int32) (v1 : sg_St), (if r = 0 then sg_b (fX1_putLoad N o (nI x) (nI (ld x))) (fun u25 => some ((.inl 0 : Nat ⊕ Int32), u25)) else some ((.inr (nI (ld x)) : Nat ⊕ Int32), o)) = some R ∧ fX6_setLoad_j117 N y (nI x) (nI (ld x)) 0 = some (r1, v1) ∧ sg_Rel qI [5, 1, 4, 0] R r1 v1 := fun hg y hy => by
    rcases o3 with ⟨z1, z2, z3⟩ | ⟨z1, z2⟩
    · refine ⟨(.inr (nI (ld x)), o), nI (ld x), sg_set y 0 0 0, ?_, qm_117g y _, Or.inl ⟨o, rfl, q_th0 y 0, (hJ.load hx hS d1 ⟨hJ.gd.1, hJ.gd.2.1, hJ.gd.2.2.1, z2, z3⟩ o2 (fun j j0 j22 => by rw [sg_set_o j0]; exact hy j j22)).I⟩⟩
      rw [z1, q_10]
    · exact absurd hg z2
  have badc : ¬ ((∀ s, S s → qs (qpt ld x d) (qg_R a b C s) n ≤ cap s) ∧ ∀ l, qcu a b (qpt ld x d) n S C l ≤ rt l) → ∀ y, (∀ j, j ≠ 22 → y j = sg_set v 10 x (nI d) j) → ∃ (R : (Nat ⊕ Int32) × sg_St) (r1 : Int32) (v1 : sg_St), (if r = 0 then sg_b (fX1_putLoad N o (nI x) (nI (ld x))) (fun u25 => some ((.inl 0 : Nat ⊕ Int32), u25)) else some ((.inr (nI (ld x)) : Nat ⊕ Int32), o)) = some R ∧ fX6_setLoad_j117 N y (nI x) (nI (ld x)) 1 = some (r1, v1) ∧ sg_Rel qI [5, 1, 4, 0] R r1 v1 := fun hg y hy => by
    rcases o3 with ⟨z1, z2, z3⟩ | ⟨z1, z2⟩
    · exact absurd ⟨z2, z3⟩ hg
    · refine ⟨(.inl 0, sg_set o 12 x (nI (ld x))), 0, sg_set (sg_set y 10 x (nI (ld x))) 0 0 4, ?_, qm_117b (by omega) y _, Or.inr ⟨0, _, rfl, by decide, ?_, (hJ.fr (fun j h7 h8 h9 h17 h18 => ?_) ⟨fun j a1 a2 a3 a4 a5 a6 a7 a8 a9 a10 a11 => ?_, fun l hl => ?_⟩).I⟩⟩
      · rw [z1, q_00, qx_put (hW'.1.fr o2) hx, q_bs]
      · rw [q_th0]; rfl
      · by_cases e : j = 12
        · rw [e, sg_set_s]
          funext i
          by_cases e2 : i = x
          · rw [e2, upd_s]; exact u12.symm
          · rw [upd_o e2, o2 12 (by omega) (by omega), sg_set_s, upd_o e2]
        · rw [sg_set_o e, o2 j h17 h18, sg_set_o e]
      · by_cases e : j = 10
        · rw [e, sg_set_o (show (10 : Nat) ≠ 0 by omega), sg_set_s]
          funext i
          by_cases e2 : i = x
          · rw [e2, upd_s]; exact v10.symm
          · rw [upd_o e2, hy 10 (by omega), sg_set_s, upd_o e2]
        · rw [sg_set_o a1, sg_set_o e, hy j a7, sg_set_o e]
      · rw [sg_set_o (show (19 : Nat) ≠ 0 by omega), sg_set_o (show (19 : Nat) ≠ 10 by omega), hy 19 (by omega), sg_set_o (show (19 : Nat) ≠ 10 by omega)]
  have tail : ((∀ s, S s → qs (qpt ld x d) (qg_R a b C s) n ≤ cap s)) → ∃ (R : (Nat ⊕ Int32) × sg_St) (r1 : Int32) (v1 : sg_St), (if r = 0 then sg_b (fX1_putLoad N o (nI x) (nI (ld x))) (fun u25 => some ((.inl 0 : Nat ⊕ Int32), u25)) else some ((.inr (nI (ld x)) : Nat ⊕ Int32), o)) = some R ∧ fX6_setLoad_j103 N w (nI x) (nI (ld x)) = some (r1, v1) ∧ sg_Rel qI [5, 1, 4, 0] R r1 v1 := fun hs => by
    unfold fX6_setLoad_j103
    rw [t1, q_b2s]
    rcases qf_or (fun l => rt l < qcu a b (qpt ld x d) n S C l) k with ⟨i, i1, i2, i3, i4⟩ | ⟨i1, i4⟩
    · rw [i4, q_im1 (by omega)]
      exact badc (fun z => by have := z.2 i; omega) t tw
    · rw [i4, q_im1a]
      exact goodc ⟨hs, nov i1⟩ t tw
  rcases q_srcL (a := a) (b := b) (E := C) hJ.Sn x with ⟨s, g1, g2, g3, g4, g5⟩ | ⟨g1, g5⟩
  · have w9 : w 9 s = nI (cap s) := (hMw.2.2.2.2.2.1 s g4).2.1
    have b1 : qs (qpt ld x d) (qg_R a b C x) n ≤ n * 99 := qs_bd (fun j hj _ => hW'.ld9 j hj)
    have b2 := (hJ.1.2.1 s g4).2.2.2.1
    rw [g5, q_bs, q_im1 (by omega), q_gt, qm_sum (N := N) (by omega) hMw w3 w4 hx, q_bs, q_ck (show s < 10 by omega) (by omega), q_gt, q_cl (show s < 2147483648 by omega), w9]
    by_cases h : cap s < qs (qpt ld x d) (qg_R a b C x) n
    · rw [q_ilt1 h (by omega)]
      exact badc (fun z => by have := z.1 s g2; rw [same s g3] at this; omega) w w2
    · rw [q_ilt0 (by omega) (by omega)]
      refine tail (fun s2 h2 => ?_)
      by_cases q : qg_R a b C x s2
      · have e : s2 = s := q_two hJ.gd.2.2.1 h2 q g2 g3
        rw [e, same s g3]
        omega
      · exact far s2 h2 q
  · rw [g5, q_bs, q_im1a]
    exact tail (fun s2 h2 => far s2 h2 (fun q => g1 ⟨s2, h2, q⟩))
end CK
