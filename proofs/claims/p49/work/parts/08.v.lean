/-! calls: plain questions, islands, currents -/
section CB
variable {N n k : Nat} {u v u' v' w : sg_St} {a b ld cap pr rt pk mu ins : Nat → Nat} {S B C C' Lk Fl Lk' Fl' : Nat → Prop} {l x : Nat}
theorem sb13 (hN : 5000 < N) (u v : sg_St) (hI : qI u v) : sb_13 N qI u v := by
  obtain ⟨n, k, a, b, ld, cap, pr, rt, pk, mu, ins, S, B, C, Lk, Fl, hJ⟩ := hI
  refine ⟨nI n, u, sg_set v 0 0 0, ?_, ?_, (hJ.fr (qFX.rf u) (qFM.of0 v 0)).I, rfl⟩
  · unfold fX5_nodes
    rw [hJ.1.1.1]
  · unfold fX6_nodes
    rw [sg_set_o (by omega), hJ.2.1.1]
theorem sb14 (hN : 5000 < N) (u v : sg_St) (hI : qI u v) : sb_14 N qI u v := by
  obtain ⟨n, k, a, b, ld, cap, pr, rt, pk, mu, ins, S, B, C, Lk, Fl, hJ⟩ := hI
  refine ⟨nI k, u, sg_set v 0 0 0, ?_, ?_, (hJ.fr (qFX.rf u) (qFM.of0 v 0)).I, rfl⟩
  · unfold fX5_lines
    rw [hJ.1.1.2.1]
  · unfold fX6_lines
    rw [sg_set_o (by omega), hJ.2.1.2.1]
theorem sb36 (hN : 5000 < N) (u v : sg_St) (hI : qI u v) : sb_36 N qI u v := by
  obtain ⟨n, k, a, b, ld, cap, pr, rt, pk, mu, ins, S, B, C, Lk, Fl, hJ⟩ := hI
  refine ⟨u 10 0, u, sg_set v 0 0 0, rfl, ?_, (hJ.fr (qFX.rf u) (qFM.of0 v 0)).I, rfl⟩
  unfold fX6_trips
  rw [sg_set_o (by omega), hJ.2.2.2.2.2.2.2.2.2.2.1]
theorem sb15 (hN : 5000 < N) (u v : sg_St) (hI : qI u v) (p : Int32) : sb_15 N qI u v p := by
  unfold sb_15 fX5_isSource fX6_isSource
  refine q_node hI p _ _ 0 (fun n k a b ld cap pr rt pk mu ins S B C Lk Fl l v' hJ h0 hl hp => ?_)
  subst hp
  have hn := hJ.n10
  have h8 := (hJ.2.1.2.2.2.2.2.1 l hl).1
  by_cases q : S l
  · refine ⟨(.inr 1, u), 1, v', ?_, ?_, q_ok hJ.I (qFX.rf u) (qFM.rf v') h0⟩
    · rw [hJ.1.sS.has1 q]; rfl
    · simp (disch := omega) only [q_ile0, q_ile1, q_ilt0, q_ilt1, q_ieq0, q_ieq1, q_iltz, q_ilez, q_ilez0, q_izlt, q_im1, q_im1a, q_ieqz, q_ieqz0, q_l10, q_l12, q_ck, q_cl, q_gt, q_bs, q_b2s, q_ls, q_sc, nI_add, if_true, if_false, ite_true, ite_false, reduceIte, q_10, q_01, q_11, q_00, h8, qt_1 q]
  · refine ⟨(.inr 0, u), 0, v', ?_, ?_, q_ok hJ.I (qFX.rf u) (qFM.rf v') h0⟩
    · rw [hJ.1.sS.has0 (by omega) q]; rfl
    · simp (disch := omega) only [q_ile0, q_ile1, q_ilt0, q_ilt1, q_ieq0, q_ieq1, q_iltz, q_ilez, q_ilez0, q_izlt, q_im1, q_im1a, q_ieqz, q_ieqz0, q_l10, q_l12, q_ck, q_cl, q_gt, q_bs, q_b2s, q_ls, q_sc, nI_add, if_true, if_false, ite_true, ite_false, reduceIte, q_10, q_01, q_11, q_00, h8, qt_0 q]
      rfl
theorem sb16 (hN : 5000 < N) (u v : sg_St) (hI : qI u v) (p : Int32) : sb_16 N qI u v p := by
  unfold sb_16 fX5_loadOf fX6_loadOf
  refine q_node hI p _ _ 0 (fun n k a b ld cap pr rt pk mu ins S B C Lk Fl l v' hJ h0 hl hp => ?_)
  subst hp
  have hn := hJ.n10
  refine ⟨(.inr (nI (ld l)), u), nI (ld l), v', ?_, ?_, q_ok hJ.I (qFX.rf u) (qFM.rf v') h0⟩
  · rw [qx_load hJ.1.1 hl, hJ.1.ldv l hl]; rfl
  · simp (disch := omega) only [q_ile0, q_ile1, q_ilt0, q_ilt1, q_ieq0, q_ieq1, q_iltz, q_ilez, q_ilez0, q_izlt, q_im1, q_im1a, q_ieqz, q_ieqz0, q_l10, q_l12, q_ck, q_cl, q_gt, q_bs, q_b2s, q_ls, q_sc, nI_add, if_true, if_false, ite_true, ite_false, reduceIte, q_10, q_01, q_11, q_00, (hJ.2.1.2.2.2.2.2.1 l hl).2.2.1]
theorem sb17 (hN : 5000 < N) (u v : sg_St) (hI : qI u v) (p : Int32) : sb_17 N qI u v p := by
  unfold sb_17 fX5_weight fX6_weight
  refine q_node hI p _ _ 0 (fun n k a b ld cap pr rt pk mu ins S B C Lk Fl l v' hJ h0 hl hp => ?_)
  subst hp
  have hn := hJ.n10
  have hv := hJ.2.1.2.2.2.2.2.1 l hl
  unfold fX5_needBus
  by_cases q : S l
  · refine ⟨(.inl 4, u), 0, sg_set v' 0 0 2, ?_, ?_, Or.inr ⟨4, u, rfl, by decide, ?_, (hJ.fr (qFX.rf u) (qFM.of0 v' 2)).I⟩⟩
    · rw [hJ.1.sS.has1 q]; rfl
    · simp (disch := omega) only [q_ile0, q_ile1, q_ilt0, q_ilt1, q_ieq0, q_ieq1, q_iltz, q_ilez, q_ilez0, q_izlt, q_im1, q_im1a, q_ieqz, q_ieqz0, q_l10, q_l12, q_ck, q_cl, q_gt, q_bs, q_b2s, q_ls, q_sc, nI_add, if_true, if_false, ite_true, ite_false, reduceIte, q_10, q_01, q_11, q_00, hv.1, qt_1 q]
      rfl
    · rw [q_th0]; rfl
  · refine ⟨(.inr (nI (ld l * pr l)), u), nI (ld l * pr l), v', ?_, ?_, q_ok hJ.I (qFX.rf u) (qFM.rf v') h0⟩
    · rw [hJ.1.sS.has0 (by omega) q, q_bs, q_00, sg_bt_r, qx_bit, q_bs, qx_wi (pr := pr) hJ.1.1 (by omega) hJ.1.ldv (fun i hi => (hJ.1.2.1 i hi).2.2.1) (qS.bit (show l < 32 by omega)), q_bs, qs_one hl]
    · simp (disch := omega) only [q_ile0, q_ile1, q_ilt0, q_ilt1, q_ieq0, q_ieq1, q_iltz, q_ilez, q_ilez0, q_izlt, q_im1, q_im1a, q_ieqz, q_ieqz0, q_l10, q_l12, q_ck, q_cl, q_gt, q_bs, q_b2s, q_ls, q_sc, nI_add, if_true, if_false, ite_true, ite_false, reduceIte, q_10, q_01, q_11, q_00, hv.1, qt_0 q, hv.2.2.1, hv.2.2.2.1, q_mul]
theorem q_flag {P : Prop} {s : Int32} {i : Nat} {Q : Nat → Prop} (hs : qS s Q) (hi : i < 32) (hP : Q i ↔ P) : (sg_b (fX5_has N s (nI i)) (fun r6 => sg_g (decide (r6 = 0) || decide (r6 = 1)) (some ((.inr r6 : Nat ⊕ Int32), u)))) = some (.inr (qt P), u) := by
  by_cases q : Q i
  · rw [hs.has1 q, qt_1 (hP.mp q)]; rfl
  · rw [hs.has0 hi q, qt_0 (fun z => q (hP.mpr z))]; rfl
theorem sb18 (hN : 5000 < N) (u v : sg_St) (hI : qI u v) (p : Int32) : sb_18 N qI u v p := by
  unfold sb_18 fX5_isClosed fX6_isClosed
  refine q_line hI p _ _ 0 (fun n k a b ld cap pr rt pk mu ins S B C Lk Fl l v' hJ h0 hl hp => ?_)
  subst hp
  have hk := hJ.k12
  refine ⟨(.inr (qt (C l)), u), qt (C l), v', q_flag hJ.Cs (by omega) Iff.rfl, ?_, q_ok hJ.I (qFX.rf u) (qFM.rf v') h0⟩
  unfold fX6_isClosed_j25
  by_cases q : C l
  · simp (disch := omega) only [q_ile0, q_ile1, q_ilt0, q_ilt1, q_ieq0, q_ieq1, q_iltz, q_ilez, q_ilez0, q_izlt, q_im1, q_im1a, q_ieqz, q_ieqz0, q_l10, q_l12, q_ck, q_cl, q_gt, q_bs, q_b2s, q_ls, q_sc, nI_add, if_true, if_false, ite_true, ite_false, reduceIte, q_10, q_01, q_11, q_00, (hJ.2.2.2.1 l hl).1, qt_1 q]
  · simp (disch := omega) only [q_ile0, q_ile1, q_ilt0, q_ilt1, q_ieq0, q_ieq1, q_iltz, q_ilez, q_ilez0, q_izlt, q_im1, q_im1a, q_ieqz, q_ieqz0, q_l10, q_l12, q_ck, q_cl, q_gt, q_bs, q_b2s, q_ls, q_sc, nI_add, if_true, if_false, ite_true, ite_false, reduceIte, q_10, q_01, q_11, q_00, (hJ.2.2.2.1 l hl).1, qt_0 q]
theorem sb19 (hN : 5000 < N) (u v : sg_St) (hI : qI u v) (p : Int32) : sb_19 N qI u v p := by
  unfold sb_19 fX5_isLocked fX6_isLocked
  refine q_line hI p _ _ 0 (fun n k a b ld cap pr rt pk mu ins S B C Lk Fl l v' hJ h0 hl hp => ?_)
  subst hp
  have hk := hJ.k12
  refine ⟨(.inr (qt (Lk l)), u), qt (Lk l), v', q_flag hJ.Ls (by omega) Iff.rfl, ?_, q_ok hJ.I (qFX.rf u) (qFM.rf v') h0⟩
  unfold fX6_isLocked_j25
  by_cases q : Lk l
  · simp (disch := omega) only [q_ile0, q_ile1, q_ilt0, q_ilt1, q_ieq0, q_ieq1, q_iltz, q_ilez, q_ilez0, q_izlt, q_im1, q_im1a, q_ieqz, q_ieqz0, q_l10, q_l12, q_ck, q_cl, q_gt, q_bs, q_b2s, q_ls, q_sc, nI_add, if_true, if_false, ite_true, ite_false, reduceIte, q_10, q_01, q_11, q_00, (hJ.2.2.2.1 l hl).2.1, qt_1 q]
  · simp (disch := omega) only [q_ile0, q_ile1, q_ilt0, q_ilt1, q_ieq0, q_ieq1, q_iltz, q_ilez, q_ilez0, q_izlt, q_im1, q_im1a, q_ieqz, q_ieqz0, q_l10, q_l12, q_ck, q_cl, q_gt, q_bs, q_b2s, q_ls, q_sc, nI_add, if_true, if_false, ite_true, ite_false, reduceIte, q_10, q_01, q_11, q_00, (hJ.2.2.2.1 l hl).2.1, qt_0 q]
theorem sb20 (hN : 5000 < N) (u v : sg_St) (hI : qI u v) (p : Int32) : sb_20 N qI u v p := by
  unfold sb_20 fX5_hasFault fX6_hasFault
  refine q_line hI p _ _ 0 (fun n k a b ld cap pr rt pk mu ins S B C Lk Fl l v' hJ h0 hl hp => ?_)
  subst hp
  have hk := hJ.k12
  refine ⟨(.inr (qt (Fl l)), u), qt (Fl l), v', q_flag hJ.Fs (by omega) Iff.rfl, ?_, q_ok hJ.I (qFX.rf u) (qFM.rf v') h0⟩
  unfold fX6_hasFault_j25
  by_cases q : Fl l
  · simp (disch := omega) only [q_ile0, q_ile1, q_ilt0, q_ilt1, q_ieq0, q_ieq1, q_iltz, q_ilez, q_ilez0, q_izlt, q_im1, q_im1a, q_ieqz, q_ieqz0, q_l10, q_l12, q_ck, q_cl, q_gt, q_bs, q_b2s, q_ls, q_sc, nI_add, if_true, if_false, ite_true, ite_false, reduceIte, q_10, q_01, q_11, q_00, (hJ.2.2.2.1 l hl).2.2, qt_1 q]
  · simp (disch := omega) only [q_ile0, q_ile1, q_ilt0, q_ilt1, q_ieq0, q_ieq1, q_iltz, q_ilez, q_ilez0, q_izlt, q_im1, q_im1a, q_ieqz, q_ieqz0, q_l10, q_l12, q_ck, q_cl, q_gt, q_bs, q_b2s, q_ls, q_sc, nI_add, if_true, if_false, ite_true, ite_false, reduceIte, q_10, q_01, q_11, q_00, (hJ.2.2.2.1 l hl).2.2, qt_0 q]
/-- paint as things are -/
theorem qJ.paint (hN : 200 < N) (hJ : qJ n k a b ld cap pr rt pk mu ins S B C Lk Fl u v) : ∃ w, fX6_paints N v (-1) (-1) = some w ∧ (∀ j, j ≠ 22 → w j = v j) ∧ ∃ lab, (∀ i, i < n → w 22 i = nI (lab i)) ∧ qlab n a b C lab :=
  qm_paint (E := C) (W := -1) (X := -1) hN hJ.2.1 hJ.V (fun m => ⟨fun z => ⟨hJ.gd.1 m z, q_m1 (by have := hJ.gd.1 m z; have := hJ.k12; omega), Or.inl z⟩, fun z => z.2.2.elim id (fun e => absurd e (q_m1 (by have := hJ.k12; omega)))⟩)
theorem qlab.low {lab : Nat → Nat} (h : qlab n a b C lab) (hn : n ≤ 10) (hx : x < n) (hbd : ∀ y, qg_R a b C x y → y < n) : qf (fun y => qg_R a b C x y) 12 = nI (lab x) := by
  have hx2 := h.1 x hx
  refine qf_s (P := fun y => qg_R a b C x y) hx2.1 (fun j hj hR => ?_) (by omega)
  have e := (h.eq hx (hbd j hR)).mpr hR
  have := (h.1 j (hbd j hR)).2
  omega
theorem q_pnode {α : Type} {cs : List Nat} (hN : 200 < N) (hI : qI u v) (p : Int32) (K : sg_St → Option ((Nat ⊕ α) × sg_St)) (L : sg_St → Option (α × sg_St)) (z : α) (h : ∀ (n k : Nat) (a b ld cap pr rt pk mu ins : Nat → Nat) (S B C Lk Fl : Nat → Prop) (l : Nat) (v' : sg_St) (lab : Nat → Nat), qJ n k a b ld cap pr rt pk mu ins S B C Lk Fl u v' → v' 0 0 = 0 → l < n → p = nI l → (∀ i, i < n → v' 22 i = nI (lab i)) → qlab n a b C lab → ∃ R r1 v1, K u = some R ∧ L v' = some (r1, v1) ∧ sg_Rel qI (5 :: cs) R r1 v1) : ∃ R r1 v1, sg_bt (fX5_needNode N u p) (fun _ u3 => K u3) = some R ∧ sg_b2 (fX6_isPainted N v p) (fun r2 u3 => if r2 = 0 then some (z, u3) else L u3) = some (r1, v1) ∧ sg_Rel qI (5 :: cs) R r1 v1 := by
  obtain ⟨n, k, a, b, ld, cap, pr, rt, pk, mu, ins, S, B, C, Lk, Fl, hJ⟩ := hI
  obtain ⟨w, w1, w2, lab, w3, w4⟩ := hJ.paint hN
  have hJw := hJ.fr (qFX.rf u) (qFM.of22 w2)
  unfold fX6_isPainted
  rw [w1, q_bs]
  rcases qx_needNode (N := N) hJ.1.1 p with ⟨l, h1, h2, h3⟩ | ⟨h1, h3⟩ <;> rcases qm_isNode (N := N) hJw.2.1 p with ⟨l', g1, g2, g3⟩ | ⟨g1, g3⟩
  · obtain ⟨R, r1, v1, e1, e2, e3⟩ := h n k a b ld cap pr rt pk mu ins S B C Lk Fl l (sg_set w 0 0 0) lab (hJw.fr (qFX.rf u) (qFM.of0 w 0)) (q_th0 w 0) h1 h2 (fun i hi => by rw [sg_set_o (by omega)]; exact w3 i hi) w4
    refine ⟨R, r1, v1, ?_, ?_, e3⟩
    · rw [h3, sg_bt_r]; exact e1
    · rw [g3, q_bs, qm_there1, q_b2s]
      exact e2
  · exact absurd h2 (g1 l h1)
  · exact absurd g2 (h1 l' g1)
  · refine ⟨(.inl 5, u), z, sg_set w 0 0 1, ?_, ?_, Or.inr ⟨5, u, rfl, List.mem_cons_self, ?_, (hJw.fr (qFX.rf u) (qFM.of0 w 1)).I⟩⟩
    · rw [h3]; rfl
    · rw [g3, q_bs, qm_there0, q_b2s]
      rfl
    · rw [q_th0]; rfl
theorem sb21 (hN : 5000 < N) (u v : sg_St) (hI : qI u v) (p : Int32) : sb_21 N qI u v p := by
  unfold sb_21 fX5_islandOf fX6_islandOf fX5_islandAt
  refine q_pnode (by omega) hI p _ _ 0 (fun n k a b ld cap pr rt pk mu ins S B C Lk Fl l v' lab hJ h0 hl hp h22 hlab => ?_)
  subst hp
  have hn := hJ.n10
  have hbd := fun y (hR : qg_R a b C l y) => qg_bd (hJ.1.1.bd hJ.gd.1) hl hR
  obtain ⟨r, r1, r2⟩ := qx_island (N := N) hJ.1.1 (by omega) hl hJ.Cs hJ.gd.1
  refine ⟨(.inr (nI (lab l)), u), nI (lab l), v', ?_, ?_, q_ok hJ.I (qFX.rf u) (qFM.rf v') h0⟩
  · rw [r1, q_bs, q_bs, qx_low r2 (by omega) (fun i hi => by have := hbd i hi; omega), hlab.low hn hl hbd]
    rfl
  · simp (disch := omega) only [q_ile0, q_ile1, q_ilt0, q_ilt1, q_ieq0, q_ieq1, q_iltz, q_ilez, q_ilez0, q_izlt, q_im1, q_im1a, q_ieqz, q_ieqz0, q_l10, q_l12, q_ck, q_cl, q_gt, q_bs, q_b2s, q_ls, q_sc, nI_add, if_true, if_false, ite_true, ite_false, reduceIte, q_10, q_01, q_11, q_00, h22 l hl]
theorem sb22 (hN : 5000 < N) (u v : sg_St) (hI : qI u v) (p : Int32) : sb_22 N qI u v p := by
  have key : ∃ (R : (Nat ⊕ Int32) × sg_St) (r1 : Int32) (v1 : sg_St), fX5_islandByRounds N u p = some R ∧ fX6_islandOf N v p = some (r1, v1) ∧ sg_Rel qI [5] R r1 v1 := by
    unfold fX5_islandByRounds fX6_islandOf
    refine q_pnode (by omega) hI p _ _ 0 (fun n k a b ld cap pr rt pk mu ins S B C Lk Fl l v' lab hJ h0 hl hp h22 hlab => ?_)
    subst hp
    have hn := hJ.n10
    have hbd := fun y (hR : qg_R a b C l y) => qg_bd (hJ.1.1.bd hJ.gd.1) hl hR
    obtain ⟨r, r1, r2⟩ := qx_grown (N := N) hJ.1.1 (by omega) hl hJ.Cs hJ.gd.1
    refine ⟨(.inr (nI (lab l)), u), nI (lab l), v', ?_, ?_, q_ok hJ.I (qFX.rf u) (qFM.rf v') h0⟩
    · rw [r1, q_bs, qx_low r2 (by omega) (fun i hi => by have := hbd i hi; omega), hlab.low hn hl hbd]
      rfl
    · simp (disch := omega) only [q_ile0, q_ile1, q_ilt0, q_ilt1, q_ieq0, q_ieq1, q_iltz, q_ilez, q_ilez0, q_izlt, q_im1, q_im1a, q_ieqz, q_ieqz0, q_l10, q_l12, q_ck, q_cl, q_gt, q_bs, q_b2s, q_ls, q_sc, nI_add, if_true, if_false, ite_true, ite_false, reduceIte, q_10, q_01, q_11, q_00, h22 l hl]
  obtain ⟨R, r1, v1, e1, e2, e3⟩ := key
  refine ⟨R, r1, v1, e1, ?_, e3⟩
  unfold fX6_islandByRounds
  rw [e2]
  rfl
theorem sb24 (hN : 5000 < N) (u v : sg_St) (hI : qI u v) (p : Int32) : sb_24 N qI u v p := by
  unfold sb_24 fX5_isLive fX6_isLive fX5_islandAt
  refine q_pnode (by omega) hI p _ _ 0 (fun n k a b ld cap pr rt pk mu ins S B C Lk Fl l v' lab hJ h0 hl hp h22 hlab => ?_)
  subst hp
  have hn := hJ.n10
  obtain ⟨r, r1, r2⟩ := qx_island (N := N) hJ.1.1 (by omega) hl hJ.Cs hJ.gd.1
  have hs := qm_src (N := N) (by omega) hJ.2.1 h22 hlab hl
  unfold fX6_isLive_j26
  rcases q_srcL (a := a) (b := b) (E := C) hJ.Sn l with ⟨s, g1, g2, g3, g4, g5⟩ | ⟨g1, g5⟩
  · refine ⟨(.inr 1, u), 1, v', ?_, ?_, q_ok hJ.I (qFX.rf u) (qFM.rf v') h0⟩
    · rw [r1, q_bs, q_bs, qx_src (by omega) hn r2 hJ.1.sS hJ.Sn, g5, q_bs, q_im1 (by omega)]
    · simp (disch := omega) only [q_ile0, q_ile1, q_ilt0, q_ilt1, q_ieq0, q_ieq1, q_iltz, q_ilez, q_ilez0, q_izlt, q_im1, q_im1a, q_ieqz, q_ieqz0, q_l10, q_l12, q_ck, q_cl, q_gt, q_bs, q_b2s, q_ls, q_sc, nI_add, if_true, if_false, ite_true, ite_false, reduceIte, q_10, q_01, q_11, q_00, h22 l hl, hs, g5]
  · refine ⟨(.inr 0, u), 0, v', ?_, ?_, q_ok hJ.I (qFX.rf u) (qFM.rf v') h0⟩
    · rw [r1, q_bs, q_bs, qx_src (by omega) hn r2 hJ.1.sS hJ.Sn, g5, q_bs, q_im1a]
    · simp (disch := omega) only [q_ile0, q_ile1, q_ilt0, q_ilt1, q_ieq0, q_ieq1, q_iltz, q_ilez, q_ilez0, q_izlt, q_im1, q_im1a, q_ieqz, q_ieqz0, q_l10, q_l12, q_ck, q_cl, q_gt, q_bs, q_b2s, q_ls, q_sc, nI_add, if_true, if_false, ite_true, ite_false, reduceIte, q_10, q_01, q_11, q_00, h22 l hl, hs, g5]
theorem sb25 (hN : 5000 < N) (u v : sg_St) (hI : qI u v) (p : Int32) : sb_25 N qI u v p := by
  unfold sb_25 fX5_sourceOf fX6_sourceOf fX5_islandAt
  refine q_pnode (by omega) hI p _ _ 0 (fun n k a b ld cap pr rt pk mu ins S B C Lk Fl l v' lab hJ h0 hl hp h22 hlab => ?_)
  subst hp
  have hn := hJ.n10
  obtain ⟨r, r1, r2⟩ := qx_island (N := N) hJ.1.1 (by omega) hl hJ.Cs hJ.gd.1
  have hs := qm_src (N := N) (by omega) hJ.2.1 h22 hlab hl
  rcases q_srcL (a := a) (b := b) (E := C) hJ.Sn l with ⟨s, g1, g2, g3, g4, g5⟩ | ⟨g1, g5⟩
  · refine ⟨(.inr (nI s), u), nI s, v', ?_, ?_, q_ok hJ.I (qFX.rf u) (qFM.rf v') h0⟩
    · rw [r1, q_bs, q_bs, qx_src (by omega) hn r2 hJ.1.sS hJ.Sn, g5, q_bs, q_im1 (by omega)]
    · simp (disch := omega) only [q_ile0, q_ile1, q_ilt0, q_ilt1, q_ieq0, q_ieq1, q_iltz, q_ilez, q_ilez0, q_izlt, q_im1, q_im1a, q_ieqz, q_ieqz0, q_l10, q_l12, q_ck, q_cl, q_gt, q_bs, q_b2s, q_ls, q_sc, nI_add, if_true, if_false, ite_true, ite_false, reduceIte, q_10, q_01, q_11, q_00, h22 l hl, hs, g5]
  · refine ⟨(.inl 0, u), 0, sg_set v' 0 0 2, ?_, ?_, Or.inr ⟨0, u, rfl, by decide, ?_, (hJ.fr (qFX.rf u) (qFM.of0 v' 2)).I⟩⟩
    · rw [r1, q_bs, q_bs, qx_src (by omega) hn r2 hJ.1.sS hJ.Sn, g5, q_bs, q_im1a]
    · simp (disch := omega) only [q_ile0, q_ile1, q_ilt0, q_ilt1, q_ieq0, q_ieq1, q_iltz, q_ilez, q_ilez0, q_izlt, q_im1, q_im1a, q_ieqz, q_ieqz0, q_l10, q_l12, q_ck, q_cl, q_gt, q_bs, q_b2s, q_ls, q_sc, nI_add, if_true, if_false, ite_true, ite_false, reduceIte, q_10, q_01, q_11, q_00, h22 l hl, hs, g5]
      rfl
    · rw [q_th0]; rfl
theorem sb26 (hN : 5000 < N) (u v : sg_St) (hI : qI u v) (p : Int32) : sb_26 N qI u v p := by
  unfold sb_26 fX5_islandLoad fX6_islandLoad fX5_islandAt
  refine q_pnode (by omega) hI p _ _ 0 (fun n k a b ld cap pr rt pk mu ins S B C Lk Fl l v' lab hJ h0 hl hp h22 hlab => ?_)
  subst hp
  have hn := hJ.n10
  obtain ⟨r, r1, r2⟩ := qx_island (N := N) hJ.1.1 (by omega) hl hJ.Cs hJ.gd.1
  have hs := qm_sum (N := N) (by omega) hJ.2.1 h22 hlab hl
  refine ⟨(.inr (nI (qs ld (qg_R a b C l) n)), u), nI (qs ld (qg_R a b C l) n), v', ?_, ?_, q_ok hJ.I (qFX.rf u) (qFM.rf v') h0⟩
  · rw [r1, q_bs, q_bs, qx_li hJ.1.1 (by omega) hJ.1.ldv r2]
    rfl
  · simp (disch := omega) only [q_ile0, q_ile1, q_ilt0, q_ilt1, q_ieq0, q_ieq1, q_iltz, q_ilez, q_ilez0, q_izlt, q_im1, q_im1a, q_ieqz, q_ieqz0, q_l10, q_l12, q_ck, q_cl, q_gt, q_bs, q_b2s, q_ls, q_sc, nI_add, if_true, if_false, ite_true, ite_false, reduceIte, q_10, q_01, q_11, q_00, h22 l hl, hs]
theorem sb23 (hN : 5000 < N) (u v : sg_St) (hI : qI u v) : sb_23 N qI u v := by
  obtain ⟨n, k, a, b, ld, cap, pr, rt, pk, mu, ins, S, B, C, Lk, Fl, hJ⟩ := hI
  obtain ⟨w, w1, w2, lab, w3, w4⟩ := hJ.paint (N := N) (by omega)
  have hJw := hJ.fr (qFX.rf u) (qFM.of22 w2)
  have hn := hJ.n10
  have lb : ∀ i, i < n → lab i < 2147483648 := fun i hi => by have := (w4.1 i hi).2; omega
  refine ⟨nI (qs (fun _ => 1) (fun i => lab i = i) n), u, sg_set w 0 0 0, ?_, ?_, (hJw.fr (qFX.rf u) (qFM.of0 w 0)).I, rfl⟩
  · unfold fX5_islands
    have ev : ∀ i x, i < n → fX5_islands_L4 N u x (nI i) = (if lab i = i then some (.inl (x + nI 1, nI (i + 1))) else some (.inl (x, nI (i + 1)))) := fun i x hi => by
      have hbd := fun y (hR : qg_R a b C i y) => qg_bd (hJ.1.1.bd hJ.gd.1) hi hR
      obtain ⟨r, r1, r2⟩ := qx_island (N := N) hJ.1.1 (by omega) hi hJ.Cs hJ.gd.1
      have := lb i hi
      unfold fX5_islands_L4 fX5_islandAt
      rw [hJ.1.1.1, q_ile0 hi (by omega), r1, q_bs, q_bs, qx_low r2 (by omega) (fun i hi => by have := hbd i hi; omega), w4.low hn hi hbd, q_bs, q_sc]
      by_cases q : lab i = i
      · rw [q_ieq1 q, if_pos q]; rfl
      · rw [q_ieq0 (by omega) (by omega) (by omega), if_neg q]
    rw [q_sum (g := fun _ => 1) (P := fun i => lab i = i) (n := n) (by omega) (fun i x hi hp => by
      show fX5_islands_L4 N u x (nI i) = _
      rw [ev i x hi, if_neg hp]) (fun i x hi hp => by
      show fX5_islands_L4 N u x (nI i) = _
      rw [ev i x hi, if_pos hp]) (fun x => by
      show fX5_islands_L4 N u x (nI n) = _
      unfold fX5_islands_L4
      rw [hJ.1.1.1, q_ile1 (Nat.le_refl n) (by omega)])]
    rfl
  · unfold fX6_islands
    rw [w1, q_bs]
    have z1 : sg_set w 0 0 0 1 0 = nI n := by rw [sg_set_o (by omega)]; exact hJw.2.1.1
    have z22 : ∀ i, i < n → sg_set w 0 0 0 22 i = nI (lab i) := fun i hi => by rw [sg_set_o (by omega)]; exact w3 i hi
    have ev : ∀ i x, i < n → fX6_islands_L15 N (sg_set w 0 0 0) x (nI i) = (if lab i = i then some (.inl (x + nI 1, nI (i + 1))) else some (.inl (x, nI (i + 1)))) := fun i x hi => by
      have := lb i hi
      unfold fX6_islands_L15 fX6_islands_j39
      by_cases q : lab i = i
      · rw [if_pos q, z1, q_ile0 hi (by omega), q_ck (show i < 10 by omega) (by omega), q_gt, q_cl (show i < 2147483648 by omega), z22 i hi, q_ieq1 q, q_sc]; rfl
      · rw [if_neg q, z1, q_ile0 hi (by omega), q_ck (show i < 10 by omega) (by omega), q_gt, q_cl (show i < 2147483648 by omega), z22 i hi, q_ieq0 (by omega) (by omega) (by omega), q_sc, Int32.add_zero]
    rw [q_sum (g := fun _ => 1) (P := fun i => lab i = i) (n := n) (by omega) (fun i x hi hp => by
      show fX6_islands_L15 N (sg_set w 0 0 0) x (nI i) = _
      rw [ev i x hi, if_neg hp]) (fun i x hi hp => by
      show fX6_islands_L15 N (sg_set w 0 0 0) x (nI i) = _
      rw [ev i x hi, if_pos hp]) (fun x => by
      show fX6_islands_L15 N (sg_set w 0 0 0) x (nI n) = _
      unfold fX6_islands_L15
      rw [z1, q_ile1 (Nat.le_refl n) (by omega)])]
    rfl
theorem sb27 (hN : 5000 < N) (u v : sg_St) (hI : qI u v) (p : Int32) : sb_27 N qI u v p := by
  unfold sb_27 fX5_current fX6_current
  refine q_line hI p _ _ 0 (fun n k a b ld cap pr rt pk mu ins S B C Lk Fl l v' hJ h0 hl hp => ?_)
  subst hp
  obtain ⟨u', e1, e2⟩ := qx_curIn (N := N) (by omega) hJ.1 hJ.Cs hJ.gd.1 hJ.gd.2.1 hJ.gd.2.2.1 hl
  obtain ⟨w, f1, f2⟩ := qm_flowOf (N := N) (by omega) hJ hl
  refine ⟨_, _, _, ?_, ?_, q_ok22 (r := nI (qcu a b ld n S C l)) hJ.I h0 e2 f2⟩
  · rw [e1]; rfl
  · rw [f1]; rfl
theorem qx_cut (hN : 20 < N) (hJ : qJ n k a b ld cap pr rt pk mu ins S B C Lk Fl u v) (hl : l < k) : fX1_loadCutOffBy N u (nI l) (u 4 0) = some (nI (qcu a b ld n S C l)) := by
  have hk := hJ.k12
  have hn := hJ.n10
  have hX := hJ.1.1
  obtain ⟨e1, e2, e3, e4, e5⟩ := hX.2.2.2.2 l hl
  unfold fX1_loadCutOffBy fX1_loadCutOffBy_j71
  by_cases q1 : C l
  · rw [hJ.Cs.has1 q1, q_bs, q_10, qx_srcl hX hN hl hJ.Cs hJ.gd.1 hJ.1.sS hJ.Sn, q_bs, qcu_1 q1]
    rcases q_srcL (a := a) (b := b) (E := C) hJ.Sn (a l) with ⟨s, g1, g2, g3, g4, g5⟩ | ⟨g1, g5⟩
    · have hd : qS (u 4 0 &&& (qB l ^^^ (-1))) (qg_del C l) := (hJ.Cs.diff (qS.bit (show l < 32 by omega)))
      have hdk : ∀ m, qg_del C l m → m < k := fun m z => hJ.gd.1 m z.1
      obtain ⟨r, r1, r2⟩ := qx_island (N := N) hX hN e3 hd hdk
      obtain ⟨t, t1, t2⟩ := qx_island (N := N) hX hN e4 hd hdk
      rw [g5, q_im1 (by omega), qx_oneEnd hX hl, q_bs, qx_bit, q_bs, r1, q_bs, qx_src hN hn r2 hJ.1.sS hJ.Sn, q_bs]
      rcases q_srcL (a := a) (b := b) (E := qg_del C l) hJ.Sn (a l) with ⟨s', h1, h2, h3, h4, h5⟩ | ⟨h1, h5⟩
      · rw [h5, q_im1 (by omega), qx_acr hX e3 hl (Or.inl ⟨rfl, rfl⟩), q_bs, q_bs, t1, q_bs, qx_li hX hN hJ.1.ldv t2, qfl_a h1]
        rfl
      · rw [h5, q_im1a, qx_li hX hN hJ.1.ldv r2, qfl_b h1 ((qg_L_del q1 g1).resolve_left h1)]
        rfl
    · rw [g5, q_im1a, qfl_dark q1 g1]
      rfl
  · rw [hJ.Cs.has0 (by omega) q1, q_bs, q_00, qcu_0 q1]
    rfl
theorem sb28 (hN : 5000 < N) (u v : sg_St) (hI : qI u v) (p : Int32) : sb_28 N qI u v p := by
  have key : ∃ (R : (Nat ⊕ Int32) × sg_St) (r1 : Int32) (v1 : sg_St), fX5_currentByCutting N u p = some R ∧ fX6_current N v p = some (r1, v1) ∧ sg_Rel qI [5] R r1 v1 := by
    unfold fX5_currentByCutting fX6_current
    refine q_line hI p _ _ 0 (fun n k a b ld cap pr rt pk mu ins S B C Lk Fl l v' hJ h0 hl hp => ?_)
    subst hp
    obtain ⟨w, f1, f2⟩ := qm_flowOf (N := N) (by omega) hJ hl
    refine ⟨_, _, _, ?_, ?_, q_ok22 (r := nI (qcu a b ld n S C l)) hJ.I h0 (qfr.rf u) f2⟩
    · rw [qx_cut (by omega) hJ hl]; rfl
    · rw [f1]; rfl
  obtain ⟨R, r1, v1, e1, e2, e3⟩ := key
  refine ⟨R, r1, v1, e1, ?_, e3⟩
  unfold fX6_currentByCutting
  rw [e2]
  rfl
end CB
