/-! ways without turning back -/
section QW
variable {n k : Nat} {a b : Nat → Nat} {C S : Nat → Prop}
/-- the lines of p, one after another, lead from x, reached by l0, to z, reached by lz; none is taken back at once -/
def qcn (a b : Nat → Nat) (C : Nat → Prop) : List Nat → Nat → Nat → Nat → Nat → Prop
  | [], x, l0, z, lz => x = z ∧ l0 = lz
  | l :: r, x, l0, z, lz => C l ∧ l ≠ l0 ∧ ∃ y, qg_E a b l x y ∧ qcn a b C r y l z lz
theorem qg_cnt {x y l l0 : Nat} (hF : qg_F a b C) (h0 : C l0 → ∃ w, qg_E a b l0 x w) (hx : x < n) (hl : C l) (hne : l ≠ l0) (hE : qg_E a b l x y) : qc (qg_R a b (qg_del C l) y) n + 1 ≤ qc (qg_R a b (qg_del C l0) x) n :=
  qc_lt (fun i _ q => (qg_split hF h0).mpr (Or.inr ⟨l, y, hl, hne, hE, q⟩)) hx qg_rf (fun q => qg_E_F hF hE hl (qg_sy q))
theorem qcn_below (hF : qg_F a b C) : ∀ (r : List Nat) (l x l0 z lz : Nat), (C l0 → ∃ w, qg_E a b l0 x w) → qcn a b C (l :: r) x l0 z lz → C lz ∧ lz ≠ l0 ∧ ∀ e e', qg_E a b lz e e' → qg_R a b (qg_del C l0) x e
  | [], l, x, l0, z, lz, h0, h => by
    obtain ⟨h1, h2, y, h3, h4, h5⟩ := h
    subst h5
    have hR : qg_R a b (qg_del C l0) x y := qg_E_R h3 ⟨h1, h2⟩
    refine ⟨h1, h2, fun e e' q => ?_⟩
    rcases h3 with ⟨f1, f2⟩ | ⟨f1, f2⟩ <;> rcases q with ⟨g1, g2⟩ | ⟨g1, g2⟩
    · rw [← g1, f1]; exact qg_rf
    · rw [← g1, f2]; exact hR
    · rw [← g1, f2]; exact hR
    · rw [← g1, f1]; exact qg_rf
  | l' :: r, l, x, l0, z, lz, h0, h => by
    obtain ⟨h1, h2, y, h3, h4⟩ := h
    obtain ⟨g1, g2, g3⟩ := qcn_below hF r l' y l z lz (fun _ => ⟨x, qg_E_sy h3⟩) h4
    refine ⟨g1, fun e => ?_, fun e e' q => (qg_split hF h0).mpr (Or.inr ⟨l, y, h1, h2, h3, g3 e e' q⟩)⟩
    subst e
    obtain ⟨w, hw⟩ := h0 g1
    exact qg_E_F hF h3 h1 (qg_sy (g3 x w hw))
theorem qcn_un (hF : qg_F a b C) (hne : ∀ l, C l → a l ≠ b l) : ∀ (r r' : List Nat) (l l' x l0 z z' t : Nat), (C l0 → ∃ w, qg_E a b l0 x w) → qcn a b C (l :: r) x l0 z t → qcn a b C (l' :: r') x l0 z' t → l :: r = l' :: r' ∧ z = z'
  | r, r', l, l', x, l0, z, z', t, h0, h, h' => by
    obtain ⟨h1, h2, y, h3, h4⟩ := h
    obtain ⟨h1', h2', y', h3', h4'⟩ := h'
    by_cases e : l = l'
    · subst e
      have ey : y = y' := qg_E_un h3 h3' (hne l h1)
      subst ey
      cases r with
      | nil =>
        cases r' with
        | nil => exact ⟨rfl, h4.1.symm.trans h4'.1⟩
        | cons m r' => exact absurd h4.2.symm (qcn_below hF r' m y l z' t (fun _ => ⟨x, qg_E_sy h3⟩) h4').2.1
      | cons m r =>
        cases r' with
        | nil => exact absurd h4'.2.symm (qcn_below hF r m y l z t (fun _ => ⟨x, qg_E_sy h3⟩) h4).2.1
        | cons m' r' =>
          obtain ⟨f1, f2⟩ := qcn_un hF hne r r' m m' y l z z' t (fun _ => ⟨x, qg_E_sy h3⟩) h4 h4'
          exact ⟨by rw [f1], f2⟩
    · exfalso
      cases r with
      | nil =>
        cases r' with
        | nil => exact e (h4.2.trans h4'.2.symm)
        | cons m r' =>
          have g := (qcn_below hF r' m y' l' z' t (fun _ => ⟨x, qg_E_sy h3'⟩) h4').2.2 x y (h4.2 ▸ h3)
          exact qg_E_F hF h3' h1' (qg_sy g)
      | cons m r =>
        have g := (qcn_below hF r m y l z t (fun _ => ⟨x, qg_E_sy h3⟩) h4).2.2
        cases r' with
        | nil => exact qg_E_F hF h3 h1 (qg_sy (g x y' (h4'.2 ▸ h3')))
        | cons m' r' =>
          have g' := (qcn_below hF r' m' y' l' z' t (fun _ => ⟨x, qg_E_sy h3'⟩) h4').2.2
          exact qg_disj hF h1 h3 h1' h3' e (g (a t) (b t) (Or.inl ⟨rfl, rfl⟩)) (g' (a t) (b t) (Or.inl ⟨rfl, rfl⟩))
theorem qcn_len (hF : qg_F a b C) (hbd : ∀ l, C l → a l < n ∧ b l < n) : ∀ (p : List Nat) (x l0 z lz : Nat), (C l0 → ∃ w, qg_E a b l0 x w) → x < n → qcn a b C p x l0 z lz → p.length + 1 ≤ qc (qg_R a b (qg_del C l0) x) n
  | [], x, l0, z, lz, h0, hx, h => qc_pos hx qg_rf
  | l :: r, x, l0, z, lz, h0, hx, h => by
    obtain ⟨h1, h2, y, h3, h4⟩ := h
    have hy : y < n := qg_bd hbd hx (qg_E_R h3 h1)
    have g := qcn_len hF hbd r y l z lz (fun _ => ⟨x, qg_E_sy h3⟩) hy h4
    have g2 := qg_cnt (n := n) hF h0 hx h1 h2 h3
    rw [List.length_cons]
    omega
theorem qcn_app {l y : Nat} (hl : C l) : ∀ (p : List Nat) (x l0 z lz : Nat), qcn a b C p x l0 z lz → l ≠ lz → qg_E a b l z y → qcn a b C (p ++ [l]) x l0 y l
  | [], x, l0, z, lz, h, h1, h2 => by
    obtain ⟨g1, g2⟩ := h
    subst g1; subst g2
    exact ⟨hl, h1, y, h2, rfl, rfl⟩
  | m :: r, x, l0, z, lz, h, h1, h2 => by
    obtain ⟨g1, g2, w, g3, g4⟩ := h
    exact ⟨g1, g2, w, g3, qcn_app hl r w m z lz g4 h1 h2⟩
theorem qcn_R : ∀ (p : List Nat) (x l0 z lz : Nat), qcn a b C p x l0 z lz → qg_R a b C x z
  | [], x, l0, z, lz, h => by rw [h.1]; exact qg_rf
  | m :: r, x, l0, z, lz, h => by
    obtain ⟨g1, g2, w, g3, g4⟩ := h
    exact qg_tr (qg_E_R g3 g1) (qcn_R r w m z lz g4)
theorem qcn_C : ∀ (p : List Nat) (x l0 z lz i : Nat), qcn a b C p x l0 z lz → i < p.length → C (p.getD i 0)
  | [], x, l0, z, lz, i, h, hi => absurd hi (Nat.not_lt_zero i)
  | m :: r, x, l0, z, lz, i, h, hi => by
    obtain ⟨g1, g2, w, g3, g4⟩ := h
    cases i with
    | zero => exact g1
    | succ i => exact qcn_C r w m z lz i g4 (Nat.lt_of_succ_lt_succ hi)
end QW
section QF
variable {N n k : Nat} {u v : sg_St} {a b ld cap pr rt : Nat → Nat} {C S B P : Nat → Prop} {c s : Int32} {x y l t : Nat}
theorem qx_follow (hN : 20 < N) (hc : qS c C) (hC : ∀ l, C l → l < k) (hF : qg_F a b C) (ht : t < k) : ∀ (d : Nat) (u : sg_St) (x l0 : Nat) (came : Int32) (dep : Nat), qW u n k a b ld cap pr rt S B → x < n → (C l0 → ∃ w, qg_E a b l0 x w) → (∀ l, l < 12 → (nI l = came ↔ l = l0)) → dep + qc (qg_R a b (qg_del C l0) x) n ≤ 10 → 11 ≤ d + dep → ∃ (r : Int32) (u' : sg_St), fX0_follow N d u (nI x) came (nI t) c (nI dep) = some (r, u') ∧ (∀ j, j ≠ 18 → u' j = u j) ∧ (∀ i, i < dep → u' 18 i = u 18 i) ∧ ((r = 0 ∧ ¬ (C t ∧ t ≠ l0 ∧ qg_R a b (qg_del C l0) x (a t))) ∨ ∃ p z, p ≠ [] ∧ qcn a b C p x l0 z t ∧ r = nI (dep + p.length) ∧ p.length ≤ 12 ∧ ∀ i, i < p.length → u' 18 (dep + i) = nI (p.getD i 0))
  | 0, u, x, l0, came, dep, hW, hx, h0, hcm, hd, hf => by
    have h1 : 1 ≤ qc (qg_R a b (qg_del C l0) x) n := qc_pos hx qg_rf
    omega
  | d + 1, u, x, l0, came, dep, hW, hx, h0, hcm, hd, hf => by
    have hg := hW.1
    have hk := hg.2.2.2.1
    have hn := hg.2.2.1
    have h1 : 1 ≤ qc (qg_R a b (qg_del C l0) x) n := qc_pos hx qg_rf
    have hbd := hg.bd hC
    obtain ⟨r, hr, hfr, hpa, hres⟩ := q_loop (f := fun z : sg_St × Int32 => fX0_follow_L12 N (fX0_follow N d) z.1 (nI x) came (nI t) c (nI dep) z.2) (m := 12) (N := N) (x0 := (u, 0))
      (fun i z => z.2 = nI i ∧ (∀ j, j ≠ 18 → z.1 j = u j) ∧ (∀ i, i < dep → z.1 18 i = u 18 i) ∧ ∀ l y, l < i → C l → l ≠ l0 → qg_E a b l x y → ¬ (l = t ∨ (C t ∧ t ≠ l ∧ qg_R a b (qg_del C l) y (a t))))
      (fun r => (∀ j, j ≠ 18 → r.2 j = u j) ∧ (∀ i, i < dep → r.2 18 i = u 18 i) ∧ ((r.1 = 0 ∧ ¬ (C t ∧ t ≠ l0 ∧ qg_R a b (qg_del C l0) x (a t))) ∨ ∃ p z, p ≠ [] ∧ qcn a b C p x l0 z t ∧ r.1 = nI (dep + p.length) ∧ p.length ≤ 12 ∧ ∀ i, i < p.length → r.2 18 (dep + i) = nI (p.getD i 0)))
      (by omega) ⟨rfl, fun _ _ => rfl, fun _ _ => rfl, fun l y q => absurd q (Nat.not_lt_zero l)⟩ (by
      rintro i ⟨v, z⟩ hi ⟨hz, hfr, hpa, hno⟩
      refine Classical.byContradiction (fun hG => ?_)
      replace hz : z = nI i := hz
      subst hz
      have hWv : qW v n k a b ld cap pr rt S B := hW.fr (fun j hj => hfr j (by omega))
      have head : fX0_follow_L12 N (fX0_follow N d) v (nI x) came (nI t) c (nI dep) (nI i) = (if nI i = came then some (.inl (v, nI (i + 1))) else sg_b (fX5_has N c (nI i)) (fun r2 => (if r2 = 0 then some (.inl (v, nI (i + 1))) else sg_b (fX1_acrossFrom N v (nI x) (nI i)) (fun r5 => fX0_follow_j49 N (fX0_follow N d) v (nI x) came (nI t) c (nI dep) (nI i) r5)))) := by
        have j1 : fX0_follow_j49 N (fX0_follow N d) v (nI x) came (nI t) c (nI dep) (nI i) (-1) = some (.inl (v, nI (i + 1))) := by
          unfold fX0_follow_j49
          rw [q_im1a, q_sc]
        unfold fX0_follow_L12
        rw [if_neg (q_12n hi), j1]
      have skip : (∀ y, C i → i ≠ l0 → qg_E a b i x y → ¬ (i = t ∨ (C t ∧ t ≠ i ∧ qg_R a b (qg_del C i) y (a t)))) → ∀ v', (∀ j, j ≠ 18 → v' j = v j) → (∀ i, i < dep → v' 18 i = v 18 i) → fX0_follow_L12 N (fX0_follow N d) v (nI x) came (nI t) c (nI dep) (nI i) = some (.inl (v', nI (i + 1))) → False := fun h2 v' h3 h4 e => hG (Or.inl ⟨_, e, rfl, fun j hj => (h3 j hj).trans (hfr j hj), fun j hj => (h4 j hj).trans (hpa j hj), fun l y r1 r2 r3 r4 => by
        rcases Nat.lt_or_ge l i with g | g
        · exact hno l y g r2 r3 r4
        · have e : l = i := by omega
          subst e
          exact h2 y r2 r3 r4⟩)
      by_cases q0 : i = l0
      · refine skip (fun y _ r _ => absurd q0 r) v (fun _ _ => rfl) (fun _ _ => rfl) ?_
        rw [head, if_pos ((hcm i hi).mpr q0)]
      · have q0' : ¬ nI i = came := fun e => q0 ((hcm i hi).mp e)
        by_cases q1 : C i
        · rcases qx_across (N := N) hWv.1 hx (hC i q1) with ⟨y, f1, f2, f3⟩ | ⟨f1, f3⟩
          · have hcnt := qg_cnt (n := n) hF h0 hx q1 q0 f1
            have hp1 : 1 ≤ qc (qg_R a b (qg_del C i) y) n := qc_pos f2 qg_rf
            have eE : ∀ y', qg_E a b i x y' → y' = y := fun y' q => qg_E_un q f1 (hg.2.2.2.2 i (hC i q1)).2.2.2.2
            have hW2 : qW (sg_set v 18 dep (nI i)) n k a b ld cap pr rt S B := hWv.fr (fun j hj => sg_set_o (by omega))
            have body : fX0_follow_L12 N (fX0_follow N d) v (nI x) came (nI t) c (nI dep) (nI i) = (if nI i = nI t then fX0_follow_j94 N (fX0_follow N d) (sg_set v 18 dep (nI i)) (nI x) came (nI t) c (nI dep) (nI i) (nI (dep + 1)) else sg_b2 (fX0_follow N d (sg_set v 18 dep (nI i)) (nI y) (nI i) (nI t) c (nI (dep + 1))) (fun r3 u4 => fX0_follow_j94 N (fX0_follow N d) u4 (nI x) came (nI t) c (nI dep) (nI i) r3)) := by
              rw [head, if_neg q0', hc.has1 q1, q_bs, q_10, f3, q_bs]
              unfold fX0_follow_j49
              simp (disch := omega) only [q_im1, q_ck, q_cl, q_gt, q_sc]
            by_cases q2 : i = t
            · refine hG (Or.inr ⟨(nI (dep + 1), sg_set v 18 dep (nI i)), ?_, fun j hj => ?_, fun j hj => ?_, Or.inr ⟨[i], y, List.cons_ne_nil _ _, ⟨q1, q0, y, f1, rfl, q2⟩, rfl, (show 1 ≤ 12 by decide), fun j hj => ?_⟩⟩)
              · show fX0_follow_L12 N (fX0_follow N d) v (nI x) came (nI t) c (nI dep) (nI i) = _
                rw [body, if_pos (by rw [q2])]
                unfold fX0_follow_j94
                simp (disch := omega) only [q_ile0, q_ile1, q_ilt0, q_ilt1, q_ieq0, q_ieq1, q_iltz, q_ilez, q_ilez0, q_izlt, q_im1, q_im1a, q_ieqz, q_ieqz0, q_l10, q_l12, q_ck, q_cl, q_gt, q_bs, q_b2s, q_ls, q_sc, nI_add, if_true, if_false, ite_true, ite_false, reduceIte, q_10, q_01, q_11, q_00]
              · show sg_set v 18 dep (nI i) j = _
                rw [sg_set_o hj]; exact hfr j hj
              · show sg_set v 18 dep (nI i) 18 j = _
                rw [sg_set_s, upd_o (by omega)]; exact hpa j hj
              · have e : j = 0 := by
                  have : [i].length = 1 := rfl
                  omega
                subst e
                show sg_set v 18 dep (nI i) 18 (dep + 0) = nI i
                rw [sg_set_s, Nat.add_zero, upd_s]
            · obtain ⟨r, u', g1, g2, g3, g4⟩ := qx_follow hN hc hC hF ht d (sg_set v 18 dep (nI i)) y i (nI i) (dep + 1) hW2 f2 (fun _ => ⟨x, qg_E_sy f1⟩) (fun l hl => q_eq (by omega) (by omega)) (by omega) (by omega)
              have g2' : ∀ j, j ≠ 18 → u' j = v j := fun j hj => (g2 j hj).trans (sg_set_o hj)
              have g3' : ∀ j, j < dep → u' 18 j = v 18 j := fun j hj => by
                rw [g3 j (by omega), sg_set_s, upd_o (by omega)]
              rcases g4 with ⟨g4, g5⟩ | ⟨p, z, g4, g5, g6, g7, g8⟩
              · refine skip (fun y' r1 r2 r3 r4 => ?_) u' g2' g3' ?_
                · have := eE y' r3
                  subst this
                  exact r4.elim q2 (fun r => g5 r)
                · rw [body, q_ieq0 (by omega) (by omega) (by omega), g1, q_b2s, g4]
                  unfold fX0_follow_j94
                  rw [q_sc]
                  exact if_pos (by decide)
              · refine hG (Or.inr ⟨(r, u'), ?_, fun j hj => (g2' j hj).trans (hfr j hj), fun j hj => (g3' j hj).trans (hpa j hj), Or.inr ⟨i :: p, z, List.cons_ne_nil _ _, ⟨q1, q0, y, f1, g5⟩, ?_, ?_, fun j hj => ?_⟩⟩)
                · show fX0_follow_L12 N (fX0_follow N d) v (nI x) came (nI t) c (nI dep) (nI i) = _
                  rw [body, q_ieq0 (by omega) (by omega) (by omega), g1, q_b2s, g6]
                  unfold fX0_follow_j94
                  simp (disch := omega) only [q_ile0, q_ile1, q_ilt0, q_ilt1, q_ieq0, q_ieq1, q_iltz, q_ilez, q_ilez0, q_izlt, q_im1, q_im1a, q_ieqz, q_ieqz0, q_l10, q_l12, q_ck, q_cl, q_gt, q_bs, q_b2s, q_ls, q_sc, nI_add, if_true, if_false, ite_true, ite_false, reduceIte, q_10, q_01, q_11, q_00]
                · show r = _
                  rw [g6, List.length_cons]
                  congr 1
                  omega
                · have g9 := qcn_len (n := n) hF hbd p y i z t (fun _ => ⟨x, qg_E_sy f1⟩) f2 g5
                  rw [List.length_cons]
                  omega
                · show u' 18 (dep + j) = _
                  cases j with
                  | zero => rw [Nat.add_zero, g3 dep (by omega), sg_set_s, upd_s]; rfl
                  | succ j =>
                    have := g8 j (Nat.lt_of_succ_lt_succ hj)
                    rw [show dep + (j + 1) = dep + 1 + j by omega, this]
                    rfl
          · refine skip (fun y _ _ r => absurd r (f1 y)) v (fun _ _ => rfl) (fun _ _ => rfl) ?_
            rw [head, if_neg q0', hc.has1 q1, q_bs, q_10, f3, q_bs]
            unfold fX0_follow_j49
            rw [q_im1a, q_sc]
        · refine skip (fun y r _ _ => absurd r q1) v (fun _ _ => rfl) (fun _ _ => rfl) ?_
          rw [head, if_neg q0', hc.has0 (by omega) q1, q_bs, q_00]) (by
      rintro ⟨v, z⟩ ⟨hz, hfr, hpa, hno⟩
      replace hz : z = nI 12 := hz
      subst hz
      refine ⟨(0, v), ?_, hfr, hpa, Or.inl ⟨rfl, fun q => ?_⟩⟩
      · show fX0_follow_L12 N (fX0_follow N d) v (nI x) came (nI t) c (nI dep) (nI 12) = _
        unfold fX0_follow_L12
        simp (disch := omega) only [q_ile0, q_ile1, q_ilt0, q_ilt1, q_ieq0, q_ieq1, q_iltz, q_ilez, q_ilez0, q_izlt, q_im1, q_im1a, q_ieqz, q_ieqz0, q_l10, q_l12, q_ck, q_cl, q_gt, q_bs, q_b2s, q_ls, q_sc, nI_add, if_true, if_false, ite_true, ite_false, reduceIte, q_10, q_01, q_11, q_00]
      · obtain ⟨q1, q2, q3⟩ := q
        rcases (qg_split hF h0).mp q3 with r | ⟨l', y, r1, r2, r3, r4⟩
        · exact hno t (b t) (by omega) q1 q2 (Or.inl ⟨r, rfl⟩) (Or.inl rfl)
        · by_cases e : l' = t
          · exact hno l' y (by have := hC l' r1; omega) r1 r2 r3 (Or.inl e)
          · exact hno l' y (by have := hC l' r1; omega) r1 r2 r3 (Or.inr ⟨q1, fun z => e z.symm, r4⟩))
    refine ⟨r.1, r.2, ?_, hfr, hpa, hres⟩
    show fX0_follow_B N (fX0_follow N d) u (nI x) came (nI t) c (nI dep) = _
    unfold fX0_follow_B
    simp (disch := omega) only [q_l10, q_ilt1]
    exact hr
theorem qx_lay (hN : 20 < N) (hW : qW u n k a b ld cap pr rt S B) (hc : qS c C) (hC : ∀ l, C l → l < k) (hF : qg_F a b C) (ht : t < k) : ∃ (r : Int32) (u' : sg_St), fX0_layPath N u (nI t) c = some (r, u') ∧ qfr u u' ∧ ((r = 0 ∧ ¬ (C t ∧ qg_L a b S C (a t))) ∨ ∃ s p z, S s ∧ p ≠ [] ∧ qcn a b C p s 12 z t ∧ r = nI p.length ∧ p.length ≤ 9 ∧ ∀ i, i < p.length → u' 18 i = nI (p.getD i 0)) := by
  have hg := hW.1
  have hk := hg.2.2.2.1
  have hn := hg.2.2.1
  have hbd := hg.bd hC
  have hC12 : ¬ C 12 := fun q => by have := hC 12 q; omega
  have hdel : ∀ l, qg_del C 12 l ↔ C l := fun l => ⟨fun q => q.1, fun q => ⟨q, fun e => hC12 (e ▸ q)⟩⟩
  obtain ⟨r, hr, hfr, hres⟩ := q_loop (f := fun z : sg_St × Int32 × Int32 => fX0_layPath_L5 N z.1 (nI t) c z.2.1 z.2.2) (m := n) (N := N) (x0 := (u, 0, 0))
    (fun i z => z.2.2 = nI i ∧ (∀ j, j ≠ 18 → z.1 j = u j) ∧ ((z.2.1 = 0 ∧ ∀ s, s < i → S s → ¬ (C t ∧ qg_R a b C s (a t))) ∨ ∃ s p z', S s ∧ p ≠ [] ∧ qcn a b C p s 12 z' t ∧ z.2.1 = nI p.length ∧ p.length ≤ 9 ∧ ∀ i, i < p.length → z.1 18 i = nI (p.getD i 0)))
    (fun r => (∀ j, j ≠ 18 → r.1 j = u j) ∧ ((r.2 = 0 ∧ ¬ (C t ∧ qg_L a b S C (a t))) ∨ ∃ s p z', S s ∧ p ≠ [] ∧ qcn a b C p s 12 z' t ∧ r.2 = nI p.length ∧ p.length ≤ 9 ∧ ∀ i, i < p.length → r.1 18 i = nI (p.getD i 0)))
    (by omega) ⟨rfl, fun _ _ => rfl, Or.inl ⟨rfl, fun s hs => absurd hs (Nat.not_lt_zero s)⟩⟩ (by
    rintro i ⟨v, z1, z2⟩ hi ⟨hz, hfr, hres⟩
    replace hz : z2 = nI i := hz
    subst hz
    have hWv : qW v n k a b ld cap pr rt S B := hW.fr (fun j hj => hfr j (by omega))
    rcases hres with ⟨h1, h2⟩ | ⟨s, p, z', h1, h2, h3, h4, h5, h6⟩
    · replace h1 : z1 = 0 := h1
      subst h1
      by_cases q : S i
      · obtain ⟨r, u', g1, g2, g3, g4⟩ := qx_follow (d := 13) (u := v) (x := i) (l0 := 12) (came := -1) (dep := 0) hN hc hC hF ht hWv hi (fun q => absurd q hC12) (fun l hl => ⟨fun e => absurd e (q_m1 (by omega)), fun e => by omega⟩) (by have := qc_le (P := qg_R a b (qg_del C 12) i) (n := n); omega) (by omega)
        refine Or.inl ⟨(u', r, nI (i + 1)), ?_, rfl, fun j hj => (g2 j hj).trans (hfr j hj), ?_⟩
        · show fX0_layPath_L5 N v (nI t) c 0 (nI i) = _
          unfold fX0_layPath_L5
          rw [hWv.sS.has1 q, show fX0_follow N 13 v (nI i) (-1) (nI t) c 0 = _ from g1]
          simp (disch := omega) only [q_ile0, q_ile1, q_ilt0, q_ilt1, q_ieq0, q_ieq1, q_iltz, q_ilez, q_ilez0, q_izlt, q_im1, q_im1a, q_ieqz, q_ieqz0, q_l10, q_l12, q_ck, q_cl, q_gt, q_bs, q_b2s, q_ls, q_sc, nI_add, if_true, if_false, ite_true, ite_false, reduceIte, q_10, q_01, q_11, q_00, hWv.1.1]
        · rcases g4 with ⟨g4, g5⟩ | ⟨p, z, g4, g5, g6, g7, g8⟩
          · refine Or.inl ⟨g4, fun s r1 r2 r3 => ?_⟩
            by_cases e : s = i
            · subst e
              exact g5 ⟨r3.1, fun e => hC12 (e ▸ r3.1), (qg_cg hdel).mpr r3.2⟩
            · exact h2 s (by omega) r2 r3
          · have g9 := qcn_len (n := n) hF hbd p i 12 z t (fun q => absurd q hC12) hi g5
            have g10 := qc_le (P := qg_R a b (qg_del C 12) i) (n := n)
            refine Or.inr ⟨i, p, z, q, g4, g5, ?_, by omega, fun j hj => ?_⟩
            · show r = _
              rw [g6, Nat.zero_add]
            · show u' 18 j = _
              rw [← g8 j hj, Nat.zero_add]
      · refine Or.inl ⟨(v, 0, nI (i + 1)), ?_, rfl, hfr, Or.inl ⟨rfl, fun s r1 r2 r3 => ?_⟩⟩
        · show fX0_layPath_L5 N v (nI t) c 0 (nI i) = _
          unfold fX0_layPath_L5
          simp (disch := omega) only [q_ile0, q_ile1, q_ilt0, q_ilt1, q_ieq0, q_ieq1, q_iltz, q_ilez, q_ilez0, q_izlt, q_im1, q_im1a, q_ieqz, q_ieqz0, q_l10, q_l12, q_ck, q_cl, q_gt, q_bs, q_b2s, q_ls, q_sc, nI_add, if_true, if_false, ite_true, ite_false, reduceIte, q_10, q_01, q_11, q_00, hWv.1.1, hWv.sS.has0 (show i < 32 by omega) q]
        · by_cases e : s = i
          · subst e; exact q r2
          · exact h2 s (by omega) r2 r3
    · replace h4 : z1 = nI p.length := h4
      subst h4
      have hp : 0 < p.length := List.length_pos_iff.mpr h2
      refine Or.inr ⟨(v, nI p.length), ?_, hfr, Or.inr ⟨s, p, z', h1, h2, h3, rfl, h5, h6⟩⟩
      show fX0_layPath_L5 N v (nI t) c (nI p.length) (nI i) = _
      unfold fX0_layPath_L5
      simp (disch := omega) only [q_ile0, q_ile1, q_ilt0, q_ilt1, q_ieq0, q_ieq1, q_iltz, q_ilez, q_ilez0, q_izlt, q_im1, q_im1a, q_ieqz, q_ieqz0, q_l10, q_l12, q_ck, q_cl, q_gt, q_bs, q_b2s, q_ls, q_sc, nI_add, if_true, if_false, ite_true, ite_false, reduceIte, q_10, q_01, q_11, q_00, hWv.1.1]) (by
    rintro ⟨v, z1, z2⟩ ⟨hz, hfr, hres⟩
    replace hz : z2 = nI n := hz
    subst hz
    have hWv : qW v n k a b ld cap pr rt S B := hW.fr (fun j hj => hfr j (by omega))
    refine ⟨(v, z1), ?_, hfr, ?_⟩
    · show fX0_layPath_L5 N v (nI t) c z1 (nI n) = _
      unfold fX0_layPath_L5
      simp (disch := omega) only [q_ile0, q_ile1, q_ilt0, q_ilt1, q_ieq0, q_ieq1, q_iltz, q_ilez, q_ilez0, q_izlt, q_im1, q_im1a, q_ieqz, q_ieqz0, q_l10, q_l12, q_ck, q_cl, q_gt, q_bs, q_b2s, q_ls, q_sc, nI_add, if_true, if_false, ite_true, ite_false, reduceIte, q_10, q_01, q_11, q_00, hWv.1.1]
    · rcases hres with ⟨h1, h2⟩ | h
      · refine Or.inl ⟨h1, fun q => ?_⟩
        obtain ⟨q1, s, q2, q3⟩ := q
        exact h2 s (hW.Sn s q2) q2 ⟨q1, qg_sy q3⟩
      · exact Or.inr h)
  refine ⟨r.2, r.1, ?_, fun j _ h => hfr j h, hres⟩
  unfold fX0_layPath
  rw [hr]
  rfl
end QF
