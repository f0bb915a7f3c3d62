/-! calls: relays, loads, and what is added -/
def qpt (f : Nat → Nat) (i x : Nat) : Nat → Nat := fun j => if j = i then x else f j
theorem qpt_s {f : Nat → Nat} {i x : Nat} : qpt f i x i = x := if_pos rfl
theorem qpt_o {f : Nat → Nat} {i j x : Nat} (h : j ≠ i) : qpt f i x j = f j := if_neg h
section CG
variable {N n k : Nat} {u v u' v' w : sg_St} {a b a' b' ld ld' cap cap' pr rt rt' pk mu ins : Nat → Nat} {S S' B B' C C' Lk Fl Lk' Fl' L : Nat → Prop} {l x y : Nat}
theorem q_in {L H : Int32} {lo hi : Nat} (hL : L = nI lo) (hH : H = nI hi) (hlo : lo < 2147483648) (hhi : hi < 2147483648) (p : Int32) : (∃ c, lo ≤ c ∧ c ≤ hi ∧ p = nI c ∧ ¬ p < L ∧ p ≤ H ∧ fX6_in N p L H = some 1) ∨ ((p < L ∨ (¬ p < L ∧ ¬ p ≤ H)) ∧ fX6_in N p L H = some 0) := by
  subst hL
  subst hH
  unfold fX6_in fX6_in_j14
  by_cases h1 : p < nI lo
  · exact Or.inr ⟨Or.inl h1, if_pos h1⟩
  · rw [if_neg h1]
    by_cases h2 : nI hi < p
    · refine Or.inr ⟨Or.inr ⟨h1, fun h3 => ?_⟩, if_pos h2⟩
      rw [Int32.lt_iff_toInt_lt] at h2
      rw [Int32.le_iff_toInt_le] at h3
      omega
    · rw [if_neg h2]
      have h0 : ¬ p < 0 := fun q => h1 (by
        rw [Int32.lt_iff_toInt_lt] at q ⊢
        rw [nI_toInt (show lo < 2 ^ 31 by omega)]
        rw [show (0 : Int32).toInt = 0 from rfl] at q
        omega)
      obtain ⟨c, hc, rfl⟩ := nI_of h0
      have h3 : ¬ c < lo := fun q => h1 ((q_lt (by omega) hlo).mpr q)
      have h4 : ¬ hi < c := fun q => h2 ((q_lt hhi (by omega)).mpr q)
      exact Or.inl ⟨c, by omega, by omega, rfl, h1, (q_le (by omega) hhi).mpr (by omega), rfl⟩
theorem q_line2 {cs : List Nat} (hI : qI u v) (p : Int32) (K : sg_St → Option ((Nat ⊕ Int32) × sg_St)) (L : Option (Int32 × sg_St)) (h : ∀ (n k : Nat) (a b ld cap pr rt pk mu ins : Nat → Nat) (S B C Lk Fl : Nat → Prop) (l : Nat), qJ n k a b ld cap pr rt pk mu ins S B C Lk Fl u v → l < k → p = nI l → ∃ R r1 v1, K u = some R ∧ L = some (r1, v1) ∧ sg_Rel qI (5 :: cs) R r1 v1) : ∃ R r1 v1, sg_bt (fX5_needLine N u p) (fun _ u3 => K u3) = some R ∧ sg_b (fX6_isLine N v p) (fun r2 => if r2 = 0 then sg_b2 (fX6_fails N v 1) (fun r u => some (r, u)) else L) = some (r1, v1) ∧ sg_Rel qI (5 :: cs) R r1 v1 := by
  obtain ⟨n, k, a, b, ld, cap, pr, rt, pk, mu, ins, S, B, C, Lk, Fl, hJ⟩ := hI
  rcases qx_needLine (N := N) hJ.1.1 p with ⟨l, h1, h2, h3⟩ | ⟨h1, h3⟩ <;> rcases qm_isLine (N := N) hJ.2.1 p with ⟨l', g1, g2, g3⟩ | ⟨g1, g3⟩
  · obtain ⟨R, r1, v1, e1, e2, e3⟩ := h n k a b ld cap pr rt pk mu ins S B C Lk Fl l hJ h1 h2
    refine ⟨R, r1, v1, ?_, ?_, e3⟩
    · rw [h3, sg_bt_r]; exact e1
    · rw [g3, q_bs, q_10]; exact e2
  · exact absurd h2 (g1 l h1)
  · exact absurd g2 (h1 l' g1)
  · refine ⟨(.inl 5, u), 0, sg_set v 0 0 1, ?_, ?_, Or.inr ⟨5, u, rfl, List.mem_cons_self, ?_, (hJ.fr (qFX.rf u) (qFM.of0 v 1)).I⟩⟩
    · rw [h3]; rfl
    · rw [g3, q_bs, q_00]; rfl
    · rw [q_th0]; rfl
theorem q_node2 {cs : List Nat} (hI : qI u v) (p : Int32) (K : sg_St → Option ((Nat ⊕ Int32) × sg_St)) (L : Option (Int32 × sg_St)) (h : ∀ (n k : Nat) (a b ld cap pr rt pk mu ins : Nat → Nat) (S B C Lk Fl : Nat → Prop) (l : Nat), qJ n k a b ld cap pr rt pk mu ins S B C Lk Fl u v → l < n → p = nI l → ∃ R r1 v1, K u = some R ∧ L = some (r1, v1) ∧ sg_Rel qI (5 :: cs) R r1 v1) : ∃ R r1 v1, sg_bt (fX5_needNode N u p) (fun _ u3 => K u3) = some R ∧ sg_b (fX6_isNode N v p) (fun r2 => if r2 = 0 then sg_b2 (fX6_fails N v 1) (fun r u => some (r, u)) else L) = some (r1, v1) ∧ sg_Rel qI (5 :: cs) R r1 v1 := by
  obtain ⟨n, k, a, b, ld, cap, pr, rt, pk, mu, ins, S, B, C, Lk, Fl, hJ⟩ := hI
  rcases qx_needNode (N := N) hJ.1.1 p with ⟨l, h1, h2, h3⟩ | ⟨h1, h3⟩ <;> rcases qm_isNode (N := N) hJ.2.1 p with ⟨l', g1, g2, g3⟩ | ⟨g1, g3⟩
  · obtain ⟨R, r1, v1, e1, e2, e3⟩ := h n k a b ld cap pr rt pk mu ins S B C Lk Fl l hJ h1 h2
    refine ⟨R, r1, v1, ?_, ?_, e3⟩
    · rw [h3, sg_bt_r]; exact e1
    · rw [g3, q_bs, q_10]; exact e2
  · exact absurd h2 (g1 l h1)
  · exact absurd g2 (h1 l' g1)
  · refine ⟨(.inl 5, u), 0, sg_set v 0 0 1, ?_, ?_, Or.inr ⟨5, u, rfl, List.mem_cons_self, ?_, (hJ.fr (qFX.rf u) (qFM.of0 v 1)).I⟩⟩
    · rw [h3]; rfl
    · rw [g3, q_bs, q_00]; rfl
    · rw [q_th0]; rfl
/-- a call that fails: the same state, the same exception -/
theorem q_fail {α : Type} {cs : List Nat} {r : α} {e : Nat} {z : Int32} (hI : qI u v) (he : e ∈ cs) (hz : z = nI (sg_ix cs e + 1)) : sg_Rel qI cs (.inl e, u) r (sg_set v 0 0 z) := Or.inr ⟨e, u, rfl, he, by rw [q_th0]; exact hz, hI.fr (qFX.rf u) (qFM.of0 v z)⟩
theorem qx_needBr (hJ : qJ n k a b ld cap pr rt pk mu ins S B C Lk Fl u v) (hl : l < k) : (B l → fX5_needBreaker N u (nI l) = some (.inr (), u)) ∧ (¬ B l → fX5_needBreaker N u (nI l) = some (.inl 4, u)) := by
  have hk := hJ.k12
  unfold fX5_needBreaker
  refine ⟨fun q => ?_, fun q => ?_⟩
  · rw [hJ.1.sB.has1 q]; rfl
  · rw [hJ.1.sB.has0 (by omega) q]; rfl
theorem sb32 (hN : 5000 < N) (u v : sg_St) (hI : qI u v) (p p2 : Int32) : sb_32 N qI u v p p2 := by
  unfold sb_32 fX5_tripTime fX6_tripTime
  refine q_line2 hI p _ _ (fun n k a b ld cap pr rt pk mu ins S B C Lk Fl l hJ hl hp => ?_)
  subst hp
  have hk := hJ.k12
  have v18 := (hJ.2.1.2.2.2.2.2.2 l hl).2.2.2
  rcases q_in (N := N) (lo := 1) (hi := 99999) (L := 1) (H := 99999) rfl (by decide) (by omega) (by omega) p2 with ⟨c, c1, c2, rfl, c4, c5, c6⟩ | ⟨c1, c6⟩
  · by_cases q : B l
    · refine ⟨(.inr (qti (qtm (pk l) (mu l) (ins l) c)), u), qti (qtm (pk l) (mu l) (ins l) c), sg_set v 0 0 0, ?_, ?_, Or.inl ⟨u, rfl, q_th0 v 0, (hJ.fr (qFX.rf u) (qFM.of0 v 0)).I⟩⟩
      · rw [if_neg c4, if_pos c5, (qx_needBr hJ hl).1 q, sg_bt_r, qx_time hJ.1 hJ.2.2.2.2.1 hJ.2.2.2.2.2.2.1 hl (by omega), q_bs, qta_1 q]
      · have hJ0 := hJ.fr (qFX.rf u) (qFM.of0 v 0)
        rw [c6, q_bs, q_10, q_ck (show l < 12 by omega) (by omega), q_gt, q_cl (show l < 2147483648 by omega), v18, qt_1 q, q_10, qm_time hk hJ0.2.2.2.2.2.1 hJ0.2.2.2.2.2.2.1 hl (by omega), q_bs]
    · refine ⟨(.inl 4, u), 0, sg_set v 0 0 3, ?_, ?_, q_fail hJ.I (by decide) (by decide)⟩
      · rw [if_neg c4, if_pos c5, (qx_needBr hJ hl).2 q]; rfl
      · rw [c6, q_bs, q_10, q_ck (show l < 12 by omega) (by omega), q_gt, q_cl (show l < 2147483648 by omega), v18, qt_0 q, q_00]
        rfl
  · refine ⟨(.inl 1, u), 0, sg_set v 0 0 2, ?_, ?_, q_fail hJ.I (by decide) (by decide)⟩
    · rcases c1 with z | ⟨z, z2⟩
      · rw [if_pos z]; rfl
      · rw [if_neg z, if_neg z2]; rfl
    · rw [c6, q_bs, q_00]; rfl
theorem qx_setUp (hg : qX u n k a b) (hl : l < k) (x y z : Int32) : fX3_setUp N u (nI l) x y z = some (sg_set (sg_set (sg_set u 19 l x) 20 l y) 21 l z) := by
  have hk := hg.2.2.2.1
  unfold fX3_setUp
  rw [qx_isL hg hl, q_bs, q_10, q_ck (show l < 12 by omega) (by omega), q_gt, q_gt, q_gt, q_cl (show l < 2147483648 by omega)]
/-- another relay on both sides -/
theorem qJ.relay (h : qJ n k a b ld cap pr rt pk mu ins S B C Lk Fl u v) (hl : l < k) {c d e : Nat} (b1 : 0 < c ∧ c ≤ 999) (b2 : 0 < d ∧ d ≤ 10) (b3 : e < 2147483648) (F : ∀ j, j ≠ 19 → j ≠ 20 → j ≠ 21 → u' j = u j) (Fi : ∀ i, i ≠ l → u' 19 i = u 19 i ∧ u' 20 i = u 20 i ∧ u' 21 i = u 21 i) (Fl0 : u' 19 l = nI c ∧ u' 20 l = nI d ∧ u' 21 l = nI e) (G : ∀ j, j ≠ 0 → j ≠ 15 → j ≠ 16 → j ≠ 17 → v' j = v j) (Gi : ∀ i, i ≠ l → v' 15 i = v 15 i ∧ v' 16 i = v 16 i ∧ v' 17 i = v 17 i) (Gl : v' 15 l = nI c ∧ v' 16 l = nI d ∧ v' 17 l = nI e) : qJ n k a b ld cap pr rt (qpt pk l c) (qpt mu l d) (qpt ins l e) S B C Lk Fl u' v' := by
  obtain ⟨h1, h2, h3, h4, h5, h6, h7, h8, h9, h10, h11, h12⟩ := h
  refine ⟨h1.fr (fun j hj => F j (by omega) (by omega) (by omega)), h2.fr (fun j hj => G j (by omega) (by omega) (by omega) (by omega)), ?_, fun m hm => ?_, fun m hm => ?_, fun m hm => ?_, fun m hm => ?_, h8, h9, h10, ?_, fun i q1 q2 => ?_, fun m q1 q2 => ?_⟩
  · rw [F 4 (by omega) (by omega) (by omega), F 5 (by omega) (by omega) (by omega), F 6 (by omega) (by omega) (by omega)]; exact h3
  · rw [G 19 (by omega) (by omega) (by omega) (by omega), G 20 (by omega) (by omega) (by omega) (by omega), G 21 (by omega) (by omega) (by omega) (by omega)]; exact h4 m hm
  · by_cases e0 : m = l
    · rw [e0, qpt_s, qpt_s, qpt_s]; exact Fl0
    · rw [qpt_o e0, qpt_o e0, qpt_o e0, (Fi m e0).1, (Fi m e0).2.1, (Fi m e0).2.2]; exact h5 m hm
  · by_cases e0 : m = l
    · rw [e0, qpt_s, qpt_s, qpt_s]; exact Gl
    · rw [qpt_o e0, qpt_o e0, qpt_o e0, (Gi m e0).1, (Gi m e0).2.1, (Gi m e0).2.2]; exact h6 m hm
  · by_cases e0 : m = l
    · rw [e0, qpt_s, qpt_s, qpt_s]; exact ⟨b1.1, b1.2, b2.1, b2.2, b3⟩
    · rw [qpt_o e0, qpt_o e0, qpt_o e0]; exact h7 m hm
  · rw [F 10 (by omega) (by omega) (by omega), G 3 (by omega) (by omega) (by omega) (by omega)]; exact h11
  · rw [G 8 (by omega) (by omega) (by omega) (by omega), G 9 (by omega) (by omega) (by omega) (by omega), G 10 (by omega) (by omega) (by omega) (by omega), G 11 (by omega) (by omega) (by omega) (by omega)]; exact h12.1 i q1 q2
  · rw [(Gi m (by omega)).2.2, G 19 (by omega) (by omega) (by omega) (by omega), G 20 (by omega) (by omega) (by omega) (by omega), G 21 (by omega) (by omega) (by omega) (by omega)]; exact h12.2 m q1 q2
theorem sb4 (hN : 5000 < N) (u v : sg_St) (hI : qI u v) (p p2 p3 p4 : Int32) : sb_4 N qI u v p p2 p3 p4 := by
  unfold sb_4 fX5_setRelay fX6_setRelay
  refine q_line2 hI p _ _ (fun n k a b ld cap pr rt pk mu ins S B C Lk Fl l hJ hl hp => ?_)
  subst hp
  have hk := hJ.k12
  have v18 := (hJ.2.1.2.2.2.2.2.2 l hl).2.2.2
  have bad : ∃ R r1 v1, (some (.inl 1, u) : Option ((Nat ⊕ Int32) × sg_St)) = some R ∧ fX6_setRelay_j46 N v = some (r1, v1) ∧ sg_Rel qI [5, 1, 4] R r1 v1 := ⟨(.inl 1, u), 0, sg_set v 0 0 2, rfl, rfl, q_fail hJ.I (by decide) (by decide)⟩
  rcases q_in (N := N) (lo := 1) (hi := 999) (L := 1) (H := 999) rfl (by decide) (by omega) (by omega) p2 with ⟨c, c1, c2, rfl, c4, c5, c6⟩ | ⟨c1, c6⟩
  · rw [if_neg c4, if_pos c5, c6, q_bs, q_10]
    rcases q_in (N := N) (lo := 1) (hi := 10) (L := 1) (H := 10) rfl (by decide) (by omega) (by omega) p3 with ⟨d, d1, d2, rfl, d4, d5, d6⟩ | ⟨d1, d6⟩
    · rw [if_neg d4, if_pos d5, d6, q_bs, q_10]
      have good : ∀ e : Nat, e < 2147483648 → ∃ R r1 v1, fX5_setRelay_j69 N u (nI l) (nI c) (nI d) (nI e) = some R ∧ fX6_setRelay_j52 N v (nI l) (nI c) (nI d) (nI e) = some (r1, v1) ∧ sg_Rel qI [5, 1, 4] R r1 v1 := fun e he => by
        unfold fX5_setRelay_j69 fX6_setRelay_j52
        by_cases q : B l
        · have e1 : u 19 l = nI (pk l) := (hJ.2.2.2.2.1 l hl).1
          have e2 : v 15 l = nI (pk l) := (hJ.2.2.2.2.2.1 l hl).1
          refine ⟨(.inr (nI (pk l)), sg_set (sg_set (sg_set u 19 l (nI c)) 20 l (nI d)) 21 l (nI e)), nI (pk l), sg_set (sg_set (sg_set (sg_set v 0 0 0) 15 l (nI c)) 16 l (nI d)) 17 l (nI e), ?_, ?_, Or.inl ⟨_, rfl, ?_, (hJ.relay (c := c) (d := d) (e := e) hl ⟨by omega, by omega⟩ ⟨by omega, by omega⟩ he (fun j h1 h2 h3 => ?_) (fun i hi => ⟨?_, ?_, ?_⟩) ⟨?_, ?_, ?_⟩ (fun j h0 h1 h2 h3 => ?_) (fun i hi => ⟨?_, ?_, ?_⟩) ⟨?_, ?_, ?_⟩).I⟩⟩
          · rw [(qx_needBr hJ hl).1 q, sg_bt_r]
            unfold fX3_pickupAt
            rw [qx_isL hJ.1.1 hl, q_bs, q_10, q_ck (show l < 12 by omega) (by omega), q_gt, q_cl (show l < 2147483648 by omega), q_bs, qx_setUp hJ.1.1 hl, q_bs, e1]
          · rw [q_ck (show l < 12 by omega) (by omega), q_gt, q_cl (show l < 2147483648 by omega), v18, qt_1 q, q_10, q_gt, q_gt, q_gt, q_gt, sg_set_o (u := v) (show (15 : Nat) ≠ 0 by omega), e2]
          · rw [sg_set_o (by omega), sg_set_o (by omega), sg_set_o (by omega), q_th0]
          · rw [sg_set_o h3, sg_set_o h2, sg_set_o h1]
          · rw [sg_set_o (show (19 : Nat) ≠ 21 by omega), sg_set_o (show (19 : Nat) ≠ 20 by omega), sg_set_s, upd_o hi]
          · rw [sg_set_o (show (20 : Nat) ≠ 21 by omega), sg_set_s, upd_o hi, sg_set_o (show (20 : Nat) ≠ 19 by omega)]
          · rw [sg_set_s, upd_o hi, sg_set_o (show (21 : Nat) ≠ 20 by omega), sg_set_o (show (21 : Nat) ≠ 19 by omega)]
          · rw [sg_set_o (show (19 : Nat) ≠ 21 by omega), sg_set_o (show (19 : Nat) ≠ 20 by omega), sg_set_s, upd_s]
          · rw [sg_set_o (show (20 : Nat) ≠ 21 by omega), sg_set_s, upd_s]
          · rw [sg_set_s, upd_s]
          · rw [sg_set_o h3, sg_set_o h2, sg_set_o h1, sg_set_o h0]
          · rw [sg_set_o (show (15 : Nat) ≠ 17 by omega), sg_set_o (show (15 : Nat) ≠ 16 by omega), sg_set_s, upd_o hi, sg_set_o (show (15 : Nat) ≠ 0 by omega)]
          · rw [sg_set_o (show (16 : Nat) ≠ 17 by omega), sg_set_s, upd_o hi, sg_set_o (show (16 : Nat) ≠ 15 by omega), sg_set_o (show (16 : Nat) ≠ 0 by omega)]
          · rw [sg_set_s, upd_o hi, sg_set_o (show (17 : Nat) ≠ 16 by omega), sg_set_o (show (17 : Nat) ≠ 15 by omega), sg_set_o (show (17 : Nat) ≠ 0 by omega)]
          · rw [sg_set_o (show (15 : Nat) ≠ 17 by omega), sg_set_o (show (15 : Nat) ≠ 16 by omega), sg_set_s, upd_s]
          · rw [sg_set_o (show (16 : Nat) ≠ 17 by omega), sg_set_s, upd_s]
          · rw [sg_set_s, upd_s]
        · refine ⟨(.inl 4, u), 0, sg_set v 0 0 3, ?_, ?_, q_fail hJ.I (by decide) (by decide)⟩
          · rw [(qx_needBr hJ hl).2 q]; rfl
          · rw [q_ck (show l < 12 by omega) (by omega), q_gt, q_cl (show l < 2147483648 by omega), v18, qt_0 q, q_00]
            rfl
      by_cases z1 : p4 = 0
      · rw [if_pos z1, if_pos z1, z1]
        exact good 0 (by omega)
      · by_cases z2 : nI c < p4
        · have z3 : ¬ p4 < 0 := fun z => by
            rw [Int32.lt_iff_toInt_lt] at z z2
            rw [nI_toInt (show c < 2 ^ 31 by omega)] at z2
            rw [show (0 : Int32).toInt = 0 from rfl] at z
            omega
          obtain ⟨e, he, rfl⟩ := nI_of z3
          rw [if_neg z1, if_neg z1, if_pos z2, if_pos z2]
          exact good e (by omega)
        · rw [if_neg z1, if_neg z1, if_neg z2, if_neg z2]
          exact bad
    · rw [d6, q_bs, q_00]
      rcases d1 with z | ⟨z, z2⟩
      · rw [if_pos z]; exact bad
      · rw [if_neg z, if_neg z2]; exact bad
  · rw [c6, q_bs, q_00]
    rcases c1 with z | ⟨z, z2⟩
    · rw [if_pos z]; exact bad
    · rw [if_neg z, if_neg z2]; exact bad
end CG
