/-! p49: what is added -/
section PDA
variable {N n k : Nat} {u v u' v' w : sg_St} {a b ld cap pr rt pk mu ins lab : Nat → Nat} {S B C C' Lk Fl Lk' Fl' : Nat → Prop} {l x y m t s c d e : Nat}
theorem hl_addSource (hJ : qJ n k a b ld cap pr rt pk mu ins S B C Lk Fl u v) (h10 : n < 10) (c1 : 1 ≤ c) (c2 : c ≤ 999) : ∃ u', fL_addSource N u (nI c) = some (nI n, u') ∧ qK (n + 1) k a b (qpt ld n 0) (qpt cap n c) (qpt pr n 0) rt pk mu ins (fun i => S i ∨ i = n) B C Lk Fl u' := by
  have x0 := hJ.1.1.1
  have y0 := hJ.2.1.1
  have n1 : vp_nar .boolean 1 = 1 := rfl
  have hr := q_rng (lo := 1) (hi := 999) c1 c2 (by omega)
  have hO := hJ.2.2.2.2.2.2.2.2.2.2.2.1 n (Nat.le_refl n) h10
  have hK : qJ (n + 1) k a b (qpt ld n 0) (qpt cap n c) (qpt pr n 0) rt pk mu ins (fun i => S i ∨ i = n) B C Lk Fl (sg_set (sg_set (sg_set (sg_set (sg_set u 11 n (nI c)) 12 n 0) 13 n 0) 2 0 (u 2 0 ||| qB n)) 0 0 (nI (n + 1))) (sg_set (sg_set (sg_set (sg_set v 0 0 0) 8 n 1) 9 n (nI c)) 1 0 (nI (n + 1))) := by
    refine hJ.node (S' := fun i => S i ∨ i = n) (cc := c) (ll := 0) (pp := 0) h10 (fun i hi => ⟨fun z => z.elim id (fun z => absurd z hi), Or.inl⟩) c2 (by omega) (by omega) (fun _ => ⟨by omega, rfl⟩) (fun j j0 j2 j11 j12 j13 => ?_) ?_ ?_ (fun i hi => ⟨?_, ?_, ?_⟩) ⟨?_, ?_, ?_⟩ (fun j j0 j1 j8 j9 j10 j11 => ?_) ?_ (fun i hi => ⟨?_, ?_, ?_, ?_⟩) ⟨?_, ?_, ?_, ?_⟩
    · rw [sg_set_o j0, sg_set_o j2, sg_set_o j13, sg_set_o j12, sg_set_o j11]
    · rw [sg_set_s, upd_s]
    · rw [sg_set_o (show (2 : Nat) ≠ 0 by omega), sg_set_s, upd_s]
      exact hJ.1.sS.or (qS.bit (by omega))
    · simp (disch := omega) only [sg_set_o, sg_set_s, upd_o hi]
    · simp (disch := omega) only [sg_set_o, sg_set_s, upd_o hi]
    · simp (disch := omega) only [sg_set_o, sg_set_s, upd_o hi]
    · simp (disch := omega) only [sg_set_o, sg_set_s, upd_s]
    · show _ = (0 : Int32)
      simp (disch := omega) only [sg_set_o, sg_set_s, upd_s]
    · show _ = (0 : Int32)
      simp (disch := omega) only [sg_set_o, sg_set_s, upd_s]
    · rw [sg_set_o j1, sg_set_o j9, sg_set_o j8, sg_set_o j0]
    · rw [sg_set_s, upd_s]
    · simp (disch := omega) only [sg_set_o, sg_set_s, upd_o hi]
    · simp (disch := omega) only [sg_set_o, sg_set_s, upd_o hi]
    · simp (disch := omega) only [sg_set_o]
    · simp (disch := omega) only [sg_set_o]
    · rw [qt_1 (Or.inr rfl)]
      simp (disch := omega) only [sg_set_o, sg_set_s, upd_s]
    · simp (disch := omega) only [sg_set_o, sg_set_s, upd_s]
    · simp (disch := omega) only [sg_set_o]
      exact hO.2.2.1
    · simp (disch := omega) only [sg_set_o]
      exact hO.2.2.2
  refine ⟨_, ?_, qK.of hK⟩
  unfold fL_addSource fX5_addSource
  rw [if_neg (show ¬ nI c < 1 from hr.1), if_pos (show nI c ≤ 999 from hr.2), qx_addN1 x0 h10 (by omega) (by omega), q_b2s, qx_added (by omega), sg_bt0_r]; rfl
theorem hl_addBus (hJ : qJ n k a b ld cap pr rt pk mu ins S B C Lk Fl u v) (h10 : n < 10) (hd : d ≤ 99) (c2 : c ≤ 9) : ∃ u', fL_addBus N u (nI d) (nI c) = some (nI n, u') ∧ qK (n + 1) k a b (qpt ld n d) (qpt cap n 0) (qpt pr n c) rt pk mu ins S B C Lk Fl u' := by
  have x0 := hJ.1.1.1
  have y0 := hJ.2.1.1
  have hSn : ¬ S n := fun q => Nat.lt_irrefl n (hJ.Sn n q)
  have hr := q_rng (lo := 0) (hi := 9) (c := c) (by omega) c2 (by omega)
  have hO := hJ.2.2.2.2.2.2.2.2.2.2.2.1 n (Nat.le_refl n) h10
  have hL : fX5_needLoad N (nI d) = some (.inr (), sg_u0) := by
    have h := q_rng (lo := 0) (hi := 99) (c := d) (by omega) hd (by omega)
    unfold fX5_needLoad
    rw [if_neg (show ¬ nI d < 0 from h.1), if_pos (show nI d ≤ 99 from h.2)]
  have hK : qJ (n + 1) k a b (qpt ld n d) (qpt cap n 0) (qpt pr n c) rt pk mu ins S B C Lk Fl (sg_set (sg_set (sg_set (sg_set u 11 n 0) 12 n (nI d)) 13 n (nI c)) 0 0 (nI (n + 1))) (sg_set (sg_set (sg_set (sg_set v 0 0 0) 10 n (nI d)) 11 n (nI c)) 1 0 (nI (n + 1))) := by
    refine hJ.node (S' := S) (cc := 0) (ll := d) (pp := c) h10 (fun i hi => Iff.rfl) (by omega) hd c2 (fun q => absurd q hSn) (fun j j0 j2 j11 j12 j13 => ?_) ?_ ?_ (fun i hi => ⟨?_, ?_, ?_⟩) ⟨?_, ?_, ?_⟩ (fun j j0 j1 j8 j9 j10 j11 => ?_) ?_ (fun i hi => ⟨?_, ?_, ?_, ?_⟩) ⟨?_, ?_, ?_, ?_⟩
    · rw [sg_set_o j0, sg_set_o j13, sg_set_o j12, sg_set_o j11]
    · rw [sg_set_s, upd_s]
    · rw [sg_set_o (show (2 : Nat) ≠ 0 by omega), sg_set_o (show (2 : Nat) ≠ 13 by omega), sg_set_o (show (2 : Nat) ≠ 12 by omega), sg_set_o (show (2 : Nat) ≠ 11 by omega)]
      exact hJ.1.sS
    · simp (disch := omega) only [sg_set_o, sg_set_s, upd_o hi]
    · simp (disch := omega) only [sg_set_o, sg_set_s, upd_o hi]
    · simp (disch := omega) only [sg_set_o, sg_set_s, upd_o hi]
    · show _ = (0 : Int32)
      simp (disch := omega) only [sg_set_o, sg_set_s, upd_s]
    · simp (disch := omega) only [sg_set_o, sg_set_s, upd_s]
    · simp (disch := omega) only [sg_set_o, sg_set_s, upd_s]
    · rw [sg_set_o j1, sg_set_o j11, sg_set_o j10, sg_set_o j0]
    · rw [sg_set_s, upd_s]
    · simp (disch := omega) only [sg_set_o]
    · simp (disch := omega) only [sg_set_o]
    · simp (disch := omega) only [sg_set_o, sg_set_s, upd_o hi]
    · simp (disch := omega) only [sg_set_o, sg_set_s, upd_o hi]
    · rw [qt_0 hSn]
      simp (disch := omega) only [sg_set_o]
      exact hO.1
    · simp (disch := omega) only [sg_set_o]
      exact hO.2.1
    · simp (disch := omega) only [sg_set_o, sg_set_s, upd_s]
    · simp (disch := omega) only [sg_set_o, sg_set_s, upd_s]
  refine ⟨_, ?_, qK.of hK⟩
  unfold fL_addBus fX5_addBus
  rw [hL, sg_bt0_r, if_neg (show ¬ nI c < 0 from hr.1), if_pos (show nI c ≤ 9 from hr.2), qx_addN0 x0 h10, q_b2s, qx_added (by omega), sg_bt0_r]; rfl
theorem hl_addLineE (hJ : qJ n k a b ld cap pr rt pk mu ins S B C Lk Fl u v) (hx : x < n) (p q : Int32) : fL_addLine N u (nI x) (nI x) p q = some (-78, u) := by
  unfold fL_addLine fX5_addLine
  rw [qx_nNd hJ.1.1 hx, sg_bt_r, qx_nNd hJ.1.1 hx, sg_bt_r, if_pos rfl]; rfl
theorem hl_addLine (hJ : qJ n k a b ld cap pr rt pk mu ins S B C Lk Fl u v) (h12 : k < 12) (hx : x < n) (hy : y < n) (hxy : x ≠ y) (c1 : 1 ≤ c) (c2 : c ≤ 999) {q : Int32} (hq : q = 0 ∨ q = 1) : ∃ (B' : Nat → Prop) (u' : sg_St), fL_addLine N u (nI x) (nI y) (nI c) q = some (nI k, u') ∧ qK n (k + 1) (qpt a k x) (qpt b k y) ld cap pr (qpt rt k c) (qpt pk k c) (qpt mu k 1) (qpt ins k 0) S B' C Lk Fl u' := by
  have hn := hJ.n10
  have x0 := hJ.1.1.2.1
  have y0 := hJ.2.1.2.1
  have hr := q_rng (lo := 1) (hi := 999) c1 c2 (by omega)
  have hBk : ¬ B k := fun q => Nat.lt_irrefl k (hJ.Bk k q)
  unfold fL_addLine fX5_addLine
  rw [qx_nNd hJ.1.1 hx, sg_bt_r, qx_nNd hJ.1.1 hy, sg_bt_r, q_ieq0 (by omega) (by omega) (by omega), if_neg (show ¬ nI c < 1 from hr.1), if_pos (show nI c ≤ 999 from hr.2)]
  rcases hq with rfl | rfl
  · have hK : qJ n (k + 1) (qpt a k x) (qpt b k y) ld cap pr (qpt rt k c) (qpt pk k c) (qpt mu k 1) (qpt ins k 0) S B C Lk Fl (sg_set (sg_set (sg_set (sg_set (sg_set (sg_set (sg_set u 14 k (nI x)) 15 k (nI y)) 16 k (nI c)) 1 0 (nI (k + 1))) 19 k (nI c)) 20 k (nI 1)) 21 k (nI 0)) (sg_set (sg_set (sg_set (sg_set (sg_set (sg_set (sg_set (sg_set v 0 0 0) 12 k (nI x)) 13 k (nI y)) 14 k (nI c)) 18 k 0) 15 k (nI c)) 16 k (nI 1)) 2 0 (nI (k + 1))) := by
      refine hJ.line (B' := B) (cc := c) h12 (fun i hi => Iff.rfl) hx hy hxy ⟨by omega, c2⟩ (fun j j1 j3 j14 j15 j16 j19 j20 j21 => ?_) ?_ ?_ (fun i hi => ⟨?_, ?_, ?_, ?_, ?_, ?_⟩) ⟨?_, ?_, ?_, ?_, ?_, ?_⟩ (fun j j0 j2 j12 j13 j14 j15 j16 j18 => ?_) ?_ (fun i hi => ⟨?_, ?_, ?_, ?_, ?_, ?_⟩) ⟨?_, ?_, ?_, ?_, ?_, ?_⟩
      · rw [sg_set_o j21, sg_set_o j20, sg_set_o j19, sg_set_o j1, sg_set_o j16, sg_set_o j15, sg_set_o j14]
      · simp (disch := omega) only [sg_set_o, sg_set_s, upd_s]
      · simp (disch := omega) only [sg_set_o]
        exact hJ.1.sB
      all_goals first
        | (simp (disch := omega) only [sg_set_o, sg_set_s, upd_o hi]; done)
        | (simp (disch := omega) only [sg_set_o, sg_set_s, upd_s]; done)
        | (rw [sg_set_o j2, sg_set_o j16, sg_set_o j15, sg_set_o j18, sg_set_o j14, sg_set_o j13, sg_set_o j12, sg_set_o j0]; done)
        | (rw [qt_0 hBk]; simp (disch := omega) only [sg_set_o, sg_set_s, upd_s]; done)
    refine ⟨B, _, ?_, qK.of hK⟩
    rw [qx_addL0 x0 h12, q_b2s, qx_added (by omega), sg_bt0_r, show (1 : Int32) = nI 1 from rfl, show (0 : Int32) = nI 0 from rfl, qx_isL2 (by rw [sg_set_s, upd_s]) h12, q_bs]
    rfl
  · have hK : qJ n (k + 1) (qpt a k x) (qpt b k y) ld cap pr (qpt rt k c) (qpt pk k c) (qpt mu k 1) (qpt ins k 0) S (fun i => B i ∨ i = k) C Lk Fl (sg_set (sg_set (sg_set (sg_set (sg_set (sg_set (sg_set (sg_set u 14 k (nI x)) 15 k (nI y)) 16 k (nI c)) 3 0 (u 3 0 ||| qB k)) 1 0 (nI (k + 1))) 19 k (nI c)) 20 k (nI 1)) 21 k (nI 0)) (sg_set (sg_set (sg_set (sg_set (sg_set (sg_set (sg_set (sg_set v 0 0 0) 12 k (nI x)) 13 k (nI y)) 14 k (nI c)) 18 k 1) 15 k (nI c)) 16 k (nI 1)) 2 0 (nI (k + 1))) := by
      refine hJ.line (B' := fun i => B i ∨ i = k) (cc := c) h12 (fun i hi => ⟨fun z => z.elim id (fun z => absurd z hi), Or.inl⟩) hx hy hxy ⟨by omega, c2⟩ (fun j j1 j3 j14 j15 j16 j19 j20 j21 => ?_) ?_ ?_ (fun i hi => ⟨?_, ?_, ?_, ?_, ?_, ?_⟩) ⟨?_, ?_, ?_, ?_, ?_, ?_⟩ (fun j j0 j2 j12 j13 j14 j15 j16 j18 => ?_) ?_ (fun i hi => ⟨?_, ?_, ?_, ?_, ?_, ?_⟩) ⟨?_, ?_, ?_, ?_, ?_, ?_⟩
      · rw [sg_set_o j21, sg_set_o j20, sg_set_o j19, sg_set_o j1, sg_set_o j3, sg_set_o j16, sg_set_o j15, sg_set_o j14]
      · simp (disch := omega) only [sg_set_o, sg_set_s, upd_s]
      · simp (disch := omega) only [sg_set_o, sg_set_s, upd_s]
        exact hJ.1.sB.or (qS.bit (by omega))
      all_goals first
        | (simp (disch := omega) only [sg_set_o, sg_set_s, upd_o hi]; done)
        | (simp (disch := omega) only [sg_set_o, sg_set_s, upd_s]; done)
        | (rw [sg_set_o j2, sg_set_o j16, sg_set_o j15, sg_set_o j18, sg_set_o j14, sg_set_o j13, sg_set_o j12, sg_set_o j0]; done)
        | (rw [qt_1 (Or.inr rfl)]; simp (disch := omega) only [sg_set_o, sg_set_s, upd_s]; done)
    refine ⟨fun i => B i ∨ i = k, _, ?_, qK.of hK⟩
    rw [qx_addL1 x0 h12, q_b2s, qx_added (by omega), sg_bt0_r, show (1 : Int32) = nI 1 from rfl, show (0 : Int32) = nI 0 from rfl, qx_isL2 (by rw [sg_set_s, upd_s]) h12, q_bs]
    rfl
end PDA
