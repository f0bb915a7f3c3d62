/-! p49: one turn of the law's long loop -/
/-- some network like that stands -/
def qU (n k : Nat) (w u : sg_St) : Prop := ∃ (a b ld cap pr rt pk mu ins : Nat → Nat) (S B C Lk Fl : Nat → Prop), qT n k a b ld cap pr rt pk mu ins S B C Lk Fl u ∧ qrow n k a b cap rt S w
/-- a turn ends well -/
def qEnd (n k : Nat) (w : sg_St) (j i : Nat) (o : Option ((sg_St × (sg_St) × Int32 × Int32 × Int32) ⊕ (sg_St × (sg_St) × Int32))) : Prop := ∃ u', o = some (.inl (u', w, 1, nI (j + 3), nI (i + 1))) ∧ qU n k w u'
section PF
variable {N n k L : Nat} {xs : Nat → Int32} {u v u' v' w : sg_St} {a b ld cap pr rt pk mu ins lab : Nat → Nat} {S B C C' Lk Fl Lk' Fl' : Nat → Prop} {l x y m t s c d e i j : Nat} {V2 V3 v16 : Int32} {v11 : Int64}
theorem lg_cmp_self (z : Int64) : lg_cmp z z = 0 := by
  unfold lg_cmp
  rw [if_neg (fun q => by rw [gt_iff_lt, Int64.lt_iff_toInt_lt] at q; omega), if_pos rfl]
theorem t1141 (hN : 20 < N) (hT : qT n k a b ld cap pr rt pk mu ins S B C Lk Fl u) (hA : qrow n k a b cap rt S w) : qEnd n k w j i (fL_law_j1141 N L xs u w V2 V3 (nI k) (nI j + 3) (nI i) 1) := by
  obtain ⟨u', e1, f1⟩ := hl_isRight hN hT hA
  refine ⟨u', ?_, a, b, ld, cap, pr, rt, pk, mu, ins, S, B, C, Lk, Fl, hT.fr f1, hA⟩
  unfold fL_law_j1141 fL_law_j1161
  rw [e1, q_b2s, q_10, show nI j + 3 = nI (j + 3) from nI_add j 3, q_sc]
  rfl
theorem t1121 (hN : 20 < N) (hT : qT n k a b ld cap pr rt pk mu ins S B C Lk Fl u) (hA : qrow n k a b cap rt S w) (h : v16 = 0 ∨ v11 = qsumv n k ld C Lk (u 10 0)) : qEnd n k w j i (fL_law_j1121 N L xs u w V2 V3 (nI k) 1 (nI j) (nI i) v11 v16) := by
  have t := t1141 (L := L) (xs := xs) (V2 := V2) (V3 := V3) (j := j) (i := i) hN hT hA
  unfold fL_law_j1121
  by_cases q : v16 = 0
  · rw [if_pos q]
    exact t
  · obtain ⟨v, hJ⟩ := hT.1.J
    rw [if_neg q, hl_sum hJ, q_b2s, h.resolve_left q, lg_cmp_self, if_pos rfl]
    exact t
-- closing
theorem t462 (hN : 20 < N) (hT : qT n k a b ld cap pr rt pk mu ins S B C Lk Fl u) (hA : qrow n k a b cap rt S w) (hl : l ≤ k) (h11 : v11 = qsumv n k ld C Lk (u 10 0)) : qEnd n k w j i (sg_b2 (fL_canClose N u (nI l)) (fun r76 u78 => (if r76 = 110 then fL_law_j462 N L xs u78 w V2 V3 (nI k) (nI j) (nI i) v11 (nI l) r76 0 else fL_law_j462 N L xs u78 w V2 V3 (nI k) (nI j) (nI i) v11 (nI l) r76 1))) := by
  obtain ⟨v, hJ⟩ := hT.1.J
  rcases Nat.lt_or_ge l k with hlk | hlk
  · obtain ⟨u1, e1, f1⟩ := hl_canClose (N := N) hN hJ hlk
    have hJ1 := hJ.fr f1 (qFM.rf v)
    rw [e1, q_b2s]
    unfold fL_law_j462
    by_cases q : qrs n k a b ld cap rt S B Lk Fl C l = 110
    · obtain ⟨u2, e2, hK2, t2⟩ := hl_close1 (N := N) hN hJ1 hlk q
      obtain ⟨v2, hJ2⟩ := hK2.J
      obtain ⟨u3, e3, f3⟩ := hl_canClose (N := N) hN hJ2 hlk
      have hq := qrs_n q
      have hT3 : qT n k a b ld cap pr rt pk mu ins S B (qg_add C l) Lk Fl u3 := ⟨hK2.fr f3, fun m hm => hm.elim (hT.2.1 m) (fun e => by rw [e]; exact hq.2.1), qnf_close hT.2.2 q⟩
      rw [if_pos q, e2, q_b2s, if_pos q.symm, q_00, hl_isClosed hJ2 hlk, q_b2s, qt_1 (P := qg_add C l l) (Or.inr rfl), q_11, e3, q_b2s, qrs_c (C := qg_add C l) (Or.inr rfl), if_pos rfl]
      exact t1121 hN hT3 hA (Or.inl rfl)
    · obtain ⟨u2, e2, f2⟩ := hl_close0 (N := N) hN hJ1 hlk q
      rw [if_neg q, e2, q_b2s, if_pos rfl, q_10]
      refine t1121 hN ((hT.fr f1).fr f2) hA (Or.inr ?_)
      rw [h11, f2 10 (by omega) (by omega) (by omega) (by omega) (by omega), f1 10 (by omega) (by omega) (by omega) (by omega) (by omega)]
  · have e : l = k := by omega
    subst e
    rw [hl_canClosek hJ, q_b2s, if_neg (by decide)]
    unfold fL_law_j462
    rw [hl_closek hJ, q_b2s, if_pos rfl, q_10]
    exact t1121 hN hT hA (Or.inr h11)
-- opening
theorem t538 (hN : 20 < N) (hT : qT n k a b ld cap pr rt pk mu ins S B C Lk Fl u) (hA : qrow n k a b cap rt S w) (hl : l ≤ k) (h11 : v11 = qsumv n k ld C Lk (u 10 0)) : qEnd n k w j i (sg_b2 (fL_canOpen N u (nI l)) (fun r71 u73 => (if r71 = 110 then fL_law_j538 N L xs u73 w V2 V3 (nI k) (nI j) (nI i) v11 (nI l) r71 0 else fL_law_j538 N L xs u73 w V2 V3 (nI k) (nI j) (nI i) v11 (nI l) r71 1))) := by
  obtain ⟨v, hJ⟩ := hT.1.J
  rcases Nat.lt_or_ge l k with hlk | hlk
  · obtain ⟨u1, e1, f1⟩ := hl_canOpen (N := N) hN hJ hlk
    have hJ1 := hJ.fr f1 (qFM.rf v)
    rw [e1, q_b2s]
    unfold fL_law_j538
    by_cases q : qro a b ld n S B C l = 110
    · obtain ⟨u2, e2, hK2, t2⟩ := hl_open1 (N := N) hN hJ1 hlk q
      obtain ⟨v2, hJ2⟩ := hK2.J
      obtain ⟨u3, e3, f3⟩ := hl_canOpen (N := N) hN hJ2 hlk
      have hno : ¬ (C l ∧ ¬ l = l) := fun z => z.2 rfl
      have hT3 : qT n k a b ld cap pr rt pk mu ins S B (fun m => C m ∧ ¬ m = l) Lk Fl u3 := ⟨hK2.fr f3, fun m hm => hT.2.1 m hm.1, qnf_open hT.2.2 (fun m z => z.1) (fun _ z => z)⟩
      rw [if_pos q, e2, q_b2s, if_pos q.symm, q_00, hl_isClosed hJ2 hlk, q_b2s, qt_0 hno, q_00, e3, q_b2s, qro_c (C := fun m => C m ∧ ¬ m = l) hno, if_pos rfl]
      exact t1121 hN hT3 hA (Or.inl rfl)
    · obtain ⟨u2, e2, f2⟩ := hl_open0 (N := N) hN hJ1 hlk q
      rw [if_neg q, e2, q_b2s, if_pos rfl, q_10]
      refine t1121 hN ((hT.fr f1).fr f2) hA (Or.inr ?_)
      rw [h11, f2 10 (by omega) (by omega) (by omega) (by omega) (by omega), f1 10 (by omega) (by omega) (by omega) (by omega) (by omega)]
  · have e : l = k := by omega
    subst e
    rw [hl_canOpenk hJ, q_b2s, if_neg (by decide)]
    unfold fL_law_j538
    rw [hl_openk hJ, q_b2s, if_pos rfl, q_10]
    exact t1121 hN hT hA (Or.inr h11)
-- loads
theorem q_ige {z : Int32} {α : Type} {A B : α} : (if 0 ≤ z then A else B) = (if z < 0 then B else A) := by
  by_cases q : z < 0
  · rw [if_pos q, if_neg (fun h => by rw [Int32.lt_iff_toInt_lt] at q; rw [Int32.le_iff_toInt_le] at h; omega)]
  · rw [if_neg q, if_pos (by
      rw [Int32.le_iff_toInt_le]
      rw [Int32.lt_iff_toInt_lt] at q
      omega)]
theorem t638 (hN : 20 < N) (hT : qT n k a b ld cap pr rt pk mu ins S B C Lk Fl u) (hA : qrow n k a b cap rt S w) (hx : x ≤ n) (hd : d ≤ 100) (h11 : v11 = qsumv n k ld C Lk (u 10 0)) : qEnd n k w j i (sg_b2 (fL_loadOf N u (nI x)) (fun r63 u65 => sg_b2 (fL_setLoad N u65 (nI x) (nI d)) (fun r66 u68 => (if 0 ≤ r66 then fL_law_j638 N L xs u68 w V2 V3 (nI k) (nI j) (nI i) v11 (nI x) (nI d) r63 r66 0 else fL_law_j638 N L xs u68 w V2 V3 (nI k) (nI j) (nI i) v11 (nI x) (nI d) r63 r66 1)))) := by
  obtain ⟨v, hJ⟩ := hT.1.J
  rcases Nat.lt_or_ge x n with hxn | hxn
  · rw [hl_loadOf hJ hxn, q_b2s]
    obtain ⟨r, u1, e1, h1⟩ := hl_setLoad (N := N) hN hJ hxn hd
    rw [e1, q_b2s, q_ige]
    unfold fL_law_j638
    rcases h1 with ⟨h1, f1⟩ | ⟨h1, hK1, t1⟩
    · rw [if_pos h1, if_pos h1]
      refine t1121 hN (hT.fr f1) hA (Or.inr ?_)
      rw [h11, f1 10 (by omega) (by omega) (by omega) (by omega) (by omega)]
    · have hld := hJ.1.ld9 x hxn
      obtain ⟨v1, hJ1⟩ := hK1.J
      rw [h1, q_iltz (by omega), q_iltz (by omega), if_pos rfl, hl_loadOf hJ1 hxn, q_b2s, qpt_s, if_pos rfl]
      exact t1121 hN ⟨hK1, hT.2.1, hT.2.2⟩ hA (Or.inl rfl)
  · have e : x = n := by omega
    subst e
    rw [hl_loadOfk hJ, q_b2s, hl_setLoadk hJ, q_b2s, if_neg (by decide)]
    unfold fL_law_j638
    rw [if_pos (by decide)]
    exact t1121 hN hT hA (Or.inr h11)
-- relays
theorem t713 (hN : 20 < N) (hT : qT n k a b ld cap pr rt pk mu ins S B C Lk Fl u) (hA : qrow n k a b cap rt S w) (hl : l ≤ k) (hm : m < 1000) (hd : 1 ≤ d ∧ d ≤ 10) (he : e < 100000) (hq : nI m - nI m / 500 * 500 = nI (m % 500)) (h11 : v11 = qsumv n k ld C Lk (u 10 0)) : qEnd n k w j i (fL_law_j713 N L xs u w V2 V3 (nI k) (nI j) (nI i) v11 (nI l) (nI m) (nI l) (nI (m % 500)) (nI d) (nI e)) := by
  obtain ⟨v, hJ⟩ := hT.1.J
  unfold fL_law_j713
  rcases Nat.lt_or_ge l k with hlk | hlk
  · obtain ⟨r, u1, e1, h1⟩ := hl_setRelay (N := N) (c := m % 500) hJ hlk (by omega) hd he
    rw [e1, q_b2s]
    rcases h1 with ⟨h1, h2⟩ | ⟨h1, h2, h3, hK1, t1⟩
    · subst h2
      rw [if_pos h1]
      exact t1121 hN hT hA (Or.inr h11)
    · obtain ⟨v1, hJ1⟩ := hK1.J
      have hp := qti_gt (pk := qpt pk l (m % 500) l) (mu := qpt mu l d l) (ins := qpt ins l e l) (m % 500) qpt_s (by rw [qpt_s]; omega) (by rw [qpt_s]; exact hd.2)
      rw [if_neg h1, show decide (¬ (500 : Int32) = 0) = true from by decide, q_gt, hq, q_sc, hl_tripTime (c := m % 500 + 1) hJ1 hlk h2 ⟨by omega, by omega⟩, q_b2s, if_neg (fun z => by rw [Int32.lt_iff_toInt_lt] at hp; rw [Int32.le_iff_toInt_le] at z; omega)]
      refine t1121 hN ⟨hK1, hT.2.1, hT.2.2⟩ hA (Or.inr ?_)
      rw [h11, t1]
  · have e : l = k := by omega
    subst e
    rw [hl_setRelayk hJ, q_b2s, if_pos (by decide)]
    exact t1121 hN hT hA (Or.inr h11)
-- faults
theorem q_qtz {P : Prop} {α : Type} {A B : α} : (if qt P < 0 then A else B) = B := by
  by_cases q : P
  · rw [qt_1 q]; exact if_neg (by decide)
  · rw [qt_0 q]; exact if_neg (by decide)
theorem t802 (hN : 20 < N) (hT : qT n k a b ld cap pr rt pk mu ins S B C Lk Fl u) (hA : qrow n k a b cap rt S w) (hl : l ≤ k) (h11 : v11 = qsumv n k ld C Lk (u 10 0)) : qEnd n k w j i (sg_b2 (fL_wouldTrip N u (nI l)) (fun r41 u43 => sg_b2 (fL_hasFault N u43 (nI l)) (fun r44 u46 => sg_b (fX5_trips N u46) (fun r47 => sg_b2 (fL_fault N u46 (nI l)) (fun r50 u52 => (if ((-2)) ≤ r50 then fL_law_j802 N L xs u52 w V2 V3 (nI k) (nI j) (nI i) v11 (nI l) r41 r44 r47 r50 0 else fL_law_j802 N L xs u52 w V2 V3 (nI k) (nI j) (nI i) v11 (nI l) r41 r44 r47 r50 1)))))) := by
  obtain ⟨v, hJ⟩ := hT.1.J
  have hk := hJ.k12
  rcases Nat.lt_or_ge l k with hlk | hlk
  · obtain ⟨r, -, -, -, hr⟩ := cx_answer (N := N) hN hJ hlk
    obtain ⟨u1, e1, f1⟩ := hl_wouldTrip (N := N) hN hJ hlk hr
    have hJ1 := hJ.fr f1 (qFM.rf v)
    have t1 : u1 10 0 = u 10 0 := by rw [f1 10 (by omega) (by omega) (by omega) (by omega) (by omega)]
    rw [e1, q_b2s, hl_hasFault hJ1 hlk, q_b2s]
    unfold fX5_trips
    rw [q_bs]
    by_cases q : Fl l
    · rw [hl_fault0 hJ1 hlk q, q_b2s, if_neg (by decide)]
      unfold fL_law_j802
      rw [q_10, if_neg (by decide), qt_1 q, q_11]
      exact t1121 hN (hT.fr f1) hA (Or.inr (by rw [h11, t1]))
    · obtain ⟨C', Lk', u2, e2, hK2, hf⟩ := hl_fault1 (N := N) hN hJ1 hlk q hr
      obtain ⟨v2, hJ2⟩ := hK2.J
      have hFl2 : Fl l ∨ l = l := Or.inr rfl
      rw [e2, q_b2s]
      -- what holds behind it
      have hT2 : qT n k a b ld cap pr rt pk mu ins S B C' Lk' (fun m => Fl m ∨ m = l) u2 := by
        refine ⟨hK2, fun m hm => ?_, fun m hm hF => ?_⟩
        · rcases hf with ⟨-, h2, h3, -, -⟩ | ⟨-, -, h3, h4, -⟩ | ⟨m0, -, -, -, h4, h5, -, -⟩
          · rw [h3]; rw [h2] at hm; exact hT.2.1 m hm
          · exact h4 m hm (hT.2.1 m (h3 m hm))
          · rw [h4] at hm; rw [h5]; exact fun z => z.elim (hT.2.1 m hm.1) hm.2
        · have hsub : ∀ m, C' m → C m := by
            rcases hf with ⟨-, h2, -, -, -⟩ | ⟨-, -, h3, -, -⟩ | ⟨m0, -, -, -, h4, -, -, -⟩
            · rw [h2]; exact fun _ z => z
            · exact h3
            · rw [h4]; exact fun _ z => z.1
          have hdl : C' l → ¬ qg_L a b S C' (a l) := by
            rcases hf with ⟨-, h2, -, -, h5⟩ | ⟨-, -, -, -, h5⟩ | ⟨m0, -, -, -, -, -, -, h5⟩
            · rw [h2]; exact fun z1 z2 => h5 ⟨z1, z2⟩
            · exact h5
            · exact h5
          rcases hF with hF | hF
          · exact fun z => hT.2.2 m (hsub m hm) hF (qg_L_mono hsub z)
          · subst hF; exact hdl hm
      rcases hf with ⟨h1, h2, h3, h4, h5⟩ | ⟨h1, h2, h3, h4, h5⟩ | ⟨m0, h1, h2, h3, h4, h5, h6, h7⟩
      · subst h1
        rw [if_pos (by decide)]
        unfold fL_law_j802
        rw [q_00, if_pos rfl, hl_hasFault hJ2 hlk, q_b2s, qt_1 hFl2, q_11]
        unfold fX5_trips
        rw [q_bs, if_pos (by decide)]
        unfold fL_law_j863
        rw [if_pos (by rw [h4, Int32.add_zero]), if_pos (by decide)]
        exact t1121 hN hT2 hA (Or.inl rfl)
      · subst h1
        rw [if_pos (by decide)]
        unfold fL_law_j802
        rw [q_00, if_pos rfl, hl_hasFault hJ2 hlk, q_b2s, qt_1 hFl2, q_11]
        unfold fX5_trips
        rw [q_bs, if_pos (by decide)]
        unfold fL_law_j863
        rw [if_pos (by rw [h2, Int32.add_zero]), if_pos (by decide)]
        exact t1121 hN hT2 hA (Or.inl rfl)
      · subst h1
        have hm0 : m0 < k := hJ.gd.1 m0 h6
        have hge : (-2 : Int32) ≤ nI m0 := by
          rw [Int32.le_iff_toInt_le, nI_toInt (show m0 < 2 ^ 31 by omega), show (-2 : Int32).toInt = -2 from by decide]
          omega
        rw [if_pos hge]
        unfold fL_law_j802
        rw [q_00, if_pos rfl, hl_hasFault hJ2 hlk, q_b2s, qt_1 hFl2, q_11]
        unfold fX5_trips
        rw [q_bs, q_iltz (by omega)]
        unfold fL_law_j863
        rw [if_pos (by rw [h3]), q_iltz (by omega), hl_isLocked hJ2 hm0, q_b2s, qt_1 (by rw [h5]; exact Or.inr rfl), q_11, hl_isClosed hJ2 hm0, q_b2s, qt_0 (by rw [h4]; exact fun z => z.2 rfl), q_00]
        exact t1121 hN hT2 hA (Or.inl rfl)
  · have e : l = k := by omega
    subst e
    rw [hl_wouldTripk hJ, q_b2s, hl_hasFaultk hJ, q_b2s]
    unfold fX5_trips
    rw [q_bs, hl_faultk hJ, q_b2s, if_neg (by decide)]
    unfold fL_law_j802
    rw [q_10, if_pos rfl]
    exact t1121 hN hT hA (Or.inr h11)
-- repairs
theorem t952 (hN : 20 < N) (hT : qT n k a b ld cap pr rt pk mu ins S B C Lk Fl u) (hA : qrow n k a b cap rt S w) (hl : l ≤ k) (h11 : v11 = qsumv n k ld C Lk (u 10 0)) : qEnd n k w j i (sg_b2 (fL_isLocked N u (nI l)) (fun r28 u30 => sg_b2 (fL_repair N u30 (nI l)) (fun r31 u33 => (if r31 < 0 then fL_law_j1121 N L xs u33 w V2 V3 (nI k) 1 (nI j) (nI i) v11 1 else (if r31 = r28 then sg_b2 (fL_hasFault N u33 (nI l)) (fun r34 u36 => (if r34 = 0 then fL_law_j1121 N L xs u36 w V2 V3 (nI k) 1 (nI j) (nI i) v11 1 else fL_law_j952 N L xs u36 w V2 V3 (nI k) (nI j) (nI i) v11 1)) else fL_law_j952 N L xs u33 w V2 V3 (nI k) (nI j) (nI i) v11 1))))) := by
  obtain ⟨v, hJ⟩ := hT.1.J
  rcases Nat.lt_or_ge l k with hlk | hlk
  · rw [hl_isLocked hJ hlk, q_b2s]
    by_cases q : Fl l
    · obtain ⟨u1, e1, hK1, t1⟩ := hl_repair1 (N := N) hJ hlk q
      obtain ⟨v1, hJ1⟩ := hK1.J
      rw [e1, q_b2s, q_qtz, if_pos rfl, hl_hasFault hJ1 hlk, q_b2s, qt_0 (fun z => z.2 rfl), q_00]
      exact t1121 hN ⟨hK1, hT.2.1, qnf_open hT.2.2 (fun _ z => z) (fun _ z => z.1)⟩ hA (Or.inr (by rw [h11, t1]))
    · rw [hl_repair0 hJ hlk q, q_b2s, if_pos (by decide)]
      exact t1121 hN hT hA (Or.inr h11)
  · have e : l = k := by omega
    subst e
    rw [hl_isLockedk hJ, q_b2s, hl_repairk hJ, q_b2s, if_pos (by decide)]
    exact t1121 hN hT hA (Or.inr h11)
-- resets
theorem t983 (hN : 20 < N) (hT : qT n k a b ld cap pr rt pk mu ins S B C Lk Fl u) (hA : qrow n k a b cap rt S w) (hl : l ≤ k) (h11 : v11 = qsumv n k ld C Lk (u 10 0)) : qEnd n k w j i (sg_b2 (fL_reset N u (nI l)) (fun r23 u25 => (if 0 ≤ r23 then fL_law_j983 N L xs u25 w V2 V3 (nI k) (nI j) (nI i) v11 (nI l) r23 0 else fL_law_j983 N L xs u25 w V2 V3 (nI k) (nI j) (nI i) v11 (nI l) r23 1))) := by
  obtain ⟨v, hJ⟩ := hT.1.J
  rcases Nat.lt_or_ge l k with hlk | hlk
  · by_cases q : Fl l ∨ ¬ Lk l
    · obtain ⟨r, e1, h1⟩ := hl_reset0 (N := N) hJ hlk q
      rw [e1, q_b2s, q_ige, if_pos h1]
      unfold fL_law_j983
      rw [if_pos h1]
      exact t1121 hN hT hA (Or.inr h11)
    · have q1 : ¬ Fl l := fun z => q (Or.inl z)
      have q2 : Lk l := Classical.byContradiction (fun z => q (Or.inr z))
      obtain ⟨r, u1, hr, e1, hK1, t1⟩ := hl_reset1 (N := N) hJ hlk q1 q2
      obtain ⟨v1, hJ1⟩ := hK1.J
      rw [e1, q_b2s, q_ige, q_iltz (by omega)]
      unfold fL_law_j983
      rw [q_iltz (by omega), hl_isLocked hJ1 hlk, q_b2s, qt_0 (fun z => z.2 rfl), q_00]
      exact t1121 hN ⟨hK1, fun m hm z => hT.2.1 m hm z.1, hT.2.2⟩ hA (Or.inl rfl)
  · have e : l = k := by omega
    subst e
    rw [hl_resetk hJ, q_b2s, if_neg (by decide)]
    unfold fL_law_j983
    rw [if_pos (by decide)]
    exact t1121 hN hT hA (Or.inr h11)
-- restorations
theorem t1057 {g : List Nat} (hN : 5000 < N) (hT : qT n k a b ld cap pr rt pk mu ins S B C Lk Fl u) (hA : qrow n k a b cap rt S w) (hb : qbest n k a b ld cap pr rt S B Lk Fl C g) (hg : g.length ≤ 12) (h11 : v11 = qsumv n k ld C Lk (u 10 0)) {r14 : Int32} (h14 : 0 < g.length → r14 = nI (g.getD 0 0)) : qEnd n k w j i (fL_law_j1057 N L xs u w V2 V3 (nI k) (nI j) (nI i) v11 0 (nI (qworth n a b ld pr S (qcl C g))) (nI g.length) r14) := by
  obtain ⟨v, hJ⟩ := hT.1.J
  obtain ⟨u1, e1, hK1, t1⟩ := cx_restore hN hJ hb
  obtain ⟨v1, hJ1⟩ := hK1.J
  obtain ⟨g2, hb2⟩ := cx_best hN hJ1
  obtain ⟨u2, e2, f2⟩ := cx_bestValue hN hJ1 hb2
  have hJ2 := hJ1.fr f2 (qFM.rf v1)
  have hge := qval_ge g [] 0 hb.1
  have hT1 : qT n k a b ld cap pr rt pk mu ins S B (qcl C g) Lk Fl u1 := by
    refine ⟨hK1, fun m hm => hm.elim (hT.2.1 m) (fun z => (hge m z).2.2.2.1), ?_⟩
    have := qnf_plan (S := S) (B := B) (Lk := Lk) g [] 0 (by rw [qcl_nil]; exact hT.2.2) hb.1
    exact this
  have hT2 := hT1.fr f2
  have hw1 : qworth n a b ld pr S (qcl C g) ≤ 8910 := qworth_bd (fun i hi => ⟨(hJ.1.2.1 i hi).2.2.2.2.1, (hJ.1.2.1 i hi).2.2.2.2.2.1⟩) hJ.n10
  have hw2 : qworth n a b ld pr S (qcl (qcl C g) g2) ≤ 8910 := qworth_bd (fun i hi => ⟨(hJ.1.2.1 i hi).2.2.2.2.1, (hJ.1.2.1 i hi).2.2.2.2.2.1⟩) hJ.n10
  have hw : qworth n a b ld pr S (qcl C g) ≤ qworth n a b ld pr S (qcl (qcl C g) g2) := qworth_mo (fun l hl => Or.inl hl)
  -- the value, last
  have t1105 : qEnd n k w j i (fL_law_j1105 N L xs u2 w V2 V3 (nI k) (nI j) (nI i) v11 0 (nI (qworth n a b ld pr S (qcl C g)))) := by
    unfold fL_law_j1105 fL_law_j1119
    rw [hl_value (by omega) hJ2, q_b2s, if_pos rfl]
    exact t1121 (by omega) hT2 hA (Or.inl rfl)
  have t1081 : qEnd n k w j i (fL_law_j1081 N L xs u1 w V2 V3 (nI k) (nI j) (nI i) v11 0 (nI (qworth n a b ld pr S (qcl C g))) (nI g.length)) := by
    unfold fL_law_j1081
    rw [e2, q_b2s, q_ilt0 hw (by omega)]
    rcases Nat.eq_zero_or_pos g.length with q | q
    · have eg : g = [] := List.length_eq_zero_iff.mp q
      have es : qsumv n k ld (qcl C g) Lk (u2 10 0) = v11 := by
        rw [h11, eg, qcl_nil, f2 10 (by omega) (by omega) (by omega) (by omega) (by omega), t1]
      rw [q, if_neg (by decide), hl_sum hJ2, q_b2s, es, lg_cmp_self, if_pos rfl]
      exact t1105
    · rw [q_izlt q (by omega)]
      exact t1105
  unfold fL_law_j1057
  rw [e1, q_b2s, if_pos rfl]
  rcases Nat.eq_zero_or_pos g.length with q | q
  · rw [q_ieqz0 q]
    exact t1081
  · have hm := q_getD_m g 0 q
    have hk0 : g.getD 0 0 < k := hJ.Bk _ (hge _ hm).2.1
    rw [q_ieqz q (by omega), h14 q, hl_isClosed hJ1 hk0, q_b2s, qt_1 (P := qcl C g (g.getD 0 0)) (Or.inr hm), q_11]
    exact t1081
theorem t19 (hN : 5000 < N) (hT : qT n k a b ld cap pr rt pk mu ins S B C Lk Fl u) (hA : qrow n k a b cap rt S w) (h11 : v11 = qsumv n k ld C Lk (u 10 0)) : qEnd n k w j i (sg_b2 (fX5_bestValue N u) (fun r5 u7 => sg_b2 (fX5_bestSize N u7) (fun r8 u10 => sg_b2 (fL_valueByTrying N u10) (fun r11 u13 => sg_b2 (fL_bestAt N u13 0) (fun r14 u16 => (if r11 = ((-76)) then fL_law_j1057 N L xs u16 w V2 V3 (nI k) (nI j) (nI i) v11 0 r5 r8 r14 else (if r11 = r5 then sg_b2 (fL_sizeByTrying N u16) (fun r17 u19 => (if r17 = r8 then fL_law_j1057 N L xs u19 w V2 V3 (nI k) (nI j) (nI i) v11 0 r5 r8 r14 else fL_law_j1118 N L xs u19 w V2 V3 (nI k) (nI j) (nI i) v11 0)) else fL_law_j1118 N L xs u16 w V2 V3 (nI k) (nI j) (nI i) v11 0))))))) := by
  obtain ⟨v, hJ⟩ := hT.1.J
  obtain ⟨g, hb⟩ := cx_best hN hJ
  obtain ⟨ub, -, -, hbx⟩ := cx_findBest hN hJ hb
  have hg := q_len12 hbx.2.2.1 hbx.2.2.2
  obtain ⟨u1, e1, f1⟩ := cx_bestValue hN hJ hb
  have hJ1 := hJ.fr f1 (qFM.rf v)
  obtain ⟨u2, e2, f2⟩ := cx_bestSize hN hJ1 hb
  have hJ2 := hJ1.fr f2 (qFM.rf v)
  have f12 := f1.tr f2
  have hw1 : qworth n a b ld pr S (qcl C g) ≤ 8910 := qworth_bd (fun i hi => ⟨(hJ.1.2.1 i hi).2.2.2.2.1, (hJ.1.2.1 i hi).2.2.2.2.2.1⟩) hJ.n10
  rw [e1, q_b2s, e2, q_b2s]
  by_cases hq : qc (qcand B Lk Fl C) k ≤ 9
  · obtain ⟨u3, e3, f3⟩ := hl_valueBy1 hN hJ2 hb hq
    have hJ3 := hJ2.fr f3 (qFM.rf v)
    obtain ⟨r4, u4, e4, f4, h4⟩ := hl_bestAt0 hN hJ3 hb
    have hJ4 := hJ3.fr f4 (qFM.rf v)
    obtain ⟨u5, e5, f5⟩ := hl_sizeBy hN hJ4 hb (fun _ _ => trivial) hq
    have hf := f12.tr (f3.tr (f4.tr f5))
    have hne : ¬ nI (qworth n a b ld pr S (qcl C g)) = -76 := fun z => by
      have z2 : (nI (qworth n a b ld pr S (qcl C g))).toInt = (-76 : Int32).toInt := by rw [z]
      rw [nI_toInt (show qworth n a b ld pr S (qcl C g) < 2 ^ 31 by omega), show (-76 : Int32).toInt = -76 from by decide] at z2
      omega
    rw [e3, q_b2s, e4, q_b2s, if_neg hne, if_pos rfl, e5, q_b2s, if_pos rfl]
    exact t1057 hN (hT.fr hf) hA hb hg (by rw [h11, hf 10 (by omega) (by omega) (by omega) (by omega) (by omega)]) h4
  · have e3 := hl_valueBy0 hN hJ2 hq
    obtain ⟨r4, u4, e4, f4, h4⟩ := hl_bestAt0 hN hJ2 hb
    have hf := f12.tr f4
    rw [e3, q_b2s, e4, q_b2s, if_pos rfl]
    exact t1057 hN (hT.fr hf) hA hb hg (by rw [h11, hf 10 (by omega) (by omega) (by omega) (by omega) (by omega)]) h4
end PF
