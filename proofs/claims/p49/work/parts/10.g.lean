/-! p49: draws, the long loop, the building, the whole law -/
section PG
variable {N n k L : Nat} {xs : Nat → Int32} {u v u' v' w : sg_St} {a b ld cap pr rt pk mu ins lab : Nat → Nat} {S B C C' Lk Fl Lk' Fl' : Nat → Prop} {l x y m t s c d e i j n2 n3 q : Nat} {V2 V3 v16 : Int32} {v11 : Int64}
theorem q_ushr1 (r : Int32) : ∃ z, z < 2147483648 ∧ ((r).toUInt32 >>> ((1 : Int32).toUInt32 &&& Int32.toUInt32 31)).toInt32 = nI z := by
  refine ⟨((r).toUInt32 >>> ((1 : Int32).toUInt32 &&& Int32.toUInt32 31)).toNat, ?_, ?_⟩
  · rw [UInt32.toNat_shiftRight, show (((1 : Int32).toUInt32 &&& Int32.toUInt32 31)).toNat % 32 = 1 from by decide, Nat.shiftRight_eq_div_pow]
    have := UInt32.toNat_lt r.toUInt32
    omega
  · generalize ((r).toUInt32 >>> ((1 : Int32).toUInt32 &&& Int32.toUInt32 31)) = x
    refine Int32.toBitVec_inj.mp ?_
    show x.toBitVec = BitVec.ofNat 32 x.toBitVec.toNat
    rw [BitVec.ofNat_toNat, BitVec.setWidth_eq]
theorem q_rem (hx : x < 2147483648) (hy : y < 2147483648) : nI x - nI x / nI y * nI y = nI (x % y) := by
  have h1 : x / y * y ≤ x := Nat.div_mul_le_self x y
  rw [q_div hx hy, q_mul, q_sub h1]
  have h2 := Nat.div_add_mod x y
  have h3 : x / y * y = y * (x / y) := Nat.mul_comm _ _
  rw [show x - x / y * y = x % y by omega]
theorem pick_ok (hL : L ≤ 260) (hj : j < 100000) (h0 : 0 < q) (hq : q < 2147483648) : ∃ m, m < q ∧ fL_pick L xs (nI j) (nI q) = some (nI m) := by
  have hcell : ∃ r, fL_cell L xs (nI j) = some r := by
    unfold fL_cell
    by_cases h : Int32.ofNat L ≤ nI j
    · rw [if_pos h]
      exact ⟨_, rfl⟩
    · rw [if_neg h]
      have hjl : j < L := Nat.lt_of_not_le (fun z => h ((q_le (by omega) (by omega)).mpr z))
      rw [show (decide (¬ nI j < 0) && decide ((nI j).toNatClampNeg < L)) = true from by
        rw [Bool.and_eq_true]
        exact ⟨decide_eq_true (nI_pos (by omega)), decide_eq_true (by rw [q_cl (by omega)]; exact hjl)⟩]
      exact ⟨_, rfl⟩
  obtain ⟨r, hr⟩ := hcell
  obtain ⟨z, hz, ez⟩ := q_ushr1 r
  refine ⟨z % q, Nat.mod_lt z h0, ?_⟩
  unfold fL_pick
  rw [hr, q_bs, ez, q_dn0 h0 hq, q_gt, q_rem hz hq]
theorem q_llt {z m : Nat} {A B : Type} {α : Type} {p r : α} (hz : z < 2147483648) (hm : m < 2147483648) : (if nI z ≤ nI m then p else r) = if z ≤ m then p else r := by
  by_cases h : z ≤ m
  · rw [if_pos h, q_ile1 h hm]
  · rw [if_neg h, q_ile0 (by omega) hz]
theorem t407 (hN : 5000 < N) (hL : L ≤ 260) (hj : j < 90000) (hn : n2 + n3 = n) (hT : qT n k a b ld cap pr rt pk mu ins S B C Lk Fl u) (hA : qrow n k a b cap rt S w) (hl : l ≤ k) (h11 : v11 = qsumv n k ld C Lk (u 10 0)) : qEnd n k w j i (fL_law_j407 N L xs u w (nI n2) (nI n3) (nI k) (nI j) (nI i) v11 (nI l)) := by
  have hN2 : 20 < N := by omega
  obtain ⟨v, hJ⟩ := hT.1.J
  have hn10 := hJ.n10
  obtain ⟨m, hm, em⟩ := pick_ok (L := L) (xs := xs) (j := j + 2) (q := 1000) hL (by omega) (by omega) (by omega)
  obtain ⟨m3, hm3, em3⟩ := pick_ok (L := L) (xs := xs) (j := j) (q := 20) hL (by omega) (by omega) (by omega)
  replace em : fL_pick L xs (nI j + 2) 1000 = some (nI m) := by rw [q_p2]; exact em
  replace em3 : fL_pick L xs (nI j) 20 = some (nI m3) := em3
  unfold fL_law_j407
  rw [em, q_bs, em3, q_bs]
  by_cases h8 : 8 ≤ m3
  rotate_left
  · rw [show (8 : Int32) = nI 8 from rfl, q_ile0 (show m3 < 8 by omega) (by omega)]
    exact t462 hN2 hT hA hl h11
  rw [show (8 : Int32) = nI 8 from rfl, q_ile1 h8 (by omega)]
  by_cases h10 : 10 ≤ m3
  rotate_left
  · rw [q_l10, q_ile0 (show m3 < 10 by omega) (by omega)]
    exact t538 hN2 hT hA hl h11
  rw [show (if (10 : Int32) ≤ nI m3 then _ else _) = _ from if_pos ((q_le (a := 10) (by omega) (by omega)).mpr h10)]
  by_cases h13 : 13 ≤ m3
  rotate_left
  · have e1 : nI n2 + nI n3 + 1 = nI (n + 1) := by rw [nI_add, q_sc, hn]
    have e2 : nI m - nI m / nI (n + 1) * nI (n + 1) = nI (m % (n + 1)) := q_rem (by omega) (by omega)
    have e3 : nI m - nI m / 101 * 101 = nI (m % 101) := q_rem (y := 101) (by omega) (by omega)
    have hx : m % (n + 1) < n + 1 := Nat.mod_lt m (by omega)
    have hd : m % 101 < 101 := Nat.mod_lt m (by omega)
    rw [if_neg (show ¬ (13 : Int32) ≤ nI m3 from fun z => h13 ((q_le (a := 13) (by omega) (by omega)).mp z)), e1, q_dn0 (show 0 < n + 1 by omega) (by omega), q_gt, show decide (¬ (101 : Int32) = 0) = true from by decide, q_gt, e2, e3]
    exact t638 hN2 hT hA (by omega) (by omega) h11
  rw [if_pos (show (13 : Int32) ≤ nI m3 from (q_le (a := 13) (by omega) (by omega)).mpr h13)]
  by_cases e13 : m3 = 13
  · have e500 : nI m - nI m / 500 * 500 = nI (m % 500) := q_rem (y := 500) (by omega) (by omega)
    have e10 : nI m - nI m / 10 * 10 = nI (m % 10) := q_rem (y := 10) (by omega) (by omega)
    have e3 : nI m - nI m / 3 * 3 = nI (m % 3) := q_rem (y := 3) (by omega) (by omega)
    have e700 : nI m - nI m / 700 * 700 = nI (m % 700) := q_rem (y := 700) (by omega) (by omega)
    have h1 : m % 10 < 10 := Nat.mod_lt m (by omega)
    have h7 : m % 700 < 700 := Nat.mod_lt m (by omega)
    rw [if_pos (show nI m3 = 13 from by rw [e13]; rfl), show decide (¬ (500 : Int32) = 0) = true from by decide, q_gt, show decide (¬ (10 : Int32) = 0) = true from by decide, q_gt, show decide (¬ (3 : Int32) = 0) = true from by decide, q_gt, e3, e500, e10, e700, show (1 : Int32) + nI (m % 10) = nI (1 + m % 10) from nI_add 1 _]
    by_cases z : m % 3 = 0
    · rw [q_ieqz0 z]
      exact t713 (e := 0) hN2 hT hA hl hm ⟨by omega, by omega⟩ (by omega) e500 h11
    · rw [q_ieqz (show 0 < m % 3 by omega) (by omega), show decide (¬ (700 : Int32) = 0) = true from by decide, q_gt]
      exact t713 hN2 hT hA hl hm ⟨by omega, by omega⟩ (by omega) e500 h11
  rw [if_neg (show ¬ nI m3 = 13 from fun z => e13 ((q_eq (b := 13) (by omega) (by omega)).mp z))]
  by_cases h16 : 16 ≤ m3
  rotate_left
  · rw [if_neg (show ¬ (16 : Int32) ≤ nI m3 from fun z => h16 ((q_le (a := 16) (by omega) (by omega)).mp z))]
    exact t802 hN2 hT hA hl h11
  rw [if_pos (show (16 : Int32) ≤ nI m3 from (q_le (a := 16) (by omega) (by omega)).mpr h16)]
  by_cases e16 : m3 = 16
  · rw [if_pos (show nI m3 = 16 from by rw [e16]; rfl)]
    exact t952 hN2 hT hA hl h11
  rw [if_neg (show ¬ nI m3 = 16 from fun z => e16 ((q_eq (b := 16) (by omega) (by omega)).mp z))]
  by_cases h19 : 19 ≤ m3
  · rw [if_pos (show (19 : Int32) ≤ nI m3 from (q_le (a := 19) (by omega) (by omega)).mpr h19)]
    exact t19 hN hT hA h11
  · rw [if_neg (show ¬ (19 : Int32) ≤ nI m3 from fun z => h19 ((q_le (a := 19) (by omega) (by omega)).mp z))]
    exact t983 hN2 hT hA hl h11
theorem t356 (hN : 5000 < N) (hL : L ≤ 260) (hj : j < 80000) (hi : i < 80) (hn : n2 + n3 = n) (hU : qU n k w u) : qEnd n k w j i (fL_law_L356 N L xs u w (nI n2) (nI n3) (nI k) 1 (nI j) (nI i)) := by
  obtain ⟨a, b, ld, cap, pr, rt, pk, mu, ins, S, B, C, Lk, Fl, hT, hA⟩ := hU
  obtain ⟨v, hJ⟩ := hT.1.J
  have hk := hJ.k12
  have t := fun l hl => t407 (N := N) (L := L) (xs := xs) (i := i) (j := j) (l := l) hN hL (by omega) hn hT hA hl rfl
  unfold fL_law_L356
  rw [if_neg (show ¬ (80 : Int32) ≤ nI i from fun z => by have := (q_le (a := 80) (by omega) (by omega)).mp z; omega), q_10, hl_sum hJ, q_b2s]
  by_cases z : k = 0
  · rw [q_ieqz0 z]
    exact t k (Nat.le_refl k)
  · obtain ⟨m4, hm4, em4⟩ := pick_ok (L := L) (xs := xs) (j := j + 1) (q := 40) hL (by omega) (by omega) (by omega)
    obtain ⟨m5, hm5, em5⟩ := pick_ok (L := L) (xs := xs) (j := j + 1) (q := k) hL (by omega) (by omega) (by omega)
    rw [q_ieqz (show 0 < k by omega) (by omega), q_sc, show fL_pick L xs (nI (j + 1)) 40 = some (nI m4) from em4, q_bs]
    by_cases z4 : m4 = 0
    · rw [q_ieqz0 z4]
      exact t k (Nat.le_refl k)
    · rw [q_ieqz (show 0 < m4 by omega) (by omega), em5, q_bs]
      exact t m5 (by omega)
theorem loop356 (hN : 5000 < N) (hL : L ≤ 260) (hj : j < 1000) (hn : n2 + n3 = n) (hU : qU n k w u) : ∃ r : sg_St × sg_St × Int32, sg_it (fun x : sg_St × sg_St × Int32 × Int32 × Int32 => fL_law_L356 N L xs x.1 x.2.1 (nI n2) (nI n3) (nI k) x.2.2.1 x.2.2.2.1 x.2.2.2.2) 81 (u, w, 1, nI j, 0) = some r ∧ r.2.2 = 1 := by
  refine q_loop (f := fun x : sg_St × sg_St × Int32 × Int32 × Int32 => fL_law_L356 N L xs x.1 x.2.1 (nI n2) (nI n3) (nI k) x.2.2.1 x.2.2.2.1 x.2.2.2.2) (m := 80) (fun i x => qU n k w x.1 ∧ x.2.1 = w ∧ x.2.2.1 = 1 ∧ x.2.2.2.1 = nI (j + 3 * i) ∧ x.2.2.2.2 = nI i) (fun r => r.2.2 = 1) (by omega) ⟨hU, rfl, rfl, rfl, rfl⟩ ?_ ?_
  · rintro i ⟨y, w', c, z, o⟩ hi ⟨h1, h2, h3, h4, h5⟩
    dsimp only at h1 h2 h3 h4 h5
    subst h2; subst h3; subst h4; subst h5
    obtain ⟨u', e1, h6⟩ := t356 (N := N) (L := L) (xs := xs) (i := i) (j := j + 3 * i) hN hL (by omega) hi hn h1
    exact Or.inl ⟨_, e1, h6, rfl, rfl, by rw [show j + 3 * (i + 1) = j + 3 * i + 3 by omega], rfl⟩
  · rintro ⟨y, w', c, z, o⟩ ⟨h1, h2, h3, h4, h5⟩
    dsimp only at h1 h2 h3 h4 h5
    subst h2; subst h3; subst h4; subst h5
    refine ⟨(y, w', 1), ?_, rfl⟩
    show fL_law_L356 N L xs y w' _ _ _ 1 _ (nI 80) = _
    unfold fL_law_L356
    rw [if_pos (show (80 : Int32) ≤ nI 80 by decide)]
-- the building
/-- a network with no line closed yet -/
def qNet (n k : Nat) (w u : sg_St) : Prop := ∃ (a b ld cap pr rt pk mu ins : Nat → Nat) (S B C Lk Fl : Nat → Prop), qK n k a b ld cap pr rt pk mu ins S B C Lk Fl u ∧ qrow n k a b cap rt S w ∧ ∀ l, ¬ C l
theorem qNet.U (h : qNet n k w u) : qU n k w u := by
  obtain ⟨a, b, ld, cap, pr, rt, pk, mu, ins, S, B, C, Lk, Fl, h1, h2, h3⟩ := h
  exact ⟨a, b, ld, cap, pr, rt, pk, mu, ins, S, B, C, Lk, Fl, ⟨h1, fun l hl => absurd hl (h3 l), fun l hl => absurd hl (h3 l)⟩, h2⟩
theorem qNet0 (w : sg_St) : qNet 0 0 w sg_u0 := by
  obtain ⟨n, k, a, b, ld, cap, pr, rt, pk, mu, ins, S, B, C, Lk, Fl, hJ⟩ := qI0
  have hn := hJ.n10
  have hk := hJ.k12
  have e1 : n = 0 := by
    have h := hJ.1.1.1
    replace h : nI 0 = nI n := h
    exact ((q_eq (by omega) (by omega)).mp h).symm
  have e2 : k = 0 := by
    have h := hJ.1.1.2.1
    replace h : nI 0 = nI k := h
    exact ((q_eq (by omega) (by omega)).mp h).symm
  subst e1; subst e2
  exact ⟨a, b, ld, cap, pr, rt, pk, mu, ins, S, B, C, Lk, Fl, qK.of hJ, ⟨fun i hi => absurd hi (Nat.not_lt_zero i), fun l hl => absurd hl (Nat.not_lt_zero l)⟩, fun l hl => absurd (hJ.gd.1 l hl) (Nat.not_lt_zero l)⟩
theorem t57 (hL : L ≤ 260) (hi : i < n2) (h2 : n2 ≤ 2) (hV : qNet i 0 w u) : ∃ u' w', fL_law_L57 N L xs u w (nI n2) V3 0 1 (nI (2 + i)) (nI i) = some (.inl (u', w', 1, nI (2 + (i + 1)), nI (i + 1))) ∧ qNet (i + 1) 0 w' u' := by
  obtain ⟨a, b, ld, cap, pr, rt, pk, mu, ins, S, B, C, Lk, Fl, hK, hA, hC⟩ := hV
  obtain ⟨v, hJ⟩ := hK.J
  obtain ⟨m, hm, em⟩ := pick_ok (L := L) (xs := xs) (j := 2 + i) (q := 200) hL (by omega) (by omega) (by omega)
  obtain ⟨u', e1, hK'⟩ := hl_addSource (N := N) (c := 40 + m) hJ (by omega) (by omega) (by omega)
  refine ⟨u', sg_set w 0 i (nI (40 + m)), ?_, a, b, qpt ld i 0, qpt cap i (40 + m), qpt pr i 0, rt, pk, mu, ins, fun x => S x ∨ x = i, B, C, Lk, Fl, hK', ⟨fun x hx hS => ?_, fun l hl => absurd hl (Nat.not_lt_zero l)⟩, hC⟩
  · unfold fL_law_L57 fL_law_j101
    rw [q_ile0 hi (by omega), show fL_pick L xs (nI (2 + i)) 200 = some (nI m) from em, q_bs, q_ck (show i < 10 by omega) (by omega), q_gt, q_gt, q_cl (show i < 2147483648 by omega), show (40 : Int32) + nI m = nI (40 + m) from nI_add 40 m, sg_set_s, upd_s, e1, q_b2s, if_pos rfl, q_sc, q_sc]
    rfl
  · rw [sg_set_s]
    by_cases e : x = i
    · rw [e, upd_s, qpt_s]
    · rw [upd_o e, qpt_o e]
      exact hA.1 x (by omega) (hS.resolve_right e)
theorem loop57 (hL : L ≤ 260) (h2 : n2 ≤ 2) (w : sg_St) : ∃ r : sg_St × sg_St × Int32 × Int32, sg_it (fun x : sg_St × sg_St × Int32 × Int32 × Int32 => fL_law_L57 N L xs x.1 x.2.1 (nI n2) V3 0 x.2.2.1 x.2.2.2.1 x.2.2.2.2) 3 (sg_u0, w, 1, 2, 0) = some r ∧ r.2.2.1 = 1 ∧ r.2.2.2 = nI (2 + n2) ∧ qNet n2 0 r.2.1 r.1 := by
  refine q_loop (f := fun x : sg_St × sg_St × Int32 × Int32 × Int32 => fL_law_L57 N L xs x.1 x.2.1 (nI n2) V3 0 x.2.2.1 x.2.2.2.1 x.2.2.2.2) (m := n2) (fun i x => qNet i 0 x.2.1 x.1 ∧ x.2.2.1 = 1 ∧ x.2.2.2.1 = nI (2 + i) ∧ x.2.2.2.2 = nI i) (fun r => r.2.2.1 = 1 ∧ r.2.2.2 = nI (2 + n2) ∧ qNet n2 0 r.2.1 r.1) (by omega) ⟨qNet0 w, rfl, rfl, rfl⟩ ?_ ?_
  · rintro i ⟨y, w', c, z, o⟩ hi ⟨h1, h3, h4, h5⟩
    dsimp only at h1 h3 h4 h5
    subst h3; subst h4; subst h5
    obtain ⟨u', w2, e1, h6⟩ := t57 (N := N) (L := L) (xs := xs) (V3 := V3) hL hi h2 h1
    exact Or.inl ⟨_, e1, h6, rfl, rfl, rfl⟩
  · rintro ⟨y, w', c, z, o⟩ ⟨h1, h3, h4, h5⟩
    dsimp only at h1 h3 h4 h5
    subst h3; subst h4; subst h5
    refine ⟨(y, w', 1, nI (2 + n2)), ?_, rfl, rfl, h1⟩
    show fL_law_L57 N L xs y w' (nI n2) _ _ 1 _ (nI n2) = _
    unfold fL_law_L57
    rw [q_ile1 (Nat.le_refl n2) (by omega)]
theorem t116 (hL : L ≤ 260) (hi : i < n3) (h2 : n2 ≤ 2) (h3 : n3 ≤ 7) (hV : qNet (n2 + i) 0 w u) : ∃ u', fL_law_L116 N L xs u w (nI n2) (nI n3) 0 1 (nI (2 + n2 + 2 * i)) (nI i) = some (.inl (u', w, 1, nI (2 + n2 + 2 * (i + 1)), nI (i + 1))) ∧ qNet (n2 + (i + 1)) 0 w u' := by
  obtain ⟨a, b, ld, cap, pr, rt, pk, mu, ins, S, B, C, Lk, Fl, hK, hA, hC⟩ := hV
  obtain ⟨v, hJ⟩ := hK.J
  obtain ⟨d, hd, ed⟩ := pick_ok (L := L) (xs := xs) (j := 2 + n2 + 2 * i) (q := 30) hL (by omega) (by omega) (by omega)
  obtain ⟨c, hc, ec⟩ := pick_ok (L := L) (xs := xs) (j := 2 + n2 + 2 * i + 1) (q := 10) hL (by omega) (by omega) (by omega)
  obtain ⟨u', e1, hK'⟩ := hl_addBus (N := N) (d := d) (c := c) hJ (by omega) (by omega) (by omega)
  refine ⟨u', ?_, a, b, qpt ld (n2 + i) d, qpt cap (n2 + i) 0, qpt pr (n2 + i) c, rt, pk, mu, ins, S, B, C, Lk, Fl, hK', ⟨fun x hx hS => ?_, fun l hl => absurd hl (Nat.not_lt_zero l)⟩, hC⟩
  · unfold fL_law_L116 fL_law_j158
    rw [q_ile0 hi (by omega), show fL_pick L xs (nI (2 + n2 + 2 * i)) 30 = some (nI d) from ed, q_bs, q_sc, show fL_pick L xs (nI (2 + n2 + 2 * i + 1)) 10 = some (nI c) from ec, q_bs, e1, q_b2s, nI_add, if_pos rfl, q_p2, q_sc, show 2 + n2 + 2 * i + 2 = 2 + n2 + 2 * (i + 1) by omega]
    rfl
  · have := hJ.Sn x hS
    rw [qpt_o (by omega)]
    exact hA.1 x this hS
theorem loop116 (hL : L ≤ 260) (h2 : n2 ≤ 2) (h3 : n3 ≤ 7) (hV : qNet n2 0 w u) : ∃ r : sg_St × sg_St × Int32 × Int32, sg_it (fun x : sg_St × sg_St × Int32 × Int32 × Int32 => fL_law_L116 N L xs x.1 x.2.1 (nI n2) (nI n3) 0 x.2.2.1 x.2.2.2.1 x.2.2.2.2) 8 (u, w, 1, nI (2 + n2), 0) = some r ∧ r.2.2.1 = 1 ∧ r.2.2.2 = nI (2 + n2 + 2 * n3) ∧ qNet (n2 + n3) 0 r.2.1 r.1 := by
  refine q_loop (f := fun x : sg_St × sg_St × Int32 × Int32 × Int32 => fL_law_L116 N L xs x.1 x.2.1 (nI n2) (nI n3) 0 x.2.2.1 x.2.2.2.1 x.2.2.2.2) (m := n3) (fun i x => qNet (n2 + i) 0 x.2.1 x.1 ∧ x.2.2.1 = 1 ∧ x.2.2.2.1 = nI (2 + n2 + 2 * i) ∧ x.2.2.2.2 = nI i) (fun r => r.2.2.1 = 1 ∧ r.2.2.2 = nI (2 + n2 + 2 * n3) ∧ qNet (n2 + n3) 0 r.2.1 r.1) (by omega) ⟨hV, rfl, rfl, rfl⟩ ?_ ?_
  · rintro i ⟨y, w', c, z, o⟩ hi ⟨h1, h4, h5, h6⟩
    dsimp only at h1 h4 h5 h6
    subst h4; subst h5; subst h6
    obtain ⟨u', e1, h7⟩ := t116 (N := N) (L := L) (xs := xs) hL hi h2 h3 h1
    exact Or.inl ⟨_, e1, h7, rfl, rfl, rfl⟩
  · rintro ⟨y, w', c, z, o⟩ ⟨h1, h4, h5, h6⟩
    dsimp only at h1 h4 h5 h6
    subst h4; subst h5; subst h6
    refine ⟨(y, w', 1, nI (2 + n2 + 2 * n3)), ?_, rfl, rfl, h1⟩
    show fL_law_L116 N L xs y w' (nI n2) (nI n3) _ 1 _ (nI n3) = _
    unfold fL_law_L116
    rw [q_ile1 (Nat.le_refl n3) (by omega)]
/-- a line is added, or both its ends are one node -/
theorem t265 (hn : n ≤ 9) (hk : k ≤ 9) (hx : x < n) (hy : y < n) (hc : c < 150) (hV : qNet n k w u) {q3 : Int32} (hq : q3 = 0 ∨ q3 = 1) : ∃ k' u' w', k ≤ k' ∧ k' ≤ k + 1 ∧ fL_law_j265 N L xs u w V2 V3 (nI k) 1 (nI j) (nI i) (nI x) (nI y) (nI (20 + c)) (nI x) (nI y) (nI (20 + c)) q3 = some (.inl (u', w', nI k', 1, nI (j + 4), nI (i + 1))) ∧ qNet n k' w' u' := by
  obtain ⟨a, b, ld, cap, pr, rt, pk, mu, ins, S, B, C, Lk, Fl, hK, hA, hC⟩ := hV
  obtain ⟨v, hJ⟩ := hK.J
  have e4 : nI j + 4 = nI (j + 4) := nI_add j 4
  unfold fL_law_j265
  by_cases e : x = y
  · refine ⟨k, u, w, Nat.le_refl k, by omega, ?_, a, b, ld, cap, pr, rt, pk, mu, ins, S, B, C, Lk, Fl, hK, hA, hC⟩
    subst e
    rw [hl_addLineE hJ hx, q_b2s, if_pos rfl, if_pos rfl]
    unfold fL_law_j306 fL_law_j344
    rw [if_pos (show (-78 : Int32) < 0 by decide), e4, q_sc]
    rfl
  · obtain ⟨B', u', e1, hK'⟩ := hl_addLine (N := N) (c := 20 + c) hJ (by omega) hx hy e (by omega) (by omega) hq
    refine ⟨k + 1, u', sg_set (sg_set (sg_set w 1 (2 * k) (nI x)) 1 (2 * k + 1) (nI y)) 2 k (nI (20 + c)), by omega, by omega, ?_, qpt a k x, qpt b k y, ld, cap, pr, qpt rt k (20 + c), qpt pk k (20 + c), qpt mu k 1, qpt ins k 0, S, B', C, Lk, Fl, hK', ⟨fun i hi hS => ?_, fun l hl => ?_⟩, hC⟩
    · rw [e1, q_b2s, if_neg (fun z => e ((q_eq (by omega) (by omega)).mp z)), if_pos rfl]
      unfold fL_law_j306 fL_law_j344
      rw [q_iltz (by omega), q_2l, q_ck (show 2 * k < 24 by omega) (by omega), q_gt, q_sc, q_ck (show 2 * k + 1 < 24 by omega) (by omega), q_gt, q_ck (show k < 12 by omega) (by omega), q_gt, q_cl (show 2 * k < 2147483648 by omega), q_cl (show 2 * k + 1 < 2147483648 by omega), q_cl (show k < 2147483648 by omega), e4, q_sc, q_sc]
      rfl
    · rw [sg_set_o (show (0 : Nat) ≠ 2 by omega), sg_set_o (show (0 : Nat) ≠ 1 by omega), sg_set_o (show (0 : Nat) ≠ 1 by omega)]
      exact hA.1 i hi hS
    · rw [sg_set_o (show (1 : Nat) ≠ 2 by omega), sg_set_s, sg_set_s, sg_set_s, sg_set_o (show (2 : Nat) ≠ 1 by omega), sg_set_o (show (2 : Nat) ≠ 1 by omega)]
      by_cases el : l = k
      · rw [el, qpt_s, qpt_s, qpt_s, upd_o (show 2 * k ≠ 2 * k + 1 by omega), upd_s, upd_s, upd_s]
        exact ⟨rfl, rfl, rfl⟩
      · rw [qpt_o el, qpt_o el, qpt_o el, upd_o (show 2 * l ≠ 2 * k + 1 by omega), upd_o (show 2 * l ≠ 2 * k by omega), upd_o (show 2 * l + 1 ≠ 2 * k + 1 by omega), upd_o (show 2 * l + 1 ≠ 2 * k by omega), upd_o el]
        exact hA.2 l (by omega)
theorem t223 (hL : L ≤ 260) (hj : j < 1000) (hn : n ≤ 9) (hk : k ≤ 9) (hx : x < n) (hy : y < n) (hV : qNet n k w u) : ∃ k' u' w', k ≤ k' ∧ k' ≤ k + 1 ∧ fL_law_j223 N L xs u w V2 V3 (nI k) 1 (nI j) (nI i) (nI x) (nI y) = some (.inl (u', w', nI k', 1, nI (j + 4), nI (i + 1))) ∧ qNet n k' w' u' := by
  obtain ⟨c, hc, ec⟩ := pick_ok (L := L) (xs := xs) (j := j + 2) (q := 150) hL (by omega) (by omega) (by omega)
  obtain ⟨m, hm, em⟩ := pick_ok (L := L) (xs := xs) (j := j + 3) (q := 5) hL (by omega) (by omega) (by omega)
  unfold fL_law_j223
  rw [q_p2, show fL_pick L xs (nI (j + 2)) 150 = some (nI c) from ec, q_bs, show nI j + 3 = nI (j + 3) from nI_add j 3, show fL_pick L xs (nI (j + 3)) 5 = some (nI m) from em, q_bs, show (20 : Int32) + nI c = nI (20 + c) from nI_add 20 c]
  by_cases z : m = 0
  · rw [q_ilez0 z]
    exact t265 hn hk hx hy hc hV (Or.inl rfl)
  · rw [q_ilez (show 0 < m by omega) (by omega)]
    exact t265 hn hk hx hy hc hV (Or.inr rfl)
theorem t173 (hL : L ≤ 260) (hj : j < 1000) (hi : i < 10) (hn : n2 + n3 = n) (h0 : 0 < n) (hn9 : n ≤ 9) (hk : k ≤ 9) (hV : qNet n k w u) : ∃ k' u' w', k ≤ k' ∧ k' ≤ k + 1 ∧ fL_law_L173 N L xs u w (nI n2) (nI n3) (nI k) 1 (nI j) (nI i) = some (.inl (u', w', nI k', 1, nI (j + 4), nI (i + 1))) ∧ qNet n k' w' u' := by
  obtain ⟨x, hx, ex⟩ := pick_ok (L := L) (xs := xs) (j := j) (q := n) hL (by omega) h0 (by omega)
  obtain ⟨m, hm, em⟩ := pick_ok (L := L) (xs := xs) (j := j) (q := 2) hL (by omega) (by omega) (by omega)
  obtain ⟨y, hy, ey⟩ := pick_ok (L := L) (xs := xs) (j := j + 1) (q := n) hL (by omega) h0 (by omega)
  have e0 : nI n2 + nI n3 = nI n := by rw [nI_add, hn]
  unfold fL_law_L173
  rw [if_neg (show ¬ (10 : Int32) ≤ nI i from fun z => by have := (q_le (a := 10) (by omega) (by omega)).mp z; omega), e0, ex, q_bs, show fL_pick L xs (nI j) 2 = some (nI m) from em, q_bs]
  by_cases z : m = 0
  · have e3 : nI (x + 1) - nI (x + 1) / nI n * nI n = nI ((x + 1) % n) := q_rem (by omega) (by omega)
    rw [q_ieqz0 z, q_dn0 h0 (by omega), q_gt, q_sc, e3]
    exact t223 hL hj hn9 hk hx (Nat.mod_lt _ h0) hV
  · rw [q_ieqz (show 0 < m by omega) (by omega), q_sc, ey, q_bs]
    exact t223 hL hj hn9 hk hx hy hV
theorem loop173 (hL : L ≤ 260) (hj : j < 100) (hn : n2 + n3 = n) (h0 : 0 < n) (hn9 : n ≤ 9) (hV : qNet n 0 w u) : ∃ r : sg_St × sg_St × Int32 × Int32 × Int32, sg_it (fun x : sg_St × sg_St × Int32 × Int32 × Int32 × Int32 => fL_law_L173 N L xs x.1 x.2.1 (nI n2) (nI n3) x.2.2.1 x.2.2.2.1 x.2.2.2.2.1 x.2.2.2.2.2) 11 (u, w, 0, 1, nI j, 0) = some r ∧ r.2.2.2.1 = 1 ∧ r.2.2.2.2 = nI (j + 40) ∧ ∃ k, r.2.2.1 = nI k ∧ qNet n k r.2.1 r.1 := by
  refine q_loop (f := fun x : sg_St × sg_St × Int32 × Int32 × Int32 × Int32 => fL_law_L173 N L xs x.1 x.2.1 (nI n2) (nI n3) x.2.2.1 x.2.2.2.1 x.2.2.2.2.1 x.2.2.2.2.2) (m := 10) (fun i x => (∃ k, k ≤ i ∧ x.2.2.1 = nI k ∧ qNet n k x.2.1 x.1) ∧ x.2.2.2.1 = 1 ∧ x.2.2.2.2.1 = nI (j + 4 * i) ∧ x.2.2.2.2.2 = nI i) (fun r => r.2.2.2.1 = 1 ∧ r.2.2.2.2 = nI (j + 40) ∧ ∃ k, r.2.2.1 = nI k ∧ qNet n k r.2.1 r.1) (by omega) ⟨⟨0, Nat.le_refl 0, rfl, hV⟩, rfl, rfl, rfl⟩ ?_ ?_
  · rintro i ⟨y, w', k1, c, z, o⟩ hi ⟨⟨k, hk, h1, h2⟩, h4, h5, h6⟩
    dsimp only at h1 h2 h4 h5 h6
    subst h1; subst h4; subst h5; subst h6
    obtain ⟨k', u', w2, g1, g2, e1, h7⟩ := t173 (N := N) (L := L) (xs := xs) (i := i) (j := j + 4 * i) hL (by omega) hi hn h0 hn9 (by omega) h2
    exact Or.inl ⟨_, e1, ⟨k', by omega, rfl, h7⟩, rfl, by rw [show j + 4 * (i + 1) = j + 4 * i + 4 by omega], rfl⟩
  · rintro ⟨y, w', k1, c, z, o⟩ ⟨⟨k, hk, h1, h2⟩, h4, h5, h6⟩
    dsimp only at h1 h2 h4 h5 h6
    subst h1; subst h4; subst h5; subst h6
    refine ⟨(y, w', nI k, 1, nI (j + 4 * 10)), ?_, rfl, rfl, k, rfl, h2⟩
    show fL_law_L173 N L xs y w' _ _ (nI k) 1 _ (nI 10) = _
    unfold fL_law_L173
    rw [if_pos (show (10 : Int32) ≤ nI 10 by decide)]
theorem law_ok (hN : 5000 < N) (hL : L ≤ 260) (h1 : 1 ≤ n2) (h2 : n2 ≤ 2) (h3 : n3 ≤ 7) (w : sg_St) : ∃ u', fL_law N L xs sg_u0 w (nI n2) (nI n3) = some (1, u') := by
  obtain ⟨⟨u1, w1, c1, j1⟩, e1, g1, g2, hV1⟩ := loop57 (N := N) (L := L) (xs := xs) (V3 := nI n3) hL h2 w
  dsimp only at g1 g2 hV1
  subst g1; subst g2
  obtain ⟨⟨u2, w2, c2, j2⟩, e2, g1, g2, hV2⟩ := loop116 (N := N) (L := L) (xs := xs) hL h2 h3 hV1
  dsimp only at g1 g2 hV2
  subst g1; subst g2
  obtain ⟨⟨u3, w3, k3, c3, j3⟩, e3, g1, g2, k, g3, hV3⟩ := loop173 (N := N) (L := L) (xs := xs) (j := 2 + n2 + 2 * n3) hL (by omega) rfl (by omega) (by omega) hV2
  dsimp only at g1 g2 g3 hV3
  subst g1; subst g2; subst g3
  obtain ⟨⟨u4, w4, c4⟩, e4, g1⟩ := loop356 (N := N) (L := L) (xs := xs) (j := 2 + n2 + 2 * n3 + 40) hN hL (by omega) rfl hV3.U
  dsimp only at g1
  subst g1
  refine ⟨u4, ?_⟩
  unfold fL_law
  rw [e1, q_bs]
  dsimp only
  rw [e2, q_bs]
  dsimp only
  rw [e3, q_bs]
  dsimp only
  rw [e4, q_bs]
end PG
