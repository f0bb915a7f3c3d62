/-! p49: the class alone, and what its calls answer -/
def qK (n k : Nat) (a b ld cap pr rt pk mu ins : Nat → Nat) (S B C Lk Fl : Nat → Prop) (u : sg_St) : Prop := qW u n k a b ld cap pr rt S B ∧ (qS (u 4 0) C ∧ qS (u 5 0) Lk ∧ qS (u 6 0) Fl) ∧ qPX u k pk mu ins ∧ qPb k pk mu ins ∧ qgood n k a b ld cap rt S C ∧ (∀ l, Lk l → l < k) ∧ (∀ l, Fl l → l < k)
noncomputable def qv0 (n k : Nat) (a b ld cap pr rt pk mu ins : Nat → Nat) (S B C Lk Fl : Nat → Prop) (t : Int32) : sg_St := fun j i => match j with
  | 1 => nI n
  | 2 => nI k
  | 3 => t
  | 8 => if i < n then qt (S i) else 0
  | 9 => if i < n then nI (cap i) else 0
  | 10 => if i < n then nI (ld i) else 0
  | 11 => if i < n then nI (pr i) else 0
  | 12 => nI (a i)
  | 13 => nI (b i)
  | 14 => nI (rt i)
  | 15 => nI (pk i)
  | 16 => nI (mu i)
  | 17 => if i < k then nI (ins i) else 0
  | 18 => qt (B i)
  | 19 => qt (C i)
  | 20 => qt (Lk i)
  | 21 => qt (Fl i)
  | _ => 0
section PA
variable {N n k : Nat} {u v u' v' w : sg_St} {a b ld cap pr rt pk mu ins lab : Nat → Nat} {S B C C' Lk Fl Lk' Fl' : Nat → Prop} {l x : Nat}
theorem qK.J (h : qK n k a b ld cap pr rt pk mu ins S B C Lk Fl u) : ∃ v, qJ n k a b ld cap pr rt pk mu ins S B C Lk Fl u v := by
  obtain ⟨h1, h2, h3, h4, h5, h6, h7⟩ := h
  have hW := h1
  obtain ⟨⟨_, _, hn, hk, he⟩, hi, hl, _, _, _, _⟩ := h1
  refine ⟨qv0 n k a b ld cap pr rt pk mu ins S B C Lk Fl (u 10 0), hW, ⟨rfl, rfl, hn, hk, fun l hl => ⟨rfl, rfl, (he l hl).2.2.1, (he l hl).2.2.2.1, (he l hl).2.2.2.2⟩, fun i hi9 => ⟨if_pos hi9, if_pos hi9, if_pos hi9, if_pos hi9, (hi i hi9).2.2.2.1, (hi i hi9).2.2.2.2.1, (hi i hi9).2.2.2.2.2.1⟩, fun l hl9 => ⟨rfl, (hl l hl9).2.1, (hl l hl9).2.2, rfl⟩⟩, h2, fun l hl => ⟨rfl, rfl, rfl⟩, h3, fun l hl => ⟨rfl, rfl, if_pos hl⟩, h4, h5, h6, h7, rfl, fun i h8 h9 => ⟨if_neg (by omega), if_neg (by omega), if_neg (by omega), if_neg (by omega)⟩, fun l h8 h9 => ⟨if_neg (by omega), qt_0 (fun z => by have := h5.1 l z; omega), qt_0 (fun z => by have := h6 l z; omega), qt_0 (fun z => by have := h7 l z; omega)⟩⟩
theorem qK.of (h : qJ n k a b ld cap pr rt pk mu ins S B C Lk Fl u v) : qK n k a b ld cap pr rt pk mu ins S B C Lk Fl u := ⟨h.1, h.2.2.1, h.2.2.2.2.1, h.2.2.2.2.2.2.1, h.gd, h.2.2.2.2.2.2.2.2.1, h.2.2.2.2.2.2.2.2.2.1⟩
theorem qK.fr (h : qK n k a b ld cap pr rt pk mu ins S B C Lk Fl u) (f : qFX u u') : qK n k a b ld cap pr rt pk mu ins S B C Lk Fl u' := by
  obtain ⟨v, hJ⟩ := h.J
  exact qK.of (hJ.fr f (qFM.rf v))
theorem qFX.tr (h : qFX u v) (h2 : qFX v w) : qFX u w := fun j a1 a2 a3 a4 a5 => (h2 j a1 a2 a3 a4 a5).trans (h j a1 a2 a3 a4 a5)
theorem sg_hc_r {α β : Type} (z : α) (t : sg_St) (h : Nat → Option β) (f : α → Option β) : sg_hc (some ((.inr z : Nat ⊕ α), t)) h f = (f z).map (fun c => (c, t)) := rfl
theorem sg_hc_l {α β : Type} (e : Nat) (t : sg_St) (h : Nat → Option β) (f : α → Option β) : sg_hc (some ((.inl e : Nat ⊕ α), t)) h f = (h e).map (fun c => (c, t)) := rfl
theorem q_qb {P : Prop} : (if qt P = 0 then (0 : Int32) else 1) = qt P := by
  by_cases q : P
  · rw [qt_1 q]; rfl
  · rw [qt_0 q]; rfl
theorem qx_nL (hg : qX u n k a b) (hl : l < k) : fX5_needLine N u (nI l) = some (.inr (), u) := by
  rcases qx_needLine (N := N) hg (nI l) with ⟨l', h1, h2, h3⟩ | ⟨h1, h3⟩
  · exact h3
  · exact absurd rfl (h1 l hl)
theorem qx_nLk (hg : qX u n k a b) : fX5_needLine N u (nI k) = some (.inl 5, u) := by
  have hk := hg.2.2.2.1
  rcases qx_needLine (N := N) hg (nI k) with ⟨l', h1, h2, h3⟩ | ⟨h1, h3⟩
  · exact absurd ((q_eq (by omega) (by omega)).mp h2) (by omega)
  · exact h3
theorem qx_nNd (hg : qX u n k a b) (hx : x < n) : fX5_needNode N u (nI x) = some (.inr (), u) := by
  rcases qx_needNode (N := N) hg (nI x) with ⟨l', h1, h2, h3⟩ | ⟨h1, h3⟩
  · exact h3
  · exact absurd rfl (h1 x hx)
theorem qx_nNdk (hg : qX u n k a b) : fX5_needNode N u (nI n) = some (.inl 5, u) := by
  have hn := hg.2.2.1
  rcases qx_needNode (N := N) hg (nI n) with ⟨l', h1, h2, h3⟩ | ⟨h1, h3⟩
  · exact absurd ((q_eq (by omega) (by omega)).mp h2) (by omega)
  · exact h3
-- questions about a node
theorem hl_isSource (hJ : qJ n k a b ld cap pr rt pk mu ins S B C Lk Fl u v) (hx : x < n) : fL_isSource N u (nI x) = some (qt (S x), u) := by
  have hn := hJ.n10
  unfold fL_isSource fX5_isSource
  rw [qx_nNd hJ.1.1 hx, sg_bt_r, q_flag hJ.1.sS (by omega) Iff.rfl, sg_hc_r, q_qb]; rfl
theorem hl_loadOf (hJ : qJ n k a b ld cap pr rt pk mu ins S B C Lk Fl u v) (hx : x < n) : fL_loadOf N u (nI x) = some (nI (ld x), u) := by
  unfold fL_loadOf fX5_loadOf
  rw [qx_nNd hJ.1.1 hx, sg_bt_r, qx_load hJ.1.1 hx, hJ.1.ldv x hx]; rfl
theorem hl_loadOfk (hJ : qJ n k a b ld cap pr rt pk mu ins S B C Lk Fl u v) : fL_loadOf N u (nI n) = some (-75, u) := by
  unfold fL_loadOf fX5_loadOf
  rw [qx_nNdk hJ.1.1]; rfl
theorem hl_weight (hN : 20 < N) (hJ : qJ n k a b ld cap pr rt pk mu ins S B C Lk Fl u v) (hx : x < n) (hS : ¬ S x) : fL_weight N u (nI x) = some (nI (ld x * pr x), u) := by
  have hn := hJ.n10
  unfold fL_weight fX5_weight fX5_needBus
  rw [qx_nNd hJ.1.1 hx, sg_bt_r, hJ.1.sS.has0 (by omega) hS, q_bs, q_00, sg_bt_r, qx_bit, q_bs, qx_wi (pr := pr) hJ.1.1 hN hJ.1.ldv (fun i hi => (hJ.1.2.1 i hi).2.2.1) (qS.bit (show x < 32 by omega)), q_bs, qs_one hx]; rfl
theorem hl_isClosed (hJ : qJ n k a b ld cap pr rt pk mu ins S B C Lk Fl u v) (hl : l < k) : fL_isClosed N u (nI l) = some (qt (C l), u) := by
  have hk := hJ.k12
  unfold fL_isClosed fX5_isClosed
  rw [qx_nL hJ.1.1 hl, sg_bt_r, q_flag hJ.Cs (by omega) Iff.rfl, sg_hc_r, q_qb]; rfl
theorem hl_isLocked (hJ : qJ n k a b ld cap pr rt pk mu ins S B C Lk Fl u v) (hl : l < k) : fL_isLocked N u (nI l) = some (qt (Lk l), u) := by
  have hk := hJ.k12
  unfold fL_isLocked fX5_isLocked
  rw [qx_nL hJ.1.1 hl, sg_bt_r, q_flag hJ.Ls (by omega) Iff.rfl, sg_hc_r, q_qb]; rfl
theorem hl_hasFault (hJ : qJ n k a b ld cap pr rt pk mu ins S B C Lk Fl u v) (hl : l < k) : fL_hasFault N u (nI l) = some (qt (Fl l), u) := by
  have hk := hJ.k12
  unfold fL_hasFault fX5_hasFault
  rw [qx_nL hJ.1.1 hl, sg_bt_r, q_flag hJ.Fs (by omega) Iff.rfl, sg_hc_r, q_qb]; rfl
theorem hl_isLockedk (hJ : qJ n k a b ld cap pr rt pk mu ins S B C Lk Fl u v) : fL_isLocked N u (nI k) = some (-75, u) := by
  unfold fL_isLocked fX5_isLocked
  rw [qx_nLk hJ.1.1]; rfl
theorem hl_hasFaultk (hJ : qJ n k a b ld cap pr rt pk mu ins S B C Lk Fl u v) : fL_hasFault N u (nI k) = some (-75, u) := by
  unfold fL_hasFault fX5_hasFault
  rw [qx_nLk hJ.1.1]; rfl
theorem qJ.bdx (hJ : qJ n k a b ld cap pr rt pk mu ins S B C Lk Fl u v) (hx : x < n) : ∀ y, qg_R a b C x y → y < n := fun y hR => qg_bd (hJ.1.1.bd hJ.gd.1) hx hR
theorem qJ.hasLab (hJ : qJ n k a b ld cap pr rt pk mu ins S B C Lk Fl u v) : ∃ lab, qlab n a b C lab := by
  obtain ⟨w, w1, w2, lab, w3, w4⟩ := hJ.paint (N := 300) (by omega)
  exact ⟨lab, w4⟩
theorem hl_islandOf (hN : 20 < N) (hJ : qJ n k a b ld cap pr rt pk mu ins S B C Lk Fl u v) (hlab : qlab n a b C lab) (hx : x < n) : fL_islandOf N u (nI x) = some (nI (lab x), u) := by
  have hn := hJ.n10
  obtain ⟨r, r1, r2⟩ := qx_island (N := N) hJ.1.1 hN hx hJ.Cs hJ.gd.1
  unfold fL_islandOf fX5_islandOf fX5_islandAt
  rw [qx_nNd hJ.1.1 hx, sg_bt_r, r1, q_bs, q_bs, qx_low r2 hN (fun i hi => by have := hJ.bdx hx i hi; omega), hlab.low hn hx (hJ.bdx hx)]; rfl
theorem hl_islandBy (hN : 20 < N) (hJ : qJ n k a b ld cap pr rt pk mu ins S B C Lk Fl u v) (hlab : qlab n a b C lab) (hx : x < n) : fL_islandByRounds N u (nI x) = some (nI (lab x), u) := by
  have hn := hJ.n10
  obtain ⟨r, r1, r2⟩ := qx_grown (N := N) hJ.1.1 hN hx hJ.Cs hJ.gd.1
  unfold fL_islandByRounds fX5_islandByRounds
  rw [qx_nNd hJ.1.1 hx, sg_bt_r, r1, q_bs, qx_low r2 hN (fun i hi => by have := hJ.bdx hx i hi; omega), hlab.low hn hx (hJ.bdx hx)]; rfl
theorem hl_isLive (hN : 20 < N) (hJ : qJ n k a b ld cap pr rt pk mu ins S B C Lk Fl u v) (hx : x < n) : fL_isLive N u (nI x) = some (qt (qg_L a b S C x), u) := by
  have hn := hJ.n10
  obtain ⟨r, r1, r2⟩ := qx_island (N := N) hJ.1.1 hN hx hJ.Cs hJ.gd.1
  unfold fL_isLive fX5_isLive fX5_islandAt
  rw [qx_nNd hJ.1.1 hx, sg_bt_r, r1, q_bs, q_bs, qx_src hN hn r2 hJ.1.sS hJ.Sn]
  rcases q_srcL (a := a) (b := b) (E := C) hJ.Sn x with ⟨s, g1, g2, g3, g4, g5⟩ | ⟨g1, g5⟩
  · rw [g5, q_bs, q_im1 (by omega), qt_1 g1]; rfl
  · rw [g5, q_bs, q_im1a, qt_0 g1]; rfl
theorem hl_sourceOf1 (hN : 20 < N) (hJ : qJ n k a b ld cap pr rt pk mu ins S B C Lk Fl u v) (hx : x < n) {s : Nat} (hs : S s) (hR : qg_R a b C x s) : fL_sourceOf N u (nI x) = some (nI s, u) := by
  have hn := hJ.n10
  have hsn := hJ.Sn s hs
  obtain ⟨r, r1, r2⟩ := qx_island (N := N) hJ.1.1 hN hx hJ.Cs hJ.gd.1
  unfold fL_sourceOf fX5_sourceOf fX5_islandAt
  rw [qx_nNd hJ.1.1 hx, sg_bt_r, r1, q_bs, q_bs, qx_src hN hn r2 hJ.1.sS hJ.Sn, qf_src hJ.gd.2.2.1 hJ.Sn hs hR, q_bs, q_im1 (by omega)]; rfl
theorem hl_sourceOf0 (hN : 20 < N) (hJ : qJ n k a b ld cap pr rt pk mu ins S B C Lk Fl u v) (hx : x < n) (hd : ¬ qg_L a b S C x) : fL_sourceOf N u (nI x) = some (-79, u) := by
  have hn := hJ.n10
  obtain ⟨r, r1, r2⟩ := qx_island (N := N) hJ.1.1 hN hx hJ.Cs hJ.gd.1
  unfold fL_sourceOf fX5_sourceOf fX5_islandAt
  rw [qx_nNd hJ.1.1 hx, sg_bt_r, r1, q_bs, q_bs, qx_src hN hn r2 hJ.1.sS hJ.Sn]
  rcases q_srcL (a := a) (b := b) (E := C) hJ.Sn x with ⟨s, g1, g2, g3, g4, g5⟩ | ⟨g1, g5⟩
  · exact absurd g1 hd
  · rw [g5, q_bs, q_im1a]; rfl
theorem hl_islandLoad (hN : 20 < N) (hJ : qJ n k a b ld cap pr rt pk mu ins S B C Lk Fl u v) (hx : x < n) : fL_islandLoad N u (nI x) = some (nI (qs ld (qg_R a b C x) n), u) := by
  obtain ⟨r, r1, r2⟩ := qx_island (N := N) hJ.1.1 hN hx hJ.Cs hJ.gd.1
  unfold fL_islandLoad fX5_islandLoad fX5_islandAt
  rw [qx_nNd hJ.1.1 hx, sg_bt_r, r1, q_bs, q_bs, qx_li hJ.1.1 hN hJ.1.ldv r2]; rfl
theorem cx_islands (hN : 20 < N) (hJ : qJ n k a b ld cap pr rt pk mu ins S B C Lk Fl u v) (hlab : qlab n a b C lab) : fX5_islands N u = some (nI (qc (fun i => lab i = i) n)) := by
  have hn := hJ.n10
  have lb : ∀ i, i < n → lab i < 2147483648 := fun i hi => by have := (hlab.1 i hi).2; omega
  unfold fX5_islands
  have ev : ∀ i x, i < n → fX5_islands_L4 N u x (nI i) = (if lab i = i then some (.inl (x + nI 1, nI (i + 1))) else some (.inl (x, nI (i + 1)))) := fun i x hi => by
    have hbd := hJ.bdx hi
    obtain ⟨r, r1, r2⟩ := qx_island (N := N) hJ.1.1 (by omega) hi hJ.Cs hJ.gd.1
    have := lb i hi
    unfold fX5_islands_L4 fX5_islandAt
    rw [hJ.1.1.1, q_ile0 hi (by omega), r1, q_bs, q_bs, qx_low r2 (by omega) (fun i hi => by have := hbd i hi; omega), hlab.low hn hi hbd, q_bs, q_sc]
    by_cases q : lab i = i
    · rw [q_ieq1 q, if_pos q]; rfl
    · rw [q_ieq0 (by omega) (by omega) (by omega), if_neg q]
  rw [q_sum (g := fun _ => 1) (P := fun i => lab i = i) (n := n) (by omega) (fun i x hi hp => by
    show fX5_islands_L4 N u x (nI i) = _
    rw [ev i x hi, if_neg hp]) (fun i x hi hp => by
    show fX5_islands_L4 N u x (nI i) = _
    rw [ev i x hi, if_pos hp]) (fun x => by
    show fX5_islands_L4 N u x (nI n) = _
    unfold fX5_islands_L4
    rw [hJ.1.1.1, q_ile1 (Nat.le_refl n) (by omega)])]
  rfl
-- questions about a line
theorem hl_current (hN : 20 < N) (hJ : qJ n k a b ld cap pr rt pk mu ins S B C Lk Fl u v) (hl : l < k) : ∃ u', fL_current N u (nI l) = some (nI (qcu a b ld n S C l), u') ∧ qFX u u' := by
  obtain ⟨u', e1, e2⟩ := qx_curIn (N := N) hN hJ.1 hJ.Cs hJ.gd.1 hJ.gd.2.1 hJ.gd.2.2.1 hl
  refine ⟨u', ?_, qFX.of e2⟩
  unfold fL_current fX5_current
  rw [qx_nL hJ.1.1 hl, sg_bt_r, e1]; rfl
theorem hl_cutting (hN : 20 < N) (hJ : qJ n k a b ld cap pr rt pk mu ins S B C Lk Fl u v) (hl : l < k) : fL_currentByCutting N u (nI l) = some (nI (qcu a b ld n S C l), u) := by
  unfold fL_currentByCutting fX5_currentByCutting
  rw [qx_nL hJ.1.1 hl, sg_bt_r, qx_cut hN hJ hl]; rfl
/-- the way to a closed line of a live island -/
theorem hl_way (hN : 20 < N) (hJ : qJ n k a b ld cap pr rt pk mu ins S B C Lk Fl u v) (hl : l < k) : ∃ (r : Int32) (u' : sg_St), fX0_layPath N u (nI l) (u 4 0) = some (r, u') ∧ qFX u u' ∧ ((r = 0 ∧ ¬ (C l ∧ qg_L a b S C (a l))) ∨ ∃ s p, qway a b S C l s p ∧ 0 < p.length ∧ p.length ≤ 9 ∧ C l ∧ qg_R a b C (a l) s ∧ r = nI p.length ∧ ∀ i, i < p.length → u' 18 i = nI (p.getD i 0)) := by
  obtain ⟨r, u', x1, x2, x3⟩ := qx_way (N := N) hN hJ.1 hJ.Cs hJ.gd.1 hJ.gd.2.1 hl
  refine ⟨r, u', x1, qFX.of x2, ?_⟩
  rcases x3 with x3 | ⟨s, p, x3, x4, x5⟩
  · exact Or.inl x3
  · obtain ⟨t1, t2⟩ := x3.len hJ.gd.2.1 hJ.C12 (hJ.1.1.bd hJ.gd.1) hJ.Sn hJ.n10
    exact Or.inr ⟨s, p, x3, t1, t2, (x3.R hJ.C12 hJ.gd.2.1).1, (x3.R hJ.C12 hJ.gd.2.1).2, x4, x5⟩
theorem hl_dist0 (hN : 20 < N) (hJ : qJ n k a b ld cap pr rt pk mu ins S B C Lk Fl u v) (hl : l < k) (hd : ¬ (C l ∧ qg_L a b S C (a l))) : ∃ u', fL_distance N u (nI l) = some (-79, u') ∧ qFX u u' := by
  obtain ⟨r, u', x1, x2, x3⟩ := hl_way (N := N) hN hJ hl
  refine ⟨u', ?_, x2⟩
  unfold fL_distance fX5_distance fX5_lengthOfPathTo
  rw [qx_nL hJ.1.1 hl, sg_bt_r, x1, q_b2s]
  rcases x3 with ⟨x3, x4⟩ | ⟨s, p, x3, t1, t2, t3, t4, x4, x5⟩
  · rw [x3, q_00]; rfl
  · exact absurd ⟨t3, s, x3.1, t4⟩ hd
theorem hl_dist1 (hN : 20 < N) (hJ : qJ n k a b ld cap pr rt pk mu ins S B C Lk Fl u v) (hl : l < k) {s : Nat} {p : List Nat} (hw : qway a b S C l s p) : ∃ u', fL_distance N u (nI l) = some (nI p.length, u') ∧ qFX u u' := by
  obtain ⟨r, u', x1, x2, x3⟩ := hl_way (N := N) hN hJ hl
  refine ⟨u', ?_, x2⟩
  unfold fL_distance fX5_distance fX5_lengthOfPathTo
  rw [qx_nL hJ.1.1 hl, sg_bt_r, x1, q_b2s]
  rcases x3 with ⟨x3, x4⟩ | ⟨s', p', x3, t1, t2, t3, t4, x4, x5⟩
  · exact absurd ⟨(hw.R hJ.C12 hJ.gd.2.1).1, s, hw.1, (hw.R hJ.C12 hJ.gd.2.1).2⟩ x4
  · obtain ⟨z1, z2⟩ := x3.un hJ.C12 hJ.gd.2.1 hJ.gd.2.2.1 hJ.ne hw
    subst z1; subst z2
    rw [x4, q_ieqz t1 (by omega), sg_bt_r]; rfl
theorem hl_pathAt (hN : 20 < N) (hJ : qJ n k a b ld cap pr rt pk mu ins S B C Lk Fl u v) (hl : l < k) {s : Nat} {p : List Nat} (hw : qway a b S C l s p) {j : Nat} (hj : j < p.length) : ∃ u', fL_pathAt N u (nI l) (nI j) = some (nI (p.getD j 0), u') ∧ qFX u u' := by
  obtain ⟨r, u', x1, x2, x3⟩ := hl_way (N := N) hN hJ hl
  refine ⟨u', ?_, x2⟩
  unfold fL_pathAt fX5_pathAt fX5_lengthOfPathTo
  rw [qx_nL hJ.1.1 hl, sg_bt_r, x1, q_b2s]
  rcases x3 with ⟨x3, x4⟩ | ⟨s', p', x3, t1, t2, t3, t4, x4, x5⟩
  · exact absurd ⟨(hw.R hJ.C12 hJ.gd.2.1).1, s, hw.1, (hw.R hJ.C12 hJ.gd.2.1).2⟩ x4
  · obtain ⟨z1, z2⟩ := x3.un hJ.C12 hJ.gd.2.1 hJ.gd.2.2.1 hJ.ne hw
    subst z1; subst z2
    rw [x4, q_ieqz t1 (by omega), sg_bt_r, q_iltz (by omega), q_ilt1 hj (by omega)]
    unfold fX0_lineOnPath
    simp (disch := omega) only [q_ile0, q_ile1, q_ilt0, q_ilt1, q_ieq0, q_ieq1, q_iltz, q_ilez, q_ilez0, q_izlt, q_im1, q_im1a, q_ieqz, q_ieqz0, q_l10, q_l12, q_ck, q_cl, q_gt, q_bs, q_b2s, q_ls, q_sc, nI_add, if_true, if_false, ite_true, ite_false, reduceIte, q_10, q_01, q_11, q_00, x5 j hj]
    rfl
theorem hl_faultCurrent (hN : 20 < N) (hJ : qJ n k a b ld cap pr rt pk mu ins S B C Lk Fl u v) (hl : l < k) {s : Nat} {p : List Nat} (hw : qway a b S C l s p) : ∃ u', fL_faultCurrent N u (nI l) = some (nI (qcur cap s p), u') ∧ qFX u u' := by
  obtain ⟨r, u', x1, x2, x3⟩ := hl_way (N := N) hN hJ hl
  refine ⟨u', ?_, x2⟩
  have hJ' := hJ.fr x2 (qFM.rf v)
  unfold fL_faultCurrent fX5_faultCurrent fX5_lengthOfPathTo
  rw [qx_nL hJ.1.1 hl, sg_bt_r, x1, q_b2s]
  rcases x3 with ⟨x3, x4⟩ | ⟨s', p', x3, t1, t2, t3, t4, x4, x5⟩
  · exact absurd ⟨(hw.R hJ.C12 hJ.gd.2.1).1, s, hw.1, (hw.R hJ.C12 hJ.gd.2.1).2⟩ x4
  · obtain ⟨z1, z2⟩ := x3.un hJ.C12 hJ.gd.2.1 hJ.gd.2.2.1 hJ.ne hw
    subst z1; subst z2
    rw [x4, q_ieqz t1 (by omega), sg_bt_r, qx_cof hN hJ'.1 hJ'.Cs hJ'.gd.1 hJ'.gd.2.1 hJ'.gd.2.2.1 hl hw]; rfl
theorem cx_answer (hN : 20 < N) (hJ : qJ n k a b ld cap pr rt pk mu ins S B C Lk Fl u v) (hl : l < k) : ∃ (r : Int32) (u' : sg_St), fX3_answerTo N u (nI l) (u 4 0) = some (r, u') ∧ qFX u u' ∧ qans a b S C B cap pk mu ins l r := by
  obtain ⟨r, u', e1, e2, e3⟩ := qx_answer (N := N) hN hJ.1 hJ.2.2.2.2.1 hJ.2.2.2.2.2.2.1 hJ.Cs hJ.gd.1 hJ.gd.2.1 hJ.gd.2.2.1 hl
  exact ⟨r, u', e1, qFX.of e2, e3⟩
theorem hl_wouldTrip (hN : 20 < N) (hJ : qJ n k a b ld cap pr rt pk mu ins S B C Lk Fl u v) (hl : l < k) {r : Int32} (hr : qans a b S C B cap pk mu ins l r) : ∃ u', fL_wouldTrip N u (nI l) = some (r, u') ∧ qFX u u' := by
  obtain ⟨r', u', e1, e2, e3⟩ := cx_answer (N := N) hN hJ hl
  have := hr.un hJ.C12 hJ.gd.2.1 hJ.gd.2.2.1 hJ.ne e3
  subst this
  refine ⟨u', ?_, e2⟩
  unfold fL_wouldTrip fX5_wouldTrip
  rw [qx_nL hJ.1.1 hl, sg_bt_r, e1]; rfl
theorem hl_wouldTripk (hJ : qJ n k a b ld cap pr rt pk mu ins S B C Lk Fl u v) : fL_wouldTrip N u (nI k) = some (-75, u) := by
  unfold fL_wouldTrip fX5_wouldTrip
  rw [qx_nLk hJ.1.1]; rfl
theorem hl_isSelective (hN : 20 < N) (hJ : qJ n k a b ld cap pr rt pk mu ins S B C Lk Fl u v) (hl : l < k) {r : Int32} (hr : qans a b S C B cap pk mu ins l r) : ∃ u', fL_isSelective N u (nI l) = some (qt (r = nI l), u') ∧ qFX u u' := by
  obtain ⟨r', u', e1, e2, e3⟩ := cx_answer (N := N) hN hJ hl
  have := hr.un hJ.C12 hJ.gd.2.1 hJ.gd.2.2.1 hJ.ne e3
  subst this
  refine ⟨u', ?_, e2⟩
  unfold fL_isSelective fX5_isSelective
  rw [qx_nL hJ.1.1 hl, sg_bt_r, e1, q_b2s]
  by_cases q : r = nI l
  · rw [if_pos q, qt_1 q]; rfl
  · rw [if_neg q, qt_0 q]; rfl
theorem hl_margin0 (hN : 20 < N) (hJ : qJ n k a b ld cap pr rt pk mu ins S B C Lk Fl u v) (hl : l < k) {r : Int32} (hr : qans a b S C B cap pk mu ins l r) (hne : ¬ r = nI l) : ∃ u', fL_margin N u (nI l) = some (-79, u') ∧ qFX u u' := by
  obtain ⟨r', u', e1, e2, e3⟩ := cx_answer (N := N) hN hJ hl
  have := hr.un hJ.C12 hJ.gd.2.1 hJ.gd.2.2.1 hJ.ne e3
  subst this
  refine ⟨u', ?_, e2⟩
  unfold fL_margin fX5_margin
  rw [qx_nL hJ.1.1 hl, sg_bt_r, e1, q_b2s, if_neg hne]; rfl
end PA
