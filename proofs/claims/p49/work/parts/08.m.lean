/-! relays -/
theorem q_bmod {x : Int} (h1 : -2147483648 ≤ x) (h2 : x < 2147483648) : x.bmod (2 ^ 32) = x := by
  dsimp only [Int.bmod]
  split <;> omega
theorem q_div {x y : Nat} (hx : x < 2147483648) (hy : y < 2147483648) : nI x / nI y = nI (x / y) := by
  have hd : x / y ≤ x := Nat.div_le_self x y
  have hd2 : x / y < 2 ^ 31 := by generalize x / y = d at hd; omega
  refine Int32.toInt_inj.mp ?_
  rw [Int32.toInt_div, nI_toInt (show x < 2 ^ 31 by omega), nI_toInt (show y < 2 ^ 31 by omega), nI_toInt hd2, ← Int.ofNat_tdiv]
  generalize x / y = d at hd hd2 ⊢
  exact q_bmod (by omega) (by omega)
theorem q_nsub {x y : Nat} (h : x ≤ y) (hy : y < 1073741824) : ¬ 0 < nI x - nI y := by
  rw [Int32.lt_iff_toInt_lt, Int32.toInt_sub, nI_toInt (show x < 2 ^ 31 by omega), nI_toInt (show y < 2 ^ 31 by omega), q_bmod (by omega) (by omega), show (0 : Int32).toInt = 0 from by decide]
  omega
theorem q_dn0 {d : Nat} (h : 0 < d) (hd : d < 2147483648) : decide (¬ nI d = 0) = true := decide_eq_true (fun q => by rw [show (0 : Int32) = nI 0 from rfl, q_eq hd (by omega)] at q; omega)
theorem q_l10m (x : Nat) : nI x * 10 = nI (x * 10) := q_mul x 10
theorem q_p2 (x : Nat) : nI x + 2 = nI (x + 2) := nI_add x 2
/-- the trip time, 0 for none -/
def qtm (pk mu ins cur : Nat) : Nat := if cur ≤ pk then 0 else if 0 < ins ∧ ins ≤ cur then 1 else mu * pk * 10 / (cur - pk) + 2
def qti (t : Nat) : Int32 := if t = 0 then -1 else nI t
theorem qti_0 : qti 0 = -1 := rfl
theorem qti_1 {t : Nat} (h : 0 < t) : qti t = nI t := if_neg (by omega)
theorem qtm_bd {pk mu ins cur : Nat} (h1 : pk ≤ 999) (h2 : mu ≤ 10) : qtm pk mu ins cur ≤ 99902 := by
  unfold qtm
  split
  · omega
  · split
    · omega
    · have h3 : mu * pk ≤ 10 * 999 := Nat.mul_le_mul h2 h1
      have h4 : mu * pk * 10 / (cur - pk) ≤ mu * pk * 10 := Nat.div_le_self _ _
      omega
noncomputable def qta (B : Nat → Prop) (pk mu ins : Nat → Nat) (cur l : Nat) : Nat := @ite _ (B l) (Classical.propDecidable _) (qtm (pk l) (mu l) (ins l) cur) 0
def qPb (k : Nat) (pk mu ins : Nat → Nat) : Prop := ∀ l, l < k → 0 < pk l ∧ pk l ≤ 999 ∧ 0 < mu l ∧ mu l ≤ 10 ∧ ins l < 2147483648
def qPX (u : sg_St) (k : Nat) (pk mu ins : Nat → Nat) : Prop := ∀ l, l < k → u 19 l = nI (pk l) ∧ u 20 l = nI (mu l) ∧ u 21 l = nI (ins l)
def qPM (v : sg_St) (k : Nat) (pk mu ins : Nat → Nat) : Prop := ∀ l, l < k → v 15 l = nI (pk l) ∧ v 16 l = nI (mu l) ∧ v 17 l = nI (ins l)
section PR
variable {N n k : Nat} {u v w : sg_St} {a b ld cap pr rt lab pk mu ins : Nat → Nat} {C C' E S B P Lk Fl : Nat → Prop} {c : Int32} {x y l i j t s cur : Nat} {p : List Nat}
theorem qta_1 (h : B l) : qta B pk mu ins cur l = qtm (pk l) (mu l) (ins l) cur := if_pos h
theorem qta_0 (h : ¬ B l) : qta B pk mu ins cur l = 0 := if_neg h
theorem qta_bd (hP : qPb k pk mu ins) (hl : l < k) : qta B pk mu ins cur l ≤ 99902 := by
  unfold qta
  split
  · exact qtm_bd (hP l hl).2.1 (hP l hl).2.2.2.1
  · omega
theorem qx_time (hW : qW u n k a b ld cap pr rt S B) (hPX : qPX u k pk mu ins) (hP : qPb k pk mu ins) (hl : l < k) (hcur : cur < 1000000) : fX3_timeFor N u (nI l) (nI cur) = some (qti (qta B pk mu ins cur l)) := by
  have hk := hW.1.2.2.2.1
  obtain ⟨e1, e2, e3⟩ := hPX l hl
  obtain ⟨b1, b2, b3, b4, b5⟩ := hP l hl
  have h3 : mu l * pk l ≤ 10 * 999 := Nat.mul_le_mul b4 b2
  unfold fX3_timeFor
  rw [qx_isL hW.1 hl, q_bs, q_10]
  by_cases q1 : B l
  · rw [hW.sB.has1 q1, qta_1 q1, q_bs, q_10]
    unfold qtm
    by_cases q2 : cur ≤ pk l
    · rw [if_pos q2, qti_0]
      simp (disch := omega) only [q_ck, q_cl, q_gt, e1]
      rw [if_neg (q_nsub q2 (by omega))]
    · rw [if_neg q2]
      have hsub : nI cur - nI (pk l) = nI (cur - pk l) := q_sub (by omega)
      have h63 : fX3_timeFor_j63 N u (nI l) (nI (cur - pk l)) = some (qti (mu l * pk l * 10 / (cur - pk l) + 2)) := by
        unfold fX3_timeFor_j63
        have h4 : mu l * pk l * 10 / (cur - pk l) ≤ mu l * pk l * 10 := Nat.div_le_self _ _
        simp (disch := omega) only [q_ck, q_cl, q_gt, e1, e2, q_mul, q_l10m, q_div, q_dn0, q_p2]
        rw [qti_1 (Nat.succ_pos _)]
      by_cases q3 : 0 < ins l ∧ ins l ≤ cur
      · rw [if_pos q3]
        simp (disch := omega) only [q_ile0, q_ile1, q_ilt0, q_ilt1, q_ieq0, q_ieq1, q_iltz, q_ilez, q_ilez0, q_izlt, q_im1, q_im1a, q_ieqz, q_ieqz0, q_l10, q_l12, q_ck, q_cl, q_gt, q_bs, q_b2s, q_ls, q_sc, nI_add, if_true, if_false, ite_true, ite_false, reduceIte, q_10, q_01, q_11, q_00, e1, e3, hsub]
        rfl
      · rw [if_neg q3]
        by_cases q4 : ins l = 0
        · simp (disch := omega) only [q_ile0, q_ile1, q_ilt0, q_ilt1, q_ieq0, q_ieq1, q_iltz, q_ilez, q_ilez0, q_izlt, q_im1, q_im1a, q_ieqz, q_ieqz0, q_l10, q_l12, q_ck, q_cl, q_gt, q_bs, q_b2s, q_ls, q_sc, nI_add, if_true, if_false, ite_true, ite_false, reduceIte, q_10, q_01, q_11, q_00, e1, e3, hsub]
          exact h63
        · simp (disch := omega) only [q_ile0, q_ile1, q_ilt0, q_ilt1, q_ieq0, q_ieq1, q_iltz, q_ilez, q_ilez0, q_izlt, q_im1, q_im1a, q_ieqz, q_ieqz0, q_l10, q_l12, q_ck, q_cl, q_gt, q_bs, q_b2s, q_ls, q_sc, nI_add, if_true, if_false, ite_true, ite_false, reduceIte, q_10, q_01, q_11, q_00, e1, e3, hsub]
          exact h63
  · rw [hW.sB.has0 (show l < 32 by omega) q1, qta_0 q1, q_bs, q_00]
    rfl
theorem qm_time (hk : k ≤ 12) (hPM : qPM v k pk mu ins) (hP : qPb k pk mu ins) (hl : l < k) (hcur : cur < 1000000) : fX6_time N v (nI l) (nI cur) = some (qti (qtm (pk l) (mu l) (ins l) cur)) := by
  obtain ⟨e1, e2, e3⟩ := hPM l hl
  obtain ⟨b1, b2, b3, b4, b5⟩ := hP l hl
  have h3 : mu l * pk l ≤ 10 * 999 := Nat.mul_le_mul b4 b2
  unfold fX6_time qtm
  by_cases q2 : cur ≤ pk l
  · rw [if_pos q2, qti_0]
    simp (disch := omega) only [q_ile0, q_ile1, q_ilt0, q_ilt1, q_ieq0, q_ieq1, q_iltz, q_ilez, q_ilez0, q_izlt, q_im1, q_im1a, q_ieqz, q_ieqz0, q_l10, q_l12, q_ck, q_cl, q_gt, q_bs, q_b2s, q_ls, q_sc, nI_add, if_true, if_false, ite_true, ite_false, reduceIte, q_10, q_01, q_11, q_00, e1]
  · rw [if_neg q2]
    have hsub : nI cur - nI (pk l) = nI (cur - pk l) := q_sub (by omega)
    have h35 : fX6_time_j35 N v (nI l) (nI cur) = some (qti (mu l * pk l * 10 / (cur - pk l) + 2)) := by
      unfold fX6_time_j35
      have h4 : mu l * pk l * 10 / (cur - pk l) ≤ mu l * pk l * 10 := Nat.div_le_self _ _
      simp (disch := omega) only [q_ck, q_cl, q_gt, e1, e2, hsub, q_mul, q_l10m, q_div, q_dn0, q_p2]
      rw [qti_1 (Nat.succ_pos _)]
    by_cases q3 : 0 < ins l ∧ ins l ≤ cur
    · rw [if_pos q3]
      simp (disch := omega) only [q_ile0, q_ile1, q_ilt0, q_ilt1, q_ieq0, q_ieq1, q_iltz, q_ilez, q_ilez0, q_izlt, q_im1, q_im1a, q_ieqz, q_ieqz0, q_l10, q_l12, q_ck, q_cl, q_gt, q_bs, q_b2s, q_ls, q_sc, nI_add, if_true, if_false, ite_true, ite_false, reduceIte, q_10, q_01, q_11, q_00, e1, e3]
      rfl
    · rw [if_neg q3]
      by_cases q4 : ins l = 0
      · simp (disch := omega) only [q_ile0, q_ile1, q_ilt0, q_ilt1, q_ieq0, q_ieq1, q_iltz, q_ilez, q_ilez0, q_izlt, q_im1, q_im1a, q_ieqz, q_ieqz0, q_l10, q_l12, q_ck, q_cl, q_gt, q_bs, q_b2s, q_ls, q_sc, nI_add, if_true, if_false, ite_true, ite_false, reduceIte, q_10, q_01, q_11, q_00, e1, e3]
        exact h35
      · simp (disch := omega) only [q_ile0, q_ile1, q_ilt0, q_ilt1, q_ieq0, q_ieq1, q_iltz, q_ilez, q_ilez0, q_izlt, q_im1, q_im1a, q_ieqz, q_ieqz0, q_l10, q_l12, q_ck, q_cl, q_gt, q_bs, q_b2s, q_ls, q_sc, nI_add, if_true, if_false, ite_true, ite_false, reduceIte, q_10, q_01, q_11, q_00, e1, e3]
        exact h35
/-- the j-th of the first i lines of p trips first; of several the last -/
def qwin (p : List Nat) (τ : Nat → Nat) (i j : Nat) : Prop := j < i ∧ 0 < τ (p.getD j 0) ∧ ∀ j', j' < i → 0 < τ (p.getD j' 0) → τ (p.getD j 0) ≤ τ (p.getD j' 0) ∧ (τ (p.getD j' 0) = τ (p.getD j 0) → j' ≤ j)
theorem qwin_un {τ : Nat → Nat} (h : qwin p τ i j) (h2 : qwin p τ i x) : j = x := by
  obtain ⟨h1, h3, h4⟩ := h
  obtain ⟨g1, g3, g4⟩ := h2
  obtain ⟨f1, f2⟩ := h4 x g1 g3
  obtain ⟨e1, e2⟩ := g4 j h1 h3
  have e : τ (p.getD x 0) = τ (p.getD j 0) := by omega
  have := f2 e
  have := e2 e.symm
  omega
def qnon (p : List Nat) (τ : Nat → Nat) (i : Nat) : Prop := ∀ j, j < i → τ (p.getD j 0) = 0
theorem qwin_skip {τ : Nat → Nat} (h : qwin p τ i j) (h2 : τ (p.getD i 0) = 0) : qwin p τ (i + 1) j := ⟨by have := h.1; omega, h.2.1, fun j' h3 h4 => h.2.2 j' (by
  rcases Nat.lt_or_ge j' i with q | q
  · exact q
  · have : j' = i := by omega
    subst this; omega) h4⟩
theorem qwin_keep {τ : Nat → Nat} (h : qwin p τ i j) (h2 : τ (p.getD j 0) < τ (p.getD i 0)) : qwin p τ (i + 1) j := ⟨by have := h.1; omega, h.2.1, fun j' h3 h4 => by
  rcases Nat.lt_or_ge j' i with q | q
  · exact h.2.2 j' q h4
  · have : j' = i := by omega
    subst this
    exact ⟨by omega, fun e => by omega⟩⟩
theorem qwin_new {τ : Nat → Nat} (h : qwin p τ i j) (h1 : 0 < τ (p.getD i 0)) (h2 : τ (p.getD i 0) ≤ τ (p.getD j 0)) : qwin p τ (i + 1) i := ⟨by omega, h1, fun j' h3 h4 => by
  rcases Nat.lt_or_ge j' i with q | q
  · have := (h.2.2 j' q h4).1
    exact ⟨by omega, fun _ => by omega⟩
  · have : j' = i := by omega
    subst this
    exact ⟨Nat.le_refl _, fun _ => Nat.le_refl _⟩⟩
theorem qwin_first {τ : Nat → Nat} (h : qnon p τ i) (h1 : 0 < τ (p.getD i 0)) : qwin p τ (i + 1) i := ⟨by omega, h1, fun j' h3 h4 => by
  rcases Nat.lt_or_ge j' i with q | q
  · have := h j' q; omega
  · have : j' = i := by omega
    subst this
    exact ⟨Nat.le_refl _, fun _ => Nat.le_refl _⟩⟩
theorem qnon_skip {τ : Nat → Nat} (h : qnon p τ i) (h2 : τ (p.getD i 0) = 0) : qnon p τ (i + 1) := fun j hj => by
  rcases Nat.lt_or_ge j i with q | q
  · exact h j q
  · have : j = i := by omega
    subst this; exact h2
theorem qx_first (hN : 20 < N) (hW : qW u n k a b ld cap pr rt S B) (hPX : qPX u k pk mu ins) (hP : qPb k pk mu ins) (hp : ∀ i, i < p.length → p.getD i 0 < k) (hlen : p.length ≤ 9) (h18 : ∀ i, i < p.length → u 18 i = nI (p.getD i 0)) (hcur : cur < 1000000) (out : Int32) {τ : Nat → Nat} (hτ : ∀ l, l < k → τ l = @ite _ (nI l = out) (Classical.propDecidable _) 0 (qta B pk mu ins cur l)) : ∃ r, fX3_firstOnPath N u (nI p.length) (nI cur) out = some r ∧ ((r = -1 ∧ qnon p τ p.length) ∨ ∃ j, r = nI (p.getD j 0) ∧ qwin p τ p.length j) := by
  have hk := hW.1.2.2.2.1
  obtain ⟨r, hr, hres⟩ := q_loop (f := fun z : Int32 × Int32 × Int32 => fX3_firstOnPath_L9 N u (nI p.length) (nI cur) out z.1 z.2.1 z.2.2) (m := p.length) (N := N) (x0 := (-1, 0, 0)) (fun i z => z.2.2 = nI i ∧ ((z.1 = -1 ∧ z.2.1 = 0 ∧ qnon p τ i) ∨ ∃ j, z.1 = nI (p.getD j 0) ∧ z.2.1 = nI (τ (p.getD j 0)) ∧ qwin p τ i j)) (fun r => (r = -1 ∧ qnon p τ p.length) ∨ ∃ j, r = nI (p.getD j 0) ∧ qwin p τ p.length j) (by omega) ⟨rfl, Or.inl ⟨rfl, rfl, fun j hj => absurd hj (Nat.not_lt_zero j)⟩⟩ (by
    rintro i ⟨f, m, z⟩ hi ⟨hz, hst⟩
    dsimp only at hz hst
    replace hz : z = nI i := hz
    subst hz
    have hpi := hp i hi
    have hτi := hτ _ hpi
    have hb : τ (p.getD i 0) ≤ 99902 := by
      rw [hτi]
      split
      · omega
      · exact qta_bd hP hpi
    have hline : fX0_lineOnPath N u (nI i) = some (nI (p.getD i 0)) := by
      unfold fX0_lineOnPath
      simp (disch := omega) only [q_ile0, q_ile1, q_ilt0, q_ilt1, q_ieq0, q_ieq1, q_iltz, q_ilez, q_ilez0, q_izlt, q_im1, q_im1a, q_ieqz, q_ieqz0, q_l10, q_l12, q_ck, q_cl, q_gt, q_bs, q_b2s, q_ls, q_sc, nI_add, if_true, if_false, ite_true, ite_false, reduceIte, q_10, q_01, q_11, q_00, h18 i hi]
    have head : fX3_firstOnPath_L9 N u (nI p.length) (nI cur) out f m (nI i) = fX3_firstOnPath_j43 N u (nI p.length) (nI cur) out f m (nI i) (nI (p.getD i 0)) (qti (τ (p.getD i 0))) := by
      unfold fX3_firstOnPath_L9
      rw [q_ile0 hi (by omega), hline, q_bs, hτi]
      by_cases q : nI (p.getD i 0) = out
      · rw [if_pos q, if_pos q]; rfl
      · rw [if_neg q, if_neg q, qx_time hW hPX hP hpi hcur]; rfl
    refine Or.inl ?_
    show ∃ y, fX3_firstOnPath_L9 N u (nI p.length) (nI cur) out f m (nI i) = some (.inl y) ∧ _
    rw [head]
    unfold fX3_firstOnPath_j43 fX3_firstOnPath_j64
    by_cases q0 : τ (p.getD i 0) = 0
    · rw [q0, qti_0, q_im1a, q_sc]
      exact ⟨_, rfl, rfl, hst.imp (fun z => ⟨z.1, z.2.1, qnon_skip z.2.2 q0⟩) (fun ⟨j, z1, z2, z3⟩ => ⟨j, z1, z2, qwin_skip z3 q0⟩)⟩
    · rw [qti_1 (by omega), q_im1 (by omega), q_sc]
      rcases hst with ⟨g1, g2, g3⟩ | ⟨j, g1, g2, g3⟩
      · replace g1 : f = -1 := g1
        subst g1
        rw [q_im1a]
        exact ⟨_, rfl, rfl, Or.inr ⟨i, rfl, rfl, qwin_first g3 (by omega)⟩⟩
      · replace g1 : f = nI (p.getD j 0) := g1
        replace g2 : m = nI (τ (p.getD j 0)) := g2
        subst g1; subst g2
        have hpj := hp j (by have := g3.1; omega)
        have hbj : τ (p.getD j 0) ≤ 99902 := by
          rw [hτ _ hpj]
          split
          · omega
          · exact qta_bd hP hpj
        rw [q_im1 (by omega)]
        by_cases q1 : τ (p.getD j 0) < τ (p.getD i 0)
        · rw [q_ilt1 q1 (by omega)]
          exact ⟨_, rfl, rfl, Or.inr ⟨j, rfl, rfl, qwin_keep g3 q1⟩⟩
        · rw [q_ilt0 (by omega) (by omega)]
          exact ⟨_, rfl, rfl, Or.inr ⟨i, rfl, rfl, qwin_new g3 (by omega) (by omega)⟩⟩) (by
    rintro ⟨f, m, z⟩ ⟨hz, hst⟩
    dsimp only at hz hst
    replace hz : z = nI p.length := hz
    subst hz
    refine ⟨f, ?_, hst.imp (fun z => ⟨z.1, z.2.2⟩) (fun ⟨j, z1, z2, z3⟩ => ⟨j, z1, z3⟩)⟩
    show fX3_firstOnPath_L9 N u (nI p.length) (nI cur) out f m (nI p.length) = _
    unfold fX3_firstOnPath_L9
    simp (disch := omega) only [q_ile0, q_ile1, q_ilt0, q_ilt1, q_ieq0, q_ieq1, q_iltz, q_ilez, q_ilez0, q_izlt, q_im1, q_im1a, q_ieqz, q_ieqz0, q_l10, q_l12, q_ck, q_cl, q_gt, q_bs, q_b2s, q_ls, q_sc, nI_add, if_true, if_false, ite_true, ite_false, reduceIte, q_10, q_01, q_11, q_00])
  refine ⟨r, ?_, hres⟩
  unfold fX3_firstOnPath
  rw [hr]
  rfl
end PR
