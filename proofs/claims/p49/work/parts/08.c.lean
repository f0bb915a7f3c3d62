/-! steps of the printed functions on small numbers; sets of numbers as ints -/
theorem q_lt {a b : Nat} (ha : a < 2147483648) (hb : b < 2147483648) : nI a < nI b ↔ a < b := by
  rw [Int32.lt_iff_toInt_lt, nI_toInt (show a < 2 ^ 31 by omega), nI_toInt (show b < 2 ^ 31 by omega)]
  omega
theorem q_le {a b : Nat} (ha : a < 2147483648) (hb : b < 2147483648) : nI a ≤ nI b ↔ a ≤ b := by
  rw [Int32.le_iff_toInt_le, nI_toInt (show a < 2 ^ 31 by omega), nI_toInt (show b < 2 ^ 31 by omega)]
  omega
theorem q_eq {a b : Nat} (ha : a < 2147483648) (hb : b < 2147483648) : nI a = nI b ↔ a = b := nI_eq (by omega) (by omega)
theorem q_m1 {i : Nat} (h : i < 2147483648) : ¬ nI i = -1 := by
  intro e
  have h1 := nI_toInt (show i < 2 ^ 31 by omega)
  rw [e] at h1
  have h2 : (-1 : Int32).toInt = -1 := by decide
  rw [h2] at h1
  omega
theorem q_m1' {i : Nat} (h : i < 2147483648) : ¬ (-1 : Int32) = nI i := fun e => q_m1 h e.symm
section QI
variable {α : Type} {x y : α} {a b : Nat}
theorem q_ile0 (h : b < a) (ha : a < 2147483648) : (if nI a ≤ nI b then x else y) = y := if_neg (fun q => by rw [q_le ha (by omega)] at q; omega)
theorem q_ile1 (h : a ≤ b) (hb : b < 2147483648) : (if nI a ≤ nI b then x else y) = x := if_pos ((q_le (by omega) hb).mpr h)
theorem q_ilt0 (h : b ≤ a) (ha : a < 2147483648) : (if nI a < nI b then x else y) = y := if_neg (fun q => by rw [q_lt ha (by omega)] at q; omega)
theorem q_ilt1 (h : a < b) (hb : b < 2147483648) : (if nI a < nI b then x else y) = x := if_pos ((q_lt (by omega) hb).mpr h)
theorem q_ieq0 (h : a < b ∨ b < a) (ha : a < 2147483648) (hb : b < 2147483648) : (if nI a = nI b then x else y) = y := if_neg (fun q => by rw [q_eq ha hb] at q; omega)
theorem q_ieq1 (h : a = b) : (if nI a = nI b then x else y) = x := if_pos (by rw [h])
theorem q_iltz (h : a < 2147483648) : (if nI a < 0 then x else y) = y := if_neg (nI_pos (by omega))
theorem q_ilez (h : 0 < a) (ha : a < 2147483648) : (if nI a ≤ 0 then x else y) = y := q_ile0 (b := 0) h ha
theorem q_ilez0 (h : a = 0) : (if nI a ≤ 0 then x else y) = x := by subst h; rfl
theorem q_izlt (h : 0 < a) (ha : a < 2147483648) : (if 0 < nI a then x else y) = x := q_ilt1 (a := 0) h ha
theorem q_im1 (h : a < 2147483648) : (if nI a = -1 then x else y) = y := if_neg (q_m1 h)
theorem q_im1a : (if (-1 : Int32) = -1 then x else y) = x := if_pos rfl
theorem q_ieqz (h : 0 < a) (ha : a < 2147483648) : (if nI a = 0 then x else y) = y := if_neg (fun q => by rw [show (0 : Int32) = nI 0 from rfl, q_eq ha (by omega)] at q; omega)
theorem q_ieqz0 (h : a = 0) : (if nI a = 0 then x else y) = x := if_pos (by rw [h]; rfl)
theorem q_10 : (if (1 : Int32) = 0 then x else y) = y := if_neg (by decide)
theorem q_00 : (if (0 : Int32) = 0 then x else y) = x := if_pos rfl
theorem q_01 : (if (0 : Int32) = 1 then x else y) = y := if_neg (by decide)
theorem q_11 : (if (1 : Int32) = 1 then x else y) = x := if_pos rfl
end QI
theorem q_l10 : (10 : Int32) = nI 10 := by decide
theorem q_l12 : (12 : Int32) = nI 12 := by decide
theorem q_12n {i : Nat} (h : i < 12) : ¬ (12 : Int32) ≤ nI i := nI_ge (b := 12) h (by decide)
theorem q_ck {i m : Nat} (h : i < m) (hm : m < 2147483648) : sg_inb (nI i) m = true := nI_ck h (by omega)
theorem q_cl {i : Nat} (h : i < 2147483648) : (nI i).toNatClampNeg = i := nI_clamp (by omega)
theorem q_gt {α : Type} (x : Option α) : sg_g true x = x := rfl
theorem q_bs {α γ : Type} (a : α) (f : α → Option γ) : sg_b (some a) f = f a := rfl
theorem q_b2s {α β γ : Type} (a : α) (b : β) (f : α → β → Option γ) : sg_b2 (some (a, b)) f = f a b := rfl
theorem q_ls {α β : Type} (e : α) (k : α → β) : sg_l e k = k e := rfl
theorem q_sc (i : Nat) : nI i + 1 = nI (i + 1) := (nI_succ i).symm
theorem q_mul (a b : Nat) : nI a * nI b = nI (a * b) := (Int32.ofNat_mul a b).symm
theorem q_sub {a b : Nat} (h : b ≤ a) : nI a - nI b = nI (a - b) := by
  have e : nI a = nI (a - b) + nI b := by rw [nI_add]; congr 1; omega
  rw [e, Int32.add_sub_cancel]
theorem q_lp {σ ρ : Type} {f : σ → Option (σ ⊕ ρ)} (J : Nat → σ → Prop) (Q : ρ → Prop) {m : Nat} (hs : ∀ i x, i < m → J i x → (∃ y, f x = some (.inl y) ∧ J (i + 1) y) ∨ (∃ r, f x = some (.inr r) ∧ Q r)) (hx : ∀ x, J m x → ∃ r, f x = some (.inr r) ∧ Q r) : ∀ (d i N : Nat) (x : σ), i + d = m → d < N → J i x → ∃ r, sg_it f N x = some r ∧ Q r
  | 0, i, N, x, h1, h2, h3 => by
    obtain ⟨N, rfl⟩ : ∃ M, N = M + 1 := ⟨N - 1, by omega⟩
    have e : i = m := by omega
    subst e
    obtain ⟨r, e1, e2⟩ := hx x h3
    refine ⟨r, ?_, e2⟩
    show (f x).bind _ = _
    rw [e1]
    rfl
  | d + 1, i, N, x, h1, h2, h3 => by
    obtain ⟨N, rfl⟩ : ∃ M, N = M + 1 := ⟨N - 1, by omega⟩
    rcases hs i x (by omega) h3 with ⟨y, e1, e2⟩ | ⟨r, e1, e2⟩
    · obtain ⟨r, e3, e4⟩ := q_lp J Q hs hx d (i + 1) N y (by omega) (by omega) e2
      refine ⟨r, ?_, e4⟩
      show (f x).bind _ = _
      rw [e1]
      exact e3
    · refine ⟨r, ?_, e2⟩
      show (f x).bind _ = _
      rw [e1]
      rfl
theorem q_loop {σ ρ : Type} {f : σ → Option (σ ⊕ ρ)} (J : Nat → σ → Prop) (Q : ρ → Prop) {m N : Nat} {x0 : σ} (hN : m < N) (h0 : J 0 x0) (hs : ∀ i x, i < m → J i x → (∃ y, f x = some (.inl y) ∧ J (i + 1) y) ∨ (∃ r, f x = some (.inr r) ∧ Q r)) (hx : ∀ x, J m x → ∃ r, f x = some (.inr r) ∧ Q r) : ∃ r, sg_it f N x0 = some r ∧ Q r :=
  q_lp J Q hs hx m 0 N x0 (by omega) hN h0
/-- the least of a set, or none -/
theorem q_least {P : Nat → Prop} : ∀ n, (∃ i, i < n ∧ P i ∧ ∀ j, j < i → ¬ P j) ∨ (∀ i, i < n → ¬ P i)
  | 0 => Or.inr (fun i h => absurd h (Nat.not_lt_zero i))
  | n + 1 => by
    rcases q_least (P := P) n with ⟨i, h1, h2, h3⟩ | h
    · exact Or.inl ⟨i, by omega, h2, h3⟩
    · by_cases q : P n
      · exact Or.inl ⟨n, Nat.lt_succ_self n, q, fun j hj => h j hj⟩
      · refine Or.inr (fun i hi => ?_)
        by_cases e : i = n
        · rw [e]; exact q
        · exact h i (by omega)
/-- the first of the numbers below n with P, or -1 -/
noncomputable def qf (P : Nat → Prop) : Nat → Int32
  | 0 => -1
  | n + 1 => @ite _ (∃ i, i < n ∧ P i) (Classical.propDecidable _) (qf P n) (@ite _ (P n) (Classical.propDecidable _) (nI n) (-1))
theorem qf_s {P : Nat → Prop} {i : Nat} (hP : P i) (hm : ∀ j, j < i → ¬ P j) : ∀ {n : Nat}, i < n → qf P n = nI i
  | 0, h => absurd h (Nat.not_lt_zero i)
  | n + 1, h => by
    show @ite _ (∃ i, i < n ∧ P i) (Classical.propDecidable _) (qf P n) (@ite _ (P n) (Classical.propDecidable _) (nI n) (-1)) = _
    by_cases e : i = n
    · subst e
      rw [if_neg (fun q => by obtain ⟨j, h1, h2⟩ := q; exact hm j h1 h2), if_pos hP]
    · rw [if_pos ⟨i, by omega, hP⟩, qf_s hP hm (show i < n by omega)]
theorem qf_n {P : Nat → Prop} : ∀ {n : Nat}, (∀ i, i < n → ¬ P i) → qf P n = -1
  | 0, _ => rfl
  | n + 1, h => by
    show @ite _ (∃ i, i < n ∧ P i) (Classical.propDecidable _) (qf P n) (@ite _ (P n) (Classical.propDecidable _) (nI n) (-1)) = _
    rw [if_neg (fun q => by obtain ⟨j, h1, h2⟩ := q; exact h j (by omega) h2), if_neg (h n (Nat.lt_succ_self n))]
theorem qf_or (P : Nat → Prop) (n : Nat) : (∃ i, i < n ∧ P i ∧ (∀ j, j < i → ¬ P j) ∧ qf P n = nI i) ∨ ((∀ i, i < n → ¬ P i) ∧ qf P n = -1) := by
  rcases q_least (P := P) n with ⟨i, h1, h2, h3⟩ | h
  · exact Or.inl ⟨i, h1, h2, h3, qf_s h2 h3 h1⟩
  · exact Or.inr ⟨h, qf_n h⟩
theorem qf_cg {P Q : Nat → Prop} {n m : Nat} (h : ∀ i, i < n ∧ P i ↔ i < m ∧ Q i) : qf P n = qf Q m := by
  rcases qf_or P n with ⟨i, h1, h2, h3, h4⟩ | ⟨h1, h2⟩
  · rw [h4, qf_s ((h i).mp ⟨h1, h2⟩).2 (fun j hj q => h3 j hj ((h j).mpr ⟨by have := ((h i).mp ⟨h1, h2⟩).1; omega, q⟩).2) ((h i).mp ⟨h1, h2⟩).1]
  · rw [h2, qf_n (fun i hi q => h1 i ((h i).mpr ⟨hi, q⟩).1 ((h i).mpr ⟨hi, q⟩).2)]
theorem q_first {f : Int32 → Option (Int32 ⊕ Int32)} {P : Nat → Prop} {n N : Nat} (hN : n < N) (h0 : ∀ i, i < n → ¬ P i → f (nI i) = some (.inl (nI (i + 1)))) (h1 : ∀ i, i < n → P i → f (nI i) = some (.inr (nI i))) (h2 : f (nI n) = some (.inr (-1))) : sg_it f N 0 = some (qf P n) := by
  rcases qf_or P n with ⟨i, g1, g2, g3, g4⟩ | ⟨g1, g2⟩
  · rw [g4]
    exact q_for (fun j => nI j) (n := i) (by omega) (fun j hj => h0 j (by omega) (g3 j hj)) (h1 i g1 g2)
  · rw [g2]
    exact q_for (fun j => nI j) hN (fun j hj => h0 j hj (g1 j hj)) h2
theorem q_sum {f : Int32 × Int32 → Option ((Int32 × Int32) ⊕ Int32)} {g : Nat → Nat} {P : Nat → Prop} {n N : Nat} (hN : n < N) (h0 : ∀ i w, i < n → ¬ P i → f (w, nI i) = some (.inl (w, nI (i + 1)))) (h1 : ∀ i w, i < n → P i → f (w, nI i) = some (.inl (w + nI (g i), nI (i + 1)))) (h2 : ∀ w, f (w, nI n) = some (.inr w)) : sg_it f N (0, 0) = some (nI (qs g P n)) := by
  refine q_for (fun i => (nI (qs g P i), nI i)) hN (fun i hi => ?_) (h2 _)
  by_cases q : P i
  · show f (nI (qs g P i), nI i) = _
    rw [h1 i _ hi q, qs_s1 q, nI_add]
  · show f (nI (qs g P i), nI i) = _
    rw [h0 i _ hi q, qs_s0 q]
/-- the bits of s are the numbers with P -/
def qS (s : Int32) (P : Nat → Prop) : Prop := ∀ i, qb s i = true ↔ P i
section SS
variable {s t : Int32} {P Q : Nat → Prop} {i N : Nat}
theorem qS.cg (h : qS s P) (hq : ∀ i, P i ↔ Q i) : qS s Q := fun i => (h i).trans (hq i)
theorem qS.no (h : qS s P) (hn : ¬ P i) : qb s i = false := Bool.eq_false_iff.mpr (fun q => hn ((h i).mp q))
theorem qS.lt (h : qS s P) (hp : P i) : i < 32 := by
  rcases Nat.lt_or_ge i 32 with q | q
  · exact q
  · have := (h i).mpr hp
    rw [qb_big q] at this
    cases this
theorem qS.inj (h : qS s P) (h2 : qS t P) : s = t := qb_ext (fun i _ => by
  by_cases q : P i
  · rw [(h i).mpr q, (h2 i).mpr q]
  · rw [h.no q, h2.no q])
theorem qS.or (h : qS s P) (h2 : qS t Q) : qS (s ||| t) (fun i => P i ∨ Q i) := fun i => by
  rw [qb_or, Bool.or_eq_true, h i, h2 i]
theorem qS.and (h : qS s P) (h2 : qS t Q) : qS (s &&& t) (fun i => P i ∧ Q i) := fun i => by
  rw [qb_and, Bool.and_eq_true, h i, h2 i]
theorem qS.diff (h : qS s P) (h2 : qS t Q) : qS (s &&& (t ^^^ (-1))) (fun i => P i ∧ ¬ Q i) := fun i => by
  rw [qb_and, qb_xor, Bool.and_eq_true, h i]
  constructor
  · intro q
    refine ⟨q.1, fun r => ?_⟩
    have h3 := q.2
    rw [(h2 i).mpr r, qb_m1 i (h.lt q.1)] at h3
    exact absurd h3 (by decide)
  · intro q
    refine ⟨q.1, ?_⟩
    rw [h2.no q.2, qb_m1 i (h.lt q.1)]
    rfl
theorem qS.bit (hi : i < 32) : qS (qB i) (fun j => j = i) := fun j => by
  rw [qb_sB hi, decide_eq_true_iff]
theorem qS.z : qS 0 (fun _ => False) := fun i => by
  rw [qb_0]
  exact ⟨fun q => Bool.noConfusion q, fun q => q.elim⟩
theorem qS.eq0 (h : qS s P) : s = 0 ↔ ∀ i, ¬ P i := by
  constructor
  · intro e i hp
    have := (h i).mpr hp
    rw [e, qb_0] at this
    cases this
  · intro hn
    exact qS.inj (h.cg (Q := fun _ => False) (fun i => ⟨fun q => hn i q, fun q => q.elim⟩)) qS.z
theorem qS.eqv (h : qS s P) (h2 : qS t Q) : s = t ↔ ∀ i, P i ↔ Q i := by
  constructor
  · intro e i
    subst e
    exact (h i).symm.trans (h2 i)
  · intro e
    exact (h.cg e).inj h2
theorem qS.has1 (h : qS s P) (hp : P i) : fX5_has N s (nI i) = some 1 := by
  rw [qx_has N s (h.lt hp), if_pos ((h i).mpr hp)]
theorem qS.has0 (h : qS s P) (hi : i < 32) (hp : ¬ P i) : fX5_has N s (nI i) = some 0 := by
  rw [qx_has N s hi, if_neg (fun q => hp ((h i).mp q))]
theorem qx_low (h : qS s P) (hN : 20 < N) (hP : ∀ i, P i → i < 12) : fX5_lowestIn N s = some (qf P 12) := by
  have step : ∀ i, i < 12 → ¬ P i → fX5_memberAt_L4 N s 0 0 (nI i) = some (.inl (0, nI (i + 1))) := by
    intro i hi hp
    unfold fX5_memberAt_L4
    rw [if_pos ((q_has0 s (by omega)).mpr (h.no hp))]
    simp (disch := omega) only [q_ile0, q_ile1, q_ilt0, q_ilt1, q_ieq0, q_ieq1, q_iltz, q_ilez, q_ilez0, q_izlt, q_im1, q_im1a, q_ieqz, q_ieqz0, q_l10, q_l12, q_ck, q_cl, q_gt, q_bs, q_b2s, q_ls, q_sc, nI_add, if_true, if_false, ite_true, ite_false, reduceIte, q_10, q_01, q_11, q_00]
  have hit : ∀ i, i < 12 → P i → fX5_memberAt_L4 N s 0 0 (nI i) = some (.inr (nI i)) := by
    intro i hi hp
    unfold fX5_memberAt_L4
    rw [if_neg (c := (s >>> (nI i &&& 31) &&& 1) = 0) (fun q => by rw [q_has0 s (by omega), (h i).mpr hp] at q; cases q)]
    simp (disch := omega) only [q_ile0, q_ile1, q_ilt0, q_ilt1, q_ieq0, q_ieq1, q_iltz, q_ilez, q_ilez0, q_izlt, q_im1, q_im1a, q_ieqz, q_ieqz0, q_l10, q_l12, q_ck, q_cl, q_gt, q_bs, q_b2s, q_ls, q_sc, nI_add, if_true, if_false, ite_true, ite_false, reduceIte, q_10, q_01, q_11, q_00]
  have fin : ∀ r, sg_it (fun x : Int32 × Int32 => fX5_memberAt_L4 N s 0 x.1 x.2) N ((fun i => ((0 : Int32), nI i)) 0) = some r → fX5_lowestIn N s = some r := by
    intro r hr
    unfold fX5_lowestIn fX5_memberAt
    show sg_b (sg_it (fun x : Int32 × Int32 => fX5_memberAt_L4 N s 0 x.1 x.2) N ((fun i => ((0 : Int32), nI i)) 0)) _ = _
    rw [hr]
    rfl
  rcases qf_or P 12 with ⟨i, h1, h2, h3, h4⟩ | ⟨hno, h4⟩
  · rw [h4]
    exact fin _ (q_for (fun i => ((0 : Int32), nI i)) (n := i) (by omega) (fun j hj => step j (by omega) (h3 j hj)) (hit i h1 h2))
  · rw [h4]
    refine fin _ (q_for (fun i => ((0 : Int32), nI i)) (n := 12) (by omega) (fun j hj => step j hj (hno j hj)) ?_)
    show fX5_memberAt_L4 N s 0 0 (nI 12) = _
    unfold fX5_memberAt_L4
    rw [if_pos (show (12 : Int32) ≤ nI 12 by decide)]
end SS
