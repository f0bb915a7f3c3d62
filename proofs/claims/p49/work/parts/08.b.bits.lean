/-! the functions of the class, plainly: bits -/
/-! ===== Int32 by its bits: qb x i ===== -/
def qb (x : Int32) (i : Nat) : Bool := x.toBitVec.getLsbD i
theorem qb_ext {x y : Int32} (h : ∀ i, i < 32 → qb x i = qb y i) : x = y := Int32.toBitVec_inj.mp (BitVec.eq_of_getLsbD_eq (fun i hi => h i hi))
theorem qb_or (x y : Int32) (i : Nat) : qb (x ||| y) i = (qb x i || qb y i) := by unfold qb; rw [Int32.toBitVec_or, BitVec.getLsbD_or]
theorem qb_and (x y : Int32) (i : Nat) : qb (x &&& y) i = (qb x i && qb y i) := by unfold qb; rw [Int32.toBitVec_and, BitVec.getLsbD_and]
theorem qb_xor (x y : Int32) (i : Nat) : qb (x ^^^ y) i = (qb x i ^^ qb y i) := by unfold qb; rw [Int32.toBitVec_xor, BitVec.getLsbD_xor]
theorem qb_big {x : Int32} {i : Nat} (h : 32 ≤ i) : qb x i = false := BitVec.getLsbD_of_ge _ _ h
theorem qb_255 (i : Nat) : qb 255 i = decide (i < 8) := by
  rcases Nat.lt_or_ge i 32 with h | h
  · exact (by decide +kernel : ∀ i, i < 32 → qb 255 i = decide (i < 8)) i h
  · rw [qb_big h, decide_eq_false (by omega)]
theorem qb_65535 (i : Nat) : qb 65535 i = decide (i < 16) := by
  rcases Nat.lt_or_ge i 32 with h | h
  · exact (by decide +kernel : ∀ i, i < 32 → qb 65535 i = decide (i < 16)) i h
  · rw [qb_big h, decide_eq_false (by omega)]
theorem qb_m1 : ∀ i, i < 32 → qb (-1) i = true := by decide +kernel
theorem qb_0 (i : Nat) : qb 0 i = false := BitVec.getLsbD_zero
theorem qb_sl : ∀ n, n < 32 → ((nI n &&& 31).toBitVec.smod 32).toNat = n := by decide +kernel
theorem qb_su : ∀ n, n < 32 → (((nI n).toUInt32 &&& Int32.toUInt32 31).toBitVec % 32).toNat = n := by decide +kernel
theorem qb_shl (n : Nat) (hn : n < 32) (x : Int32) {i : Nat} (hi : i < 32) : qb (x <<< (nI n &&& 31)) i = (decide (n ≤ i) && qb x (i - n)) := by
  unfold qb
  rw [Int32.toBitVec_shiftLeft]
  show (x.toBitVec <<< ((nI n &&& 31).toBitVec.smod 32).toNat).getLsbD i = _
  rw [qb_sl n hn, BitVec.getLsbD_shiftLeft]
  rcases Nat.lt_or_ge i n with h | h
  · simp [h, Nat.not_le.mpr h]
  · simp [hi, h, Nat.not_lt.mpr h]
theorem qb_ushr (n : Nat) (hn : n < 32) (x : Int32) (i : Nat) : qb ((x.toUInt32 >>> ((nI n).toUInt32 &&& Int32.toUInt32 31)).toInt32) i = qb x (n + i) := by
  show (x.toUInt32 >>> ((nI n).toUInt32 &&& Int32.toUInt32 31)).toBitVec.getLsbD i = x.toUInt32.toBitVec.getLsbD (n + i)
  rw [UInt32.toBitVec_shiftRight]
  show (x.toUInt32.toBitVec >>> (((nI n).toUInt32 &&& Int32.toUInt32 31).toBitVec % 32).toNat).getLsbD i = _
  rw [qb_su n hn, BitVec.getLsbD_ushiftRight]
theorem qb_sshr (n : Nat) (hn : n < 32) (x : Int32) {i : Nat} (hi : i < 32) : qb (x >>> (nI n &&& 31)) i = if n + i < 32 then qb x (n + i) else qb x 31 := by
  unfold qb
  rw [Int32.toBitVec_shiftRight]
  show (x.toBitVec.sshiftRight ((nI n &&& 31).toBitVec.smod 32).toNat).getLsbD i = _
  rw [qb_sl n hn, BitVec.getLsbD_sshiftRight, BitVec.msb_eq_getLsbD_last]
  simp [hi]
theorem qb_shl8 (x : Int32) {i : Nat} (hi : i < 32) : qb (x <<< ((8 : Int32) &&& 31)) i = (decide (8 ≤ i) && qb x (i - 8)) := qb_shl 8 (by omega) x hi
theorem qb_shl16 (x : Int32) {i : Nat} (hi : i < 32) : qb (x <<< ((16 : Int32) &&& 31)) i = (decide (16 ≤ i) && qb x (i - 16)) := qb_shl 16 (by omega) x hi
theorem qb_shl24 (x : Int32) {i : Nat} (hi : i < 32) : qb (x <<< ((24 : Int32) &&& 31)) i = (decide (24 ≤ i) && qb x (i - 24)) := qb_shl 24 (by omega) x hi
theorem qb_sshr8 (x : Int32) {i : Nat} (hi : i < 32) : qb (x >>> ((8 : Int32) &&& 31)) i = if 8 + i < 32 then qb x (8 + i) else qb x 31 := qb_sshr 8 (by omega) x hi
theorem qb_1 (j : Nat) : qb 1 j = decide (j = 0) := by
  rcases Nat.lt_or_ge j 32 with h | h
  · exact (by decide +kernel : ∀ j, j < 32 → qb 1 j = decide (j = 0)) j h
  · rw [qb_big h, decide_eq_false (by omega)]
def qB (i : Nat) : Int32 := 1 <<< (nI i &&& 31)
theorem qb_sB {i j : Nat} (hi : i < 32) : qb (qB i) j = decide (j = i) := by
  rcases Nat.lt_or_ge j 32 with h | h
  · unfold qB
    rw [qb_shl i hi 1 h, qb_1]
    rcases Nat.lt_or_ge j i with q | q
    · rw [decide_eq_false (Nat.not_le.mpr q), decide_eq_false (show ¬ j = i by omega)]; rfl
    · rw [decide_eq_true q]
      by_cases e : j = i
      · rw [decide_eq_true e, decide_eq_true (show j - i = 0 by omega)]; rfl
      · rw [decide_eq_false e, decide_eq_false (show ¬ j - i = 0 by omega)]; rfl
  · rw [qb_big h, decide_eq_false (show ¬ j = i by omega)]
theorem q_has0 (s : Int32) {i : Nat} (hi : i < 32) : ((s >>> (nI i &&& 31)) &&& 1) = 0 ↔ qb s i = false := by
  have e : ∀ j, j < 32 → qb ((s >>> (nI i &&& 31)) &&& 1) j = (decide (j = 0) && qb s i) := by
    intro j hj
    rw [qb_and, qb_1, qb_sshr i hi s hj]
    by_cases q : j = 0
    · subst q
      rw [if_pos (show i + 0 < 32 by omega), decide_eq_true rfl, Nat.add_zero, Bool.and_true, Bool.true_and]
    · rw [decide_eq_false q, Bool.and_false, Bool.false_and]
  constructor
  · intro h
    have h2 := e 0 (by omega)
    rw [h, qb_0, decide_eq_true rfl, Bool.true_and] at h2
    exact h2.symm
  · intro h
    refine qb_ext (fun j hj => ?_)
    rw [e j hj, h, qb_0, Bool.and_false]
theorem qx_has (N : Nat) (s : Int32) {i : Nat} (hi : i < 32) : fX5_has N s (nI i) = some (if qb s i = true then 1 else 0) := by
  unfold fX5_has
  by_cases h : qb s i = true
  · rw [if_neg (fun q => by rw [(q_has0 s hi).mp q] at h; cases h), if_pos h]
  · rw [if_pos ((q_has0 s hi).mpr (Bool.eq_false_iff.mpr h)), if_neg h]
theorem qx_bit (N i : Nat) : fX5_bit N (nI i) = some (qB i) := rfl
/-- a loop that runs through n places and ends there -/
theorem q_run {σ ρ : Type} {f : σ → Option (σ ⊕ ρ)} (st : Nat → σ) (n : Nat) (r : ρ) (hs : ∀ i, i < n → f (st i) = some (.inl (st (i + 1)))) (hx : f (st n) = some (.inr r)) : ∀ (d i N : Nat), i + d = n → d < N → sg_it f N (st i) = some r
  | 0, i, N, h1, h2 => by
    obtain ⟨N, rfl⟩ : ∃ M, N = M + 1 := ⟨N - 1, by omega⟩
    have e : i = n := by omega
    subst e
    show (f (st i)).bind _ = _
    rw [hx]
    rfl
  | d + 1, i, N, h1, h2 => by
    obtain ⟨N, rfl⟩ : ∃ M, N = M + 1 := ⟨N - 1, by omega⟩
    show (f (st i)).bind _ = _
    rw [hs i (by omega)]
    exact q_run st n r hs hx d (i + 1) N (by omega) (by omega)
theorem q_for {σ ρ : Type} {f : σ → Option (σ ⊕ ρ)} (st : Nat → σ) {n N : Nat} {r : ρ} (hN : n < N) (hs : ∀ i, i < n → f (st i) = some (.inl (st (i + 1)))) (hx : f (st n) = some (.inr r)) : sg_it f N (st 0) = some r :=
  q_run st n r hs hx n 0 N (by omega) hN
/-- a loop with a measure: a thing that holds all along, and its end -/
theorem q_inv {σ ρ : Type} {f : σ → Option (σ ⊕ ρ)} (I : σ → Prop) (μ : σ → Nat) (J : ρ → Prop) (h : ∀ x, I x → (∃ z, f x = some (.inl z) ∧ I z ∧ μ z < μ x) ∨ (∃ r, f x = some (.inr r) ∧ J r)) : ∀ (N : Nat) (x : σ), I x → μ x < N → ∃ r, sg_it f N x = some r ∧ J r
  | 0, _, _, h2 => absurd h2 (Nat.not_lt_zero _)
  | N + 1, x, h1, h2 => by
    rcases h x h1 with ⟨z, e, hz, hm⟩ | ⟨r, e, hr⟩
    · obtain ⟨r, e2, hr⟩ := q_inv I μ J h N z hz (by omega)
      refine ⟨r, ?_, hr⟩
      show (f x).bind _ = _
      rw [e]
      exact e2
    · refine ⟨r, ?_, hr⟩
      show (f x).bind _ = _
      rw [e]
      rfl
theorem nI_ck {i m : Nat} (hi : i < m) (hm : m < 2 ^ 31) : sg_inb (nI i) m = true := by
  unfold sg_inb
  rw [decide_eq_false (nI_pos (n := i) (by omega)), nI_clamp (show i < 2 ^ 31 by omega), decide_eq_true hi]
  rfl
/-- the sum of the loads (or else) of a set's nodes -/
theorem qx_loadIn {N : Nat} {u : sg_St} {n : Nat} {ld : Nat → Nat} (s : Int32) (hN : n < N) (hn : n ≤ 10) (h0 : u 0 0 = nI n) (hl : ∀ i, i < n → u 12 i = nI (ld i)) : fX1_loadIn N u s = some (nI (qs ld (fun i => qb s i = true) n)) := by
  have key : sg_it (fun x => fX1_loadIn_L4 N u s x.1 x.2) N ((fun i => (nI (qs ld (fun i => qb s i = true) i), nI i)) 0) = some (nI (qs ld (fun i => qb s i = true) n)) := by
    refine q_for (fun i => (nI (qs ld (fun i => qb s i = true) i), nI i)) hN (fun i hi => ?_) ?_
    · show fX1_loadIn_L4 N u s (nI (qs ld (fun i => qb s i = true) i)) (nI i) = _
      unfold fX1_loadIn_L4
      rw [h0, if_neg (nI_ge hi (by omega)), qx_has N s (show i < 32 by omega)]
      show (if (if qb s i = true then (1 : Int32) else 0) = 0 then _ else _) = _
      by_cases q : qb s i = true
      · rw [if_pos q, if_neg (by decide), nI_ck (show i < 10 by omega) (by decide), nI_clamp (show i < 2 ^ 31 by omega), hl i hi, qs_s1 (P := fun i => qb s i = true) q, ← nI_add, nI_succ]
        rfl
      · rw [if_neg q, if_pos rfl, qs_s0 (P := fun i => qb s i = true) q, nI_succ]
    · show fX1_loadIn_L4 N u s (nI (qs ld (fun i => qb s i = true) n)) (nI n) = _
      unfold fX1_loadIn_L4
      rw [h0, if_pos (nI_le (Nat.le_refl n) (by omega))]
  unfold fX1_loadIn
  show sg_b (sg_it (fun x => fX1_loadIn_L4 N u s x.1 x.2) N ((fun i => (nI (qs ld (fun i => qb s i = true) i), nI i)) 0)) _ = _
  rw [key]
  rfl
