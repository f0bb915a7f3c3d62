/-! quotients of sums are no NaN -/
def qdb (f : FP.Core.Fmt) (d : FP.Core.Datum) : Prop := d = .inf false ∨ ∃ c q, d = .fin false c q ∧ c < 2 ^ f.p ∧ q ≤ f.qmax
def qdp (d : FP.Core.Datum) : Prop := d = .inf false ∨ ∃ c q, d = .fin false c q
theorem qd_round {f : FP.Core.Fmt} (h1 : f.qmin ≤ f.qmax) (h2 : f.tails < 2 ^ f.p) (num den : Nat) (e : Int) : qdb f (FP.Core.roundRatio f false num den e) := by
  unfold FP.Core.roundRatio
  by_cases h : num = 0
  · rw [if_pos h]
    exact Or.inr ⟨0, f.qmin, rfl, Nat.two_pow_pos _, h1⟩
  · rw [if_neg h]
    unfold FP.Core.roundAt FP.Core.settle FP.Core.bound
    by_cases h3 : FP.Core.nearest (FP.Core.unitsNum num e (FP.Core.quantum f num den e)) (FP.Core.unitsDen den e (FP.Core.quantum f num den e)) < 2 ^ f.p
    · rw [if_pos h3]
      by_cases h4 : FP.Core.quantum f num den e ≤ f.qmax
      · rw [if_pos h4]
        exact Or.inr ⟨_, _, rfl, h3, h4⟩
      · rw [if_neg h4]
        exact Or.inl rfl
    · rw [if_neg h3]
      by_cases h4 : FP.Core.quantum f num den e + 1 ≤ f.qmax
      · rw [if_pos h4]
        exact Or.inr ⟨_, _, rfl, h2, h4⟩
      · rw [if_neg h4]
        exact Or.inl rfl
theorem qd_t64 : FP.Core.b64.tails = 4503599627370496 := by decide +kernel
theorem qd_e64 : FP.Core.b64.exps = 2048 := by decide +kernel
theorem qd_p64 : 2 ^ FP.Core.b64.p = 9007199254740992 := by decide +kernel
theorem qd_x64 : FP.Core.b64.qmax = 971 := by decide +kernel
theorem qd_n64 : FP.Core.b64.qmin = -1074 := by decide +kernel
theorem qd_t32 : FP.Core.b32.tails = 8388608 := by decide +kernel
theorem qd_e32 : FP.Core.b32.exps = 256 := by decide +kernel
theorem qd_p32 : 2 ^ FP.Core.b32.p = 16777216 := by decide +kernel
theorem qd_x32 : FP.Core.b32.qmax = 104 := by decide +kernel
theorem qd_n32 : FP.Core.b32.qmin = -149 := by decide +kernel
theorem qd_r64 (num den : Nat) (e : Int) : qdb FP.Core.b64 (FP.Core.roundRatio FP.Core.b64 false num den e) := qd_round (by rw [qd_x64, qd_n64]; decide) (by rw [qd_t64, qd_p64]; decide) num den e
theorem qd_r32 (num den : Nat) (e : Int) : qdb FP.Core.b32 (FP.Core.roundRatio FP.Core.b32 false num den e) := qd_round (by rw [qd_x32, qd_n32]; decide) (by rw [qd_t32, qd_p32]; decide) num den e
theorem qd_enc64 {d : FP.Core.Datum} (h : qdb FP.Core.b64 d) : FP.Core.encode FP.Core.b64 d ≤ 9218868437227405312 := by
  rcases h with rfl | ⟨c, q, rfl, h1, h2⟩
  · decide +kernel
  · rw [qd_p64] at h1
    rw [qd_x64] at h2
    show (if c < FP.Core.b64.tails then FP.Core.assemble FP.Core.b64 false 0 c else FP.Core.assemble FP.Core.b64 false ((q - FP.Core.b64.qmin).toNat + 1) (c - FP.Core.b64.tails)) ≤ _
    unfold FP.Core.assemble
    rw [qd_t64, qd_e64, qd_n64, Bool.toNat_false]
    by_cases h3 : c < 4503599627370496
    · rw [if_pos h3]; omega
    · rw [if_neg h3]; omega
theorem qd_enc32 {d : FP.Core.Datum} (h : qdb FP.Core.b32 d) : FP.Core.encode FP.Core.b32 d ≤ 2139095040 := by
  rcases h with rfl | ⟨c, q, rfl, h1, h2⟩
  · decide +kernel
  · rw [qd_p32] at h1
    rw [qd_x32] at h2
    show (if c < FP.Core.b32.tails then FP.Core.assemble FP.Core.b32 false 0 c else FP.Core.assemble FP.Core.b32 false ((q - FP.Core.b32.qmin).toNat + 1) (c - FP.Core.b32.tails)) ≤ _
    unfold FP.Core.assemble
    rw [qd_t32, qd_e32, qd_n32, Bool.toNat_false]
    by_cases h3 : c < 8388608
    · rw [if_pos h3]; omega
    · rw [if_neg h3]; omega
theorem qd_dec64 {n : Nat} (h : n ≤ 9218868437227405312) : qdp (FP.Core.decode FP.Core.b64 n) := by
  have hs : FP.Core.fieldS FP.Core.b64 n = false := by
    unfold FP.Core.fieldS
    rw [qd_t64, qd_e64, show n / 4503599627370496 / 2048 % 2 = 0 from by omega]
    rfl
  unfold FP.Core.decode
  rw [hs]
  by_cases h1 : FP.Core.fieldE FP.Core.b64 n = FP.Core.b64.exps - 1
  · rw [if_pos h1]
    have h2 : FP.Core.fieldT FP.Core.b64 n = 0 := by
      unfold FP.Core.fieldE at h1
      unfold FP.Core.fieldT
      rw [qd_t64, qd_e64] at h1
      rw [qd_t64]
      omega
    rw [if_pos h2]
    exact Or.inl rfl
  · rw [if_neg h1]
    by_cases h2 : FP.Core.fieldE FP.Core.b64 n = 0
    · rw [if_pos h2]; exact Or.inr ⟨_, _, rfl⟩
    · rw [if_neg h2]; exact Or.inr ⟨_, _, rfl⟩
theorem qd_dec32 {n : Nat} (h : n ≤ 2139095040) : qdp (FP.Core.decode FP.Core.b32 n) := by
  have hs : FP.Core.fieldS FP.Core.b32 n = false := by
    unfold FP.Core.fieldS
    rw [qd_t32, qd_e32, show n / 8388608 / 256 % 2 = 0 from by omega]
    rfl
  unfold FP.Core.decode
  rw [hs]
  by_cases h1 : FP.Core.fieldE FP.Core.b32 n = FP.Core.b32.exps - 1
  · rw [if_pos h1]
    have h2 : FP.Core.fieldT FP.Core.b32 n = 0 := by
      unfold FP.Core.fieldE at h1
      unfold FP.Core.fieldT
      rw [qd_t32, qd_e32] at h1
      rw [qd_t32]
      omega
    rw [if_pos h2]
    exact Or.inl rfl
  · rw [if_neg h1]
    by_cases h2 : FP.Core.fieldE FP.Core.b32 n = 0
    · rw [if_pos h2]; exact Or.inr ⟨_, _, rfl⟩
    · rw [if_neg h2]; exact Or.inr ⟨_, _, rfl⟩
theorem qd_quo64 {d : FP.Core.Datum} {c : Nat} {r : Int} (h : qdp d) (hc : c ≠ 0) : qdb FP.Core.b64 (FP.Core.quotient FP.Core.b64 d (.fin false c r)) := by
  rcases h with rfl | ⟨c2, q, rfl⟩
  · exact Or.inl rfl
  · show qdb FP.Core.b64 (if c = 0 then (if c2 = 0 then FP.Core.Datum.nan else .inf (false != false)) else FP.Core.roundRatio FP.Core.b64 (false != false) c2 c (q - r))
    rw [if_neg hc]
    exact qd_r64 c2 c (q - r)
theorem qd_quo32 {d : FP.Core.Datum} {c : Nat} {r : Int} (h : qdp d) (hc : c ≠ 0) : qdb FP.Core.b32 (FP.Core.quotient FP.Core.b32 d (.fin false c r)) := by
  rcases h with rfl | ⟨c2, q, rfl⟩
  · exact Or.inl rfl
  · show qdb FP.Core.b32 (if c = 0 then (if c2 = 0 then FP.Core.Datum.nan else .inf (false != false)) else FP.Core.roundRatio FP.Core.b32 (false != false) c2 c (q - r))
    rw [if_neg hc]
    exact qd_r32 c2 c (q - r)
def qdz : FP.Core.Datum → Bool
  | .fin s c _ => !s && c != 0
  | _ => false
theorem qdz_of : ∀ {d : FP.Core.Datum}, qdz d = true → ∃ c q, d = .fin false c q ∧ c ≠ 0
  | .nan, h => absurd h Bool.false_ne_true
  | .inf _, h => absurd h Bool.false_ne_true
  | .fin true c q, h => absurd h Bool.false_ne_true
  | .fin false c q, h => ⟨c, q, rfl, fun e => by subst e; exact absurd h Bool.false_ne_true⟩
set_option maxRecDepth 100000 in
theorem qd_den32 : ∀ m, m < 1000 → 0 < m → qdz (FP.Core.decode FP.Core.b32 (FP.i2f (nI m)).toNat) = true := by decide +kernel
theorem qd_den64 : ∀ m, m < 13 → 0 < m → qdz (FP.Core.decode FP.Core.b64 (FP.i2d (nI m)).toNat) = true := by decide +kernel
theorem qd_u64 {m : Nat} (h : m ≤ 9218868437227405312) : (UInt64.ofNat m).toNat = m := UInt64.toNat_ofNat_of_lt' (show m < 18446744073709551616 by omega)
theorem qd_u32 {m : Nat} (h : m ≤ 2139095040) : (UInt32.ofNat m).toNat = m := UInt32.toNat_ofNat_of_lt' (show m < 4294967296 by omega)
theorem qd_num32 {m : Nat} (h : m < 2147483648) : (FP.i2f (nI m)).toNat ≤ 2139095040 := by
  have e : FP.i2f (nI m) = UInt32.ofNat (FP.Core.encode FP.Core.b32 (FP.Core.roundRatio FP.Core.b32 false m 1 0)) := by
    show UInt32.ofNat (FP.Core.fromInt FP.Core.b32 (nI m).toInt) = _
    rw [nI_toInt (show m < 2 ^ 31 by omega)]
    unfold FP.Core.fromInt FP.Core.ofInt
    rw [show decide ((m : Int) < 0) = false from decide_eq_false (by omega)]
    rfl
  have h2 := qd_enc32 (qd_r32 m 1 0)
  rw [e, qd_u32 h2]
  exact h2
theorem qd_num64 {m : Nat} (h : m < 2147483648) : (FP.i2d (nI m)).toNat ≤ 9218868437227405312 := by
  have e : FP.i2d (nI m) = UInt64.ofNat (FP.Core.encode FP.Core.b64 (FP.Core.roundRatio FP.Core.b64 false m 1 0)) := by
    show UInt64.ofNat (FP.Core.fromInt FP.Core.b64 (nI m).toInt) = _
    rw [nI_toInt (show m < 2 ^ 31 by omega)]
    unfold FP.Core.fromInt FP.Core.ofInt
    rw [show decide ((m : Int) < 0) = false from decide_eq_false (by omega)]
    rfl
  have h2 := qd_enc64 (qd_r64 m 1 0)
  rw [e, qd_u64 h2]
  exact h2
theorem qd_m64 {x : UInt64} (h : x.toNat ≤ 9218868437227405312) : x &&& 0x7fffffffffffffff ≤ 0x7ff0000000000000 := by
  rw [UInt64.le_iff_toNat_le, UInt64.toNat_and]
  exact Nat.le_trans Nat.and_le_left h
theorem qd_m32 {x : UInt32} (h : x.toNat ≤ 2139095040) : x &&& 0x7fffffff ≤ 0x7f800000 := by
  rw [UInt32.le_iff_toNat_le, UInt32.toNat_and]
  exact Nat.le_trans Nat.and_le_left h
theorem qd_div64 {x y : UInt64} (hx : x.toNat ≤ 9218868437227405312) (hy : qdz (FP.Core.decode FP.Core.b64 y.toNat) = true) : (FP.ddiv x y).toNat ≤ 9218868437227405312 := by
  obtain ⟨c, q, e, hc⟩ := qdz_of hy
  have h2 := qd_enc64 (qd_quo64 (r := q) (qd_dec64 hx) hc)
  show (UInt64.ofNat (FP.Core.encode FP.Core.b64 (FP.Core.quotient FP.Core.b64 (FP.Core.decode FP.Core.b64 x.toNat) (FP.Core.decode FP.Core.b64 y.toNat)))).toNat ≤ _
  rw [e, qd_u64 h2]
  exact h2
theorem qd_div32 {x y : UInt32} (hx : x.toNat ≤ 2139095040) (hy : qdz (FP.Core.decode FP.Core.b32 y.toNat) = true) : (FP.fdiv x y).toNat ≤ 2139095040 := by
  obtain ⟨c, q, e, hc⟩ := qdz_of hy
  have h2 := qd_enc32 (qd_quo32 (r := q) (qd_dec32 hx) hc)
  show (UInt32.ofNat (FP.Core.encode FP.Core.b32 (FP.Core.quotient FP.Core.b32 (FP.Core.decode FP.Core.b32 x.toNat) (FP.Core.decode FP.Core.b32 y.toNat)))).toNat ≤ _
  rw [e, qd_u32 h2]
  exact h2
theorem qd_f2d {x : UInt32} (hx : x.toNat ≤ 2139095040) : (FP.f2d x).toNat ≤ 9218868437227405312 := by
  have hd := qd_dec32 hx
  have hn : FP.Core.fIsNaN x = false := by
    refine decide_eq_false (fun e => ?_)
    rcases hd with h | ⟨c, q, h⟩ <;> rw [e] at h <;> cases h
  have e : FP.f2d x = UInt64.ofNat (FP.Core.encode FP.Core.b64 (FP.Core.round FP.Core.b64 (FP.Core.decode FP.Core.b32 x.toNat))) := by
    unfold FP.f2d
    rw [hn]
    rfl
  have hb : qdb FP.Core.b64 (FP.Core.round FP.Core.b64 (FP.Core.decode FP.Core.b32 x.toNat)) := by
    rcases hd with h | ⟨c, q, h⟩
    · rw [h]; exact Or.inl rfl
    · rw [h]; exact qd_r64 c 1 q
  have h2 := qd_enc64 hb
  rw [e, qd_u64 h2]
  exact h2
theorem qd_cmp {x : UInt64} (hx : x.toNat ≤ 9218868437227405312) : Op.cmpValue (FP.dcmp x x) .l = 0 := by
  have hc : ∀ z : Int, compare z z = Ordering.eq := fun z => by
    show compareOfLessAndEq z z = Ordering.eq
    unfold compareOfLessAndEq
    rw [if_neg (Int.lt_irrefl z), if_pos rfl]
  have e : FP.dcmp x x = some Ordering.eq := by
    show FP.Core.order (FP.Core.decode FP.Core.b64 x.toNat) (FP.Core.decode FP.Core.b64 x.toNat) = _
    rcases qd_dec64 hx with h | ⟨c, q, h⟩
    · rw [h]; exact congrArg some (hc _)
    · rw [h]; exact congrArg some (hc _)
  rw [e]
  rfl
