/-! counting bits; plans as lists -/
def qbc (s : Int32) : Nat → Nat
  | 0 => 0
  | n + 1 => qbc s n + (if qb s n = true then 1 else 0)
theorem qbc_qc {s : Int32} {P : Nat → Prop} (h : qS s P) : ∀ n, qbc s n = qc P n
  | 0 => rfl
  | n + 1 => by
    show qbc s n + (if qb s n = true then 1 else 0) = qs (fun _ => 1) P (n + 1)
    rw [qbc_qc h n]
    by_cases q : P n
    · rw [if_pos ((h n).mpr q), qs_s1 q]; rfl
    · rw [if_neg (fun z => q ((h n).mp z)), qs_s0 q]; rfl
set_option maxRecDepth 100000 in
theorem q_bc0 : ∀ m, m < 1024 → fJ6_bitCount_0f7a4 0 (nI m) = some (nI (qbc (nI m) 12)) := by decide +kernel
set_option maxRecDepth 100000 in
theorem q_bc1 : ∀ m, m < 1024 → fJ6_bitCount_0f7a4 0 (nI (m + 1024)) = some (nI (qbc (nI (m + 1024)) 12)) := by decide +kernel
set_option maxRecDepth 100000 in
theorem q_bc2 : ∀ m, m < 1024 → fJ6_bitCount_0f7a4 0 (nI (m + 2048)) = some (nI (qbc (nI (m + 2048)) 12)) := by decide +kernel
set_option maxRecDepth 100000 in
theorem q_bc3 : ∀ m, m < 1024 → fJ6_bitCount_0f7a4 0 (nI (m + 3072)) = some (nI (qbc (nI (m + 3072)) 12)) := by decide +kernel
theorem q_bc {m : Nat} (h : m < 4096) : fJ6_bitCount_0f7a4 0 (nI m) = some (nI (qbc (nI m) 12)) := by
  by_cases h1 : m < 1024
  · exact q_bc0 m h1
  by_cases h2 : m < 2048
  · have := q_bc1 (m - 1024) (by omega)
    rw [show m - 1024 + 1024 = m by omega] at this
    exact this
  by_cases h3 : m < 3072
  · have := q_bc2 (m - 2048) (by omega)
    rw [show m - 2048 + 2048 = m by omega] at this
    exact this
  · have := q_bc3 (m - 3072) (by omega)
    rw [show m - 3072 + 3072 = m by omega] at this
    exact this
theorem q_num {s : Int32} {P : Nat → Prop} (h : qS s P) (hP : ∀ i, P i → i < 12) : ∃ m, m < 4096 ∧ s = nI m := by
  refine ⟨s.toBitVec.toNat, ?_, ?_⟩
  · refine Nat.lt_pow_two_of_testBit (n := 12) _ (fun i hi => ?_)
    have : qb s i = false := h.no (fun q => by have := hP i q; omega)
    exact this
  · refine Int32.toBitVec_inj.mp ?_
    show s.toBitVec = (Int32.ofNat s.toBitVec.toNat).toBitVec
    rw [Int32.toBitVec_ofNat', BitVec.ofNat_toNat, BitVec.setWidth_eq]
theorem qx_count {s : Int32} {P : Nat → Prop} (N : Nat) (h : qS s P) (hP : ∀ i, P i → i < 12) : fJ6_bitCount_0f7a4 N s = some (nI (qc P 12)) := by
  obtain ⟨m, h1, h2⟩ := q_num h hP
  rw [← qbc_qc h 12]
  subst h2
  exact q_bc h1
theorem q_below : ∀ l, l < 12 → ∀ i, i < 32 → qb (qB l - 1) i = decide (i < l) := by decide +kernel
theorem qS.below {l : Nat} (hl : l < 12) : qS (qB l - 1) (fun i => i < l) := fun i => by
  rcases Nat.lt_or_ge i 32 with q | q
  · rw [q_below l hl i q, decide_eq_true_iff]
  · rw [qb_big q]
    exact ⟨fun z => Bool.noConfusion z, fun z => by omega⟩
/-- where one list comes before another -/
def qlex : List Nat → List Nat → Prop
  | x :: r, y :: s => x < y ∨ (x = y ∧ qlex r s)
  | _, _ => False
theorem qlex_ir : ∀ p, ¬ qlex p p
  | [], h => h
  | x :: r, h => h.elim (fun q => Nat.lt_irrefl x q) (fun q => qlex_ir r q.2)
theorem qlex_as : ∀ p q, qlex p q → qlex q p → False
  | [], _, h, _ => h
  | x :: r, [], h, _ => h
  | x :: r, y :: s, h, h2 => by
    rcases h with h | ⟨h, h3⟩ <;> rcases h2 with h2 | ⟨h2, h4⟩
    · omega
    · omega
    · omega
    · exact qlex_as r s h3 h4
theorem qlex_tr : ∀ p q r, qlex p q → qlex q r → qlex p r
  | [], _, _, h, _ => h.elim
  | x :: p, [], _, h, _ => h.elim
  | x :: p, y :: q, [], _, h => h.elim
  | x :: p, y :: q, z :: r, h, h2 => by
    rcases h with h | ⟨h, h3⟩ <;> rcases h2 with h2 | ⟨h2, h4⟩
    · exact Or.inl (by omega)
    · exact Or.inl (by omega)
    · exact Or.inl (by omega)
    · exact Or.inr ⟨h.trans h2, qlex_tr p q r h3 h4⟩
theorem qlex_to : ∀ p q : List Nat, p.length = q.length → p = q ∨ qlex p q ∨ qlex q p
  | [], [], _ => Or.inl rfl
  | [], _ :: _, h => by cases h
  | _ :: _, [], h => by cases h
  | x :: p, y :: q, h => by
    rcases Nat.lt_trichotomy x y with g | g | g
    · exact Or.inr (Or.inl (Or.inl g))
    · subst g
      rcases qlex_to p q (Nat.succ.inj h) with e | e | e
      · exact Or.inl (by rw [e])
      · exact Or.inr (Or.inl (Or.inr ⟨rfl, e⟩))
      · exact Or.inr (Or.inr (Or.inr ⟨rfl, e⟩))
    · exact Or.inr (Or.inr (Or.inl g))
theorem qlex_at {x y : Nat} (h : x < y) (r s : List Nat) : ∀ p : List Nat, qlex (p ++ x :: r) (p ++ y :: s)
  | [] => Or.inl h
  | z :: p => Or.inr ⟨rfl, qlex_at h r s p⟩
/-- which positions of a list are where: the bits of an ascending list -/
theorem qc_list : ∀ (L : List Nat), L.Nodup → (∀ x, x ∈ L → x < 12) → qc (fun i => i ∈ L) 12 = L.length
  | [], _, _ => qs_no (fun i _ q => absurd q List.not_mem_nil)
  | x :: r, h, h2 => by
    have h3 := List.nodup_cons.mp h
    rw [List.length_cons, ← qc_list r h3.2 (fun y q => h2 y (List.mem_cons_of_mem _ q)), ← qc_add (h2 x List.mem_cons_self) h3.1]
    exact qc_cg (fun i _ => by rw [List.mem_cons]; exact ⟨Or.symm, Or.symm⟩)
section PL
variable {n k : Nat} {a b ld cap pr rt : Nat → Nat} {S B Lk Fl C0 : Nat → Prop}
/-- what is closed with a plan -/
def qcl (C0 : Nat → Prop) (p : List Nat) : Nat → Prop := fun m => C0 m ∨ m ∈ p
/-- the lines of which plans can consist -/
def qcand (B Lk Fl C0 : Nat → Prop) (l : Nat) : Prop := B l ∧ ¬ C0 l ∧ ¬ Lk l ∧ ¬ Fl l
/-- e goes on a plan p with lines from a number on, each of which can be closed in its turn -/
def qval (n k : Nat) (a b ld cap rt : Nat → Nat) (S B Lk Fl C0 : Nat → Prop) : List Nat → Nat → List Nat → Prop
  | _, _, [] => True
  | p, f, l :: r => f ≤ l ∧ qcand B Lk Fl C0 l ∧ qrs n k a b ld cap rt S B Lk Fl (qcl C0 p) l = 110 ∧ qval n k a b ld cap rt S B Lk Fl C0 (p ++ [l]) (l + 1) r
noncomputable def qworth (n : Nat) (a b ld pr : Nat → Nat) (S C : Nat → Prop) : Nat := qs (fun i => ld i * pr i) (qg_L a b S C) n
/-- the more the better: worth first, then few lines -/
noncomputable def qsc (n : Nat) (a b ld pr : Nat → Nat) (S C0 : Nat → Prop) (p : List Nat) : Nat := qworth n a b ld pr S (qcl C0 p) * 13 + 12 - p.length
theorem qworth_mo {C C' : Nat → Prop} (h : ∀ l, C l → C' l) : qworth n a b ld pr S C ≤ qworth n a b ld pr S C' :=
  qs_le (fun i _ q => by obtain ⟨s, h1, h2⟩ := q; exact ⟨s, h1, qg_mo h h2⟩)
theorem qworth_bd {C : Nat → Prop} (h : ∀ i, i < n → ld i ≤ 99 ∧ pr i ≤ 9) (hn : n ≤ 10) : qworth n a b ld pr S C ≤ 8910 := by
  have := qs_bd (f := fun i => ld i * pr i) (P := qg_L a b S C) (c := 891) (n := n) (fun i hi _ => Nat.mul_le_mul (h i hi).1 (h i hi).2)
  unfold qworth
  omega
theorem qval_ge : ∀ (e p : List Nat) (f : Nat), qval n k a b ld cap rt S B Lk Fl C0 p f e → ∀ x, x ∈ e → f ≤ x ∧ qcand B Lk Fl C0 x
  | [], _, _, _, x, h => absurd h List.not_mem_nil
  | l :: r, p, f, h, x, hx => by
    obtain ⟨h1, h2, h3, h4⟩ := h
    rcases List.mem_cons.mp hx with q | q
    · rw [q]; exact ⟨h1, h2⟩
    · have := qval_ge r (p ++ [l]) (l + 1) h4 x q
      exact ⟨by omega, this.2⟩
theorem qval_nd : ∀ (e p : List Nat) (f : Nat), qval n k a b ld cap rt S B Lk Fl C0 p f e → e.Nodup
  | [], _, _, _ => List.nodup_nil
  | l :: r, p, f, h => List.nodup_cons.mpr ⟨fun q => by have := (qval_ge r (p ++ [l]) (l + 1) h.2.2.2 l q).1; omega, qval_nd r (p ++ [l]) (l + 1) h.2.2.2⟩
theorem qval_mo {f f' : Nat} (hf : f' ≤ f) : ∀ (e p : List Nat), qval n k a b ld cap rt S B Lk Fl C0 p f e → qval n k a b ld cap rt S B Lk Fl C0 p f' e
  | [], _, _ => trivial
  | l :: r, p, h => ⟨by have := h.1; omega, h.2⟩
theorem qval_or {f : Nat} {p e : List Nat} (h : qval n k a b ld cap rt S B Lk Fl C0 p f e) : (∃ r, e = f :: r ∧ qcand B Lk Fl C0 f ∧ qrs n k a b ld cap rt S B Lk Fl (qcl C0 p) f = 110 ∧ qval n k a b ld cap rt S B Lk Fl C0 (p ++ [f]) (f + 1) r) ∨ qval n k a b ld cap rt S B Lk Fl C0 p (f + 1) e := by
  cases e with
  | nil => exact Or.inr trivial
  | cons l r =>
    by_cases q : l = f
    · subst q; exact Or.inl ⟨r, rfl, h.2.1, h.2.2.1, h.2.2.2⟩
    · exact Or.inr ⟨by have := h.1; omega, h.2⟩
theorem qcl_snoc {p : List Nat} {l : Nat} : ∀ m, qcl C0 (p ++ [l]) m ↔ qg_add (qcl C0 p) l m := fun m => by
  unfold qcl qg_add
  rw [List.mem_append, List.mem_singleton]
  exact ⟨fun q => q.elim (fun q => Or.inl (Or.inl q)) (fun q => q.elim (fun q => Or.inl (Or.inr q)) Or.inr), fun q => q.elim (fun q => q.elim Or.inl (fun q => Or.inr (Or.inl q))) (fun q => Or.inr (Or.inr q))⟩
theorem qgood_snoc {p : List Nat} {l : Nat} (hg : qgood n k a b ld cap rt S (qcl C0 p)) (hl : l < k) (h : qrs n k a b ld cap rt S B Lk Fl (qcl C0 p) l = 110) : qgood n k a b ld cap rt S (qcl C0 (p ++ [l])) :=
  qgood_cg (qgood_close hg hl h) qcl_snoc
theorem qval_good (hBk : ∀ l, B l → l < k) : ∀ (e p : List Nat) (f : Nat), qgood n k a b ld cap rt S (qcl C0 p) → qval n k a b ld cap rt S B Lk Fl C0 p f e → qgood n k a b ld cap rt S (qcl C0 (p ++ e))
  | [], p, _, hg, _ => by rw [List.append_nil]; exact hg
  | l :: r, p, f, hg, h => by
    have := qval_good hBk r (p ++ [l]) (l + 1) (qgood_snoc hg (hBk l h.2.1.1) h.2.2.1) h.2.2.2
    rw [List.append_assoc] at this
    exact this
theorem qsc_len {p q : List Nat} (h : qsc n a b ld pr S C0 p = qsc n a b ld pr S C0 q) (hp : p.length ≤ 12) (hq : q.length ≤ 12) : p.length = q.length ∧ qworth n a b ld pr S (qcl C0 p) = qworth n a b ld pr S (qcl C0 q) := by
  unfold qsc at h
  omega
/-- p doesn't come before q in the order of plans -/
def qle (n : Nat) (a b ld pr : Nat → Nat) (S C0 : Nat → Prop) (p q : List Nat) : Prop := qsc n a b ld pr S C0 p < qsc n a b ld pr S C0 q ∨ (qsc n a b ld pr S C0 p = qsc n a b ld pr S C0 q ∧ (p = q ∨ qlex q p))
theorem qle_rf {p : List Nat} : qle n a b ld pr S C0 p p := Or.inr ⟨rfl, Or.inl rfl⟩
theorem qle_tr {p q r : List Nat} (h : qle n a b ld pr S C0 p q) (h2 : qle n a b ld pr S C0 q r) : qle n a b ld pr S C0 p r := by
  rcases h with h | ⟨h, h3⟩ <;> rcases h2 with h2 | ⟨h2, h4⟩
  · exact Or.inl (by omega)
  · exact Or.inl (by omega)
  · exact Or.inl (by omega)
  · refine Or.inr ⟨by omega, ?_⟩
    rcases h3 with h3 | h3 <;> rcases h4 with h4 | h4
    · exact Or.inl (h3.trans h4)
    · subst h3; exact Or.inr h4
    · subst h4; exact Or.inr h3
    · exact Or.inr (qlex_tr _ _ _ h4 h3)
theorem qle_as {p q : List Nat} (h : qle n a b ld pr S C0 p q) (h2 : qle n a b ld pr S C0 q p) : p = q := by
  rcases h with h | ⟨h, h3⟩ <;> rcases h2 with h2 | ⟨h2, h4⟩
  · omega
  · omega
  · omega
  · rcases h3 with h3 | h3
    · exact h3
    · rcases h4 with h4 | h4
      · exact h4.symm
      · exact (qlex_as _ _ h3 h4).elim
/-- the best plan -/
def qbest (n k : Nat) (a b ld cap pr rt : Nat → Nat) (S B Lk Fl C0 : Nat → Prop) (p : List Nat) : Prop := qval n k a b ld cap rt S B Lk Fl C0 [] 0 p ∧ ∀ e, qval n k a b ld cap rt S B Lk Fl C0 [] 0 e → qle n a b ld pr S C0 e p
theorem qbest_un {p q : List Nat} (h : qbest n k a b ld cap pr rt S B Lk Fl C0 p) (h2 : qbest n k a b ld cap pr rt S B Lk Fl C0 q) : p = q := qle_as (h2.2 p h.1) (h.2 q h2.1)
end PL
