/-! the class's best plan; trying all sets; members by their place -/
theorem sg_bt_r {α β σ : Type} (a : α) (t : σ) (k : α → σ → Option ((Nat ⊕ β) × σ)) : sg_bt (some (.inr a, t)) k = k a t := rfl
theorem sg_bt_l {α β σ : Type} (e : Nat) (t : σ) (k : α → σ → Option ((Nat ⊕ β) × σ)) : sg_bt (some ((.inl e : Nat ⊕ α), t)) k = some (.inl e, t) := rfl
theorem sg_bt0_r {α β : Type} (a : α) (t u : sg_St) (k : α → Option ((Nat ⊕ β) × sg_St)) : sg_bt0 (some (.inr a, t)) u k = k a := rfl
theorem sg_bt0_l {α β : Type} (e : Nat) (t u : sg_St) (k : α → Option ((Nat ⊕ β) × sg_St)) : sg_bt0 (some ((.inl e : Nat ⊕ α), t)) u k = some (.inl e, u) := rfl
/-- an ascending list of numbers from f on -/
def qasc : Nat → List Nat → Prop
  | _, [] => True
  | f, l :: r => f ≤ l ∧ qasc (l + 1) r
theorem qasc_ge : ∀ (r : List Nat) (f x : Nat), qasc f r → x ∈ r → f ≤ x
  | [], _, _, _, h => absurd h List.not_mem_nil
  | l :: r, f, x, h, hx => by
    rcases List.mem_cons.mp hx with q | q
    · rw [q]; exact h.1
    · have := qasc_ge r (l + 1) x h.2 q
      have := h.1
      omega
theorem qasc_or {f : Nat} {r : List Nat} (h : qasc f r) : (∃ r', r = f :: r' ∧ qasc (f + 1) r') ∨ (¬ f ∈ r ∧ qasc (f + 1) r) := by
  cases r with
  | nil => exact Or.inr ⟨List.not_mem_nil, trivial⟩
  | cons l r =>
    by_cases q : l = f
    · subst q; exact Or.inl ⟨r, rfl, h.2⟩
    · have h1 := h.1
      refine Or.inr ⟨fun z => ?_, by omega, h.2⟩
      rcases List.mem_cons.mp z with z | z
      · exact q z.symm
      · have := qasc_ge r (l + 1) f h.2 z
        omega
theorem qx_member {N : Nat} {s : Int32} {g : List Nat} {j : Nat} (hN : 20 < N) (hs : qS s (fun i => i ∈ g)) (hg : qasc 0 g) (h12 : ∀ x, x ∈ g → x < 12) (hj : j < g.length) (hj2 : j < 100) : fX5_memberAt N s (nI j) = some (nI (g.getD j 0)) := by
  obtain ⟨r, r1, r2⟩ := q_loop (f := fun z : Int32 × Int32 => fX5_memberAt_L4 N s (nI j) z.1 z.2) (m := 12) (N := N) (x0 := (0, 0)) (fun i z => z.2 = nI i ∧ ∃ q r, g = q ++ r ∧ z.1 = nI q.length ∧ q.length ≤ j ∧ (∀ x, x ∈ q → x < i) ∧ qasc i r) (fun r => r = nI (g.getD j 0)) (by omega) ⟨rfl, [], g, rfl, rfl, Nat.zero_le j, fun x q => absurd q List.not_mem_nil, hg⟩ (by
    rintro i ⟨c, z⟩ hi ⟨hz, q, r, h1, h2, h3, h4, h5⟩
    replace hz : z = nI i := hz
    replace h2 : c = nI q.length := h2
    subst hz; subst h2
    rcases qasc_or h5 with ⟨r', h6, h7⟩ | ⟨h6, h7⟩
    · have hm : i ∈ g := by rw [h1, h6]; exact List.mem_append.mpr (Or.inr List.mem_cons_self)
      have hb : ¬ (s >>> (nI i &&& 31) &&& 1) = 0 := fun e => by rw [q_has0 s (by omega), (hs i).mpr hm] at e; cases e
      by_cases e : q.length = j
      · refine Or.inr ⟨nI i, ?_, ?_⟩
        · show fX5_memberAt_L4 N s (nI j) (nI q.length) (nI i) = _
          unfold fX5_memberAt_L4
          rw [if_neg (q_12n hi), if_neg hb, q_ieq1 e]
        · rw [h1, h6, ← e, List.getD_eq_getElem?_getD, List.getElem?_append_right (Nat.le_refl _), Nat.sub_self]
          rfl
      · refine Or.inl ⟨(nI (q.length + 1), nI (i + 1)), ?_, rfl, q ++ [i], r', ?_, ?_, ?_, fun x hx => ?_, h7⟩
        · show fX5_memberAt_L4 N s (nI j) (nI q.length) (nI i) = _
          unfold fX5_memberAt_L4
          rw [if_neg (q_12n hi), if_neg hb, q_ieq0 (by omega) (by omega) (by omega), q_sc, q_sc]
        · rw [h1, h6, List.append_assoc]; rfl
        · show nI (q.length + 1) = _
          rw [List.length_append]; rfl
        · rw [List.length_append]
          have : [i].length = 1 := rfl
          omega
        · rcases List.mem_append.mp hx with hx | hx
          · have := h4 x hx; omega
          · rw [List.mem_singleton.mp hx]; omega
    · have hm : ¬ i ∈ g := by
        rw [h1]
        intro z
        rcases List.mem_append.mp z with z | z
        · have := h4 i z; omega
        · exact h6 z
      refine Or.inl ⟨(nI q.length, nI (i + 1)), ?_, rfl, q, r, h1, rfl, h3, fun x hx => by have := h4 x hx; omega, h7⟩
      show fX5_memberAt_L4 N s (nI j) (nI q.length) (nI i) = _
      unfold fX5_memberAt_L4
      rw [if_neg (q_12n hi), if_pos ((q_has0 s (by omega)).mpr (hs.no hm)), q_sc]) (by
    rintro ⟨c, z⟩ ⟨hz, q, r, h1, h2, h3, h4, h5⟩
    exfalso
    cases r with
    | nil =>
      rw [List.append_nil] at h1
      rw [h1] at hj
      omega
    | cons x r =>
      have := h12 x (by rw [h1]; exact List.mem_append.mpr (Or.inr List.mem_cons_self))
      have := h5.1
      omega)
  unfold fX5_memberAt
  rw [r1, r2]
theorem q_bits {x i : Nat} (hx : x < 4096) (h : qb (nI x) i = true) : i < 12 := by
  refine Classical.byContradiction (fun hi => ?_)
  have h1 : (BitVec.ofNat 32 x).getLsbD i = true := h
  rw [BitVec.getLsbD_ofNat, Nat.testBit_lt_two_pow (Nat.lt_of_lt_of_le hx (by
    have := Nat.pow_le_pow_right (n := 2) (by omega) (show 12 ≤ i by omega)
    omega)), Bool.and_false] at h1
  cases h1
section PZ
variable {N n k : Nat} {u v w : sg_St} {a b ld cap pr rt : Nat → Nat} {S B Lk Fl C0 P : Nat → Prop} {s : Int32} {l : Nat}
theorem qval_asc : ∀ (e p : List Nat) (f : Nat), qval n k a b ld cap rt S B Lk Fl C0 p f e → qasc f e
  | [], _, _, _ => trivial
  | l :: r, p, f, h => ⟨h.1, qval_asc r (p ++ [l]) (l + 1) h.2.2.2⟩
theorem qval_snoc {i : Nat} (hc : qcand B Lk Fl C0 i) : ∀ (e p : List Nat) (f : Nat), qval n k a b ld cap rt S B Lk Fl C0 p f e → (∀ x, x ∈ e → x < i) → f ≤ i → qrs n k a b ld cap rt S B Lk Fl (qcl C0 (p ++ e)) i = 110 → qval n k a b ld cap rt S B Lk Fl C0 p f (e ++ [i])
  | [], p, f, _, _, hf, hr => ⟨hf, hc, by rw [List.append_nil] at hr; exact hr, trivial⟩
  | l :: r, p, f, h, h2, hf, hr => ⟨h.1, h.2.1, h.2.2.1, qval_snoc hc r (p ++ [l]) (l + 1) h.2.2.2 (fun x q => h2 x (List.mem_cons_of_mem _ q)) (h2 l List.mem_cons_self) (by rw [List.append_assoc]; exact hr)⟩
/-- the class before it plans -/
def qZ0 (u : sg_St) (n k : Nat) (a b ld cap pr rt : Nat → Nat) (S B Lk Fl C0 : Nat → Prop) : Prop := qW u n k a b ld cap pr rt S B ∧ qS (u 4 0) C0 ∧ qS (u 5 0) Lk ∧ qS (u 6 0) Fl
theorem qx_ofPlans (hZ : qZ0 u n k a b ld cap pr rt S B Lk Fl C0) : ∃ r, fX4_ofPlans N u = some r ∧ qS r (qcand B Lk Fl C0) := by
  obtain ⟨hW, h4, h5, h6⟩ := hZ
  exact ⟨_, rfl, (hW.sB.diff ((h4.or h5).or h6)).cg (fun i => ⟨fun q => ⟨q.1, fun z => q.2 (Or.inl (Or.inl z)), fun z => q.2 (Or.inl (Or.inr z)), fun z => q.2 (Or.inr z)⟩, fun q => ⟨q.1, fun z => z.elim (fun z => z.elim q.2.1 q.2.2.1) q.2.2.2⟩⟩)⟩
theorem qcl_nil : qcl C0 [] = C0 := funext (fun m => propext ⟨fun z => z.elim id (fun z => absurd z List.not_mem_nil), Or.inl⟩)
theorem qx_startPlan (hN : 20 < N) (hZ : qZ0 u n k a b ld cap pr rt S B Lk Fl C0) (hC0 : ∀ l, C0 l → l < k) : ∃ u', fX2_startWithEmptyPlan N u = some u' ∧ (∀ j, j ≠ 7 → j ≠ 8 → j ≠ 9 → u' j = u j) ∧ qZ u' n k a b ld cap pr rt S B Lk Fl C0 ∧ qBX u' n a b ld pr S C0 [] := by
  obtain ⟨r, r1, r2⟩ := qx_ofPlans (N := N) hZ
  obtain ⟨hW, h4, h5, h6⟩ := hZ
  generalize hx : sg_set (sg_set u 7 0 r) 8 0 0 = x
  have fx : ∀ j, j ≠ 7 → j ≠ 8 → x j = u j := fun j h1 h2 => by rw [← hx, sg_set_o h2, sg_set_o h1]
  have x7 : x 7 0 = r := by rw [← hx, sg_set_o (by omega), sg_set_s, upd_s]
  have x8 : x 8 0 = 0 := by rw [← hx, sg_set_s, upd_s]
  have hZx : qZ x n k a b ld cap pr rt S B Lk Fl C0 := by
    refine ⟨hW.fr (fun j hj => fx j (by omega) (by omega)), ?_, ?_, ?_, ?_⟩
    · rw [fx 4 (by omega) (by omega)]; exact h4
    · rw [fx 5 (by omega) (by omega)]; exact h5
    · rw [fx 6 (by omega) (by omega)]; exact h6
    · rw [x7]; exact r2
  have hv := qx_val (N := N) (s := 0) (P := fun _ => False) hN hZx hC0 qS.z (fun l q => q.elim)
  have e0 : (fun m => C0 m ∨ False) = qcl C0 [] := funext (fun m => propext ⟨fun z => z.elim Or.inl (fun z => z.elim), fun z => z.elim Or.inl (fun z => absurd z List.not_mem_nil)⟩)
  rw [e0] at hv
  generalize hy : sg_set (sg_set (sg_set u 7 0 r) 8 0 0) 9 0 (nI (qworth n a b ld pr S (qcl C0 []))) = y
  have fy : ∀ j, j ≠ 9 → y j = x j := fun j h1 => by rw [← hy, sg_set_o h1, hx]
  refine ⟨y, ?_, fun j h1 h2 h3 => by rw [fy j h3, fx j h1 h2], hZx.fr (fun j _ h2 _ _ => fy j h2), ⟨?_, ?_, List.nodup_nil, fun x q => absurd q List.not_mem_nil⟩⟩
  · unfold fX2_startWithEmptyPlan
    rw [r1, q_bs, hx, hv, q_bs, ← hx, hy]
  · rw [fy 8 (by omega), x8]
    exact qS.z.cg (fun i => ⟨fun q => q.elim, fun q => absurd q List.not_mem_nil⟩)
  · rw [← hy, sg_set_s, upd_s]
theorem qx_findBest (hN : 20 < N) (hZ : qZ0 u n k a b ld cap pr rt S B Lk Fl C0) (hgd : qgood n k a b ld cap rt S C0) : ∃ u' g, fX2_findBest N u = some u' ∧ (∀ j, j ≠ 7 → j ≠ 8 → j ≠ 9 → j ≠ 17 → j ≠ 18 → u' j = u j) ∧ qBX u' n a b ld pr S C0 g ∧ qbest n k a b ld cap pr rt S B Lk Fl C0 g := by
  have hk := hZ.1.1.2.2.2.1
  have hBk := hZ.1.2.2.2.2.2.2
  obtain ⟨x, x1, x2, x3, x4⟩ := qx_startPlan (N := N) hN hZ hgd.1
  obtain ⟨u', g, y1, y2, y3, y4⟩ := qx_extend hN hgd.1 15 x 0 [] 0 [] x3 (by rw [qcl_nil]; exact hgd) (qS.z.cg (fun i => ⟨fun q => q.elim, fun q => absurd q List.not_mem_nil⟩)) List.nodup_nil (fun x q => absurd q List.not_mem_nil) (by omega) (by omega) x4
  have elen : ∀ e, qval n k a b ld cap rt S B Lk Fl C0 [] 0 e → e.length ≤ 12 := fun e h => q_len12 (qval_nd e [] 0 h) (fun x q => by have := hBk x (qval_ge e [] 0 h x q).2.1; omega)
  have hgv : qval n k a b ld cap rt S B Lk Fl C0 [] 0 g := by
    rcases y4.1 with z | ⟨e, z1, z2⟩
    · rw [z]; exact trivial
    · rw [z2]; exact z1.2
  refine ⟨u', g, ?_, fun j h1 h2 h3 h4 h5 => by rw [y2 j h2 h3 h4 h5, x2 j h1 h2 h3], y3, hgv, fun e he => ?_⟩
  · unfold fX2_findBest
    rw [x1, q_bs, show fX2_extend N 15 x 0 0 = some u' from y1]
    rfl
  · obtain ⟨t1, t2, t3, t4⟩ := y4
    by_cases q : e = []
    · subst q
      by_cases z : g = []
      · rw [z]; exact qle_rf
      · exact Or.inl (t4 z).1
    · have h1 := t3 e ⟨q, he⟩
      rw [List.nil_append] at h1
      rcases Nat.lt_or_ge (qsc n a b ld pr S C0 e) (qsc n a b ld pr S C0 g) with z | z
      · exact Or.inl z
      · have e1 : qsc n a b ld pr S C0 e = qsc n a b ld pr S C0 g := Nat.le_antisymm h1 z
        by_cases zg : g = []
        · exfalso
          rw [zg] at e1
          have := (qsc_len e1 (elen e he) (Nat.zero_le 12)).1
          exact q (List.length_eq_zero_iff.mp this)
        · have := (t4 zg).2 e ⟨q, he⟩ e1
          rw [List.nil_append] at this
          exact Or.inr ⟨e1, this⟩
theorem qx_inOrder (hN : 20 < N) (hZ : qZ u n k a b ld cap pr rt S B Lk Fl C0) (hgd : qgood n k a b ld cap rt S C0) (hs : qS s P) (hP : ∀ i, P i → qcand B Lk Fl C0 i) : ∃ r u', fX2_canBeClosedInOrder N u s = some (r, u') ∧ qfr u u' ∧ ((r = 1 ∧ ∃ e, qval n k a b ld cap rt S B Lk Fl C0 [] 0 e ∧ ∀ x, x ∈ e ↔ P x) ∨ (r = 0 ∧ ∀ e, qval n k a b ld cap rt S B Lk Fl C0 [] 0 e → ¬ ∀ x, x ∈ e ↔ P x)) := by
  have hk := hZ.1.1.2.2.2.1
  have hBk := hZ.1.2.2.2.2.2.2
  obtain ⟨r, r1, r2, r3⟩ := q_loop (f := fun z : sg_St × Int32 × Int32 => fX2_canBeClosedInOrder_L4 N z.1 s z.2.1 z.2.2) (m := 12) (N := N) (x0 := (u, 0, 0)) (fun i z => z.2.2 = nI i ∧ qfr u z.1 ∧ ∃ e : List Nat, qS z.2.1 (fun x => x ∈ e) ∧ qval n k a b ld cap rt S B Lk Fl C0 [] 0 e ∧ (∀ x, x ∈ e ↔ (P x ∧ x < i)) ∧ ∀ e', qval n k a b ld cap rt S B Lk Fl C0 [] 0 e' → (∀ x, x ∈ e' ↔ P x) → ∃ r, e' = e ++ r ∧ qval n k a b ld cap rt S B Lk Fl C0 e i r) (fun r => qfr u r.2 ∧ ((r.1 = 1 ∧ ∃ e, qval n k a b ld cap rt S B Lk Fl C0 [] 0 e ∧ ∀ x, x ∈ e ↔ P x) ∨ (r.1 = 0 ∧ ∀ e, qval n k a b ld cap rt S B Lk Fl C0 [] 0 e → ¬ ∀ x, x ∈ e ↔ P x))) (by omega) ⟨rfl, qfr.rf u, [], qS.z.cg (fun i => ⟨fun q => q.elim, fun q => absurd q List.not_mem_nil⟩), trivial, fun x => ⟨fun q => absurd q List.not_mem_nil, fun q => absurd q.2 (Nat.not_lt_zero x)⟩, fun e' h _ => ⟨e', rfl, h⟩⟩ (by
    rintro i ⟨x, dn, z⟩ hi ⟨hz, hfr, e, g1, g2, g3, g4⟩
    dsimp only at hz hfr g1
    subst hz
    have hZx : qZ x n k a b ld cap pr rt S B Lk Fl C0 := hZ.fr (fun j _ _ h3 h4 => hfr j h3 h4)
    by_cases q : P i
    · have hgd2 := qval_good hBk e [] 0 (by rw [qcl_nil]; exact hgd) g2
      rw [List.nil_append] at hgd2
      have hik := hBk i (hP i q).1
      obtain ⟨y, y1, y2⟩ := qx_reason (N := N) (c := x 4 0 ||| dn) hN hZx.1 hZx.2.2.1 hZx.2.2.2.1 (hZx.2.1.or g1) hgd2 hik
      have head : fX2_canBeClosedInOrder_L4 N x s dn (nI i) = (if qrs n k a b ld cap rt S B Lk Fl (qcl C0 e) i = 110 then some (.inl (y, dn ||| qB i, nI (i + 1))) else some (.inr (0, y))) := by
        unfold fX2_canBeClosedInOrder_L4
        rw [if_neg (q_12n hi), hs.has1 q, q_bs, q_10, y1, q_b2s, qx_bit, q_bs, q_sc]
        rfl
      have hstart : ∀ e', qval n k a b ld cap rt S B Lk Fl C0 [] 0 e' → (∀ x, x ∈ e' ↔ P x) → ∃ r, e' = e ++ i :: r ∧ qrs n k a b ld cap rt S B Lk Fl (qcl C0 e) i = 110 ∧ qval n k a b ld cap rt S B Lk Fl C0 (e ++ [i]) (i + 1) r := fun e' h1 h2 => by
        obtain ⟨r, r1, r2⟩ := g4 e' h1 h2
        rcases qval_or r2 with ⟨r', t1, t2, t3, t4⟩ | t
        · exact ⟨r', by rw [r1, t1], t3, t4⟩
        · exfalso
          have hm : i ∈ e' := (h2 i).mpr q
          rw [r1] at hm
          rcases List.mem_append.mp hm with hm | hm
          · have := ((g3 i).mp hm).2; omega
          · have := (qval_ge r e (i + 1) t i hm).1; omega
      by_cases q2 : qrs n k a b ld cap rt S B Lk Fl (qcl C0 e) i = 110
      · refine Or.inl ⟨(y, dn ||| qB i, nI (i + 1)), ?_, rfl, hfr.tr y2, e ++ [i], (g1.or (qS.bit (show i < 32 by omega))).cg (fun m => by rw [List.mem_append, List.mem_singleton]), qval_snoc (hP i q) e [] 0 g2 (fun x hx => ((g3 x).mp hx).2) (Nat.zero_le i) (by rw [List.nil_append]; exact q2), fun x => ?_, fun e' h1 h2 => ?_⟩
        · show fX2_canBeClosedInOrder_L4 N x s dn (nI i) = _
          rw [head, if_pos q2]
        · rw [List.mem_append, List.mem_singleton, g3]
          constructor
          · intro z
            rcases z with z | z
            · exact ⟨z.1, by omega⟩
            · rw [z]; exact ⟨q, by omega⟩
          · intro z
            rcases Nat.lt_or_ge x i with t | t
            · exact Or.inl ⟨z.1, t⟩
            · exact Or.inr (by omega)
        · obtain ⟨r, t1, t2, t3⟩ := hstart e' h1 h2
          exact ⟨r, by rw [t1, List.append_assoc]; rfl, t3⟩
      · refine Or.inr ⟨(0, y), ?_, hfr.tr y2, Or.inr ⟨rfl, fun e' h1 h2 => ?_⟩⟩
        · show fX2_canBeClosedInOrder_L4 N x s dn (nI i) = _
          rw [head, if_neg q2]
        · obtain ⟨r, t1, t2, t3⟩ := hstart e' h1 h2
          exact q2 t2
    · refine Or.inl ⟨(x, dn, nI (i + 1)), ?_, rfl, hfr, e, g1, g2, fun y => ?_, fun e' h1 h2 => ?_⟩
      · show fX2_canBeClosedInOrder_L4 N x s dn (nI i) = _
        unfold fX2_canBeClosedInOrder_L4
        rw [if_neg (q_12n hi), hs.has0 (by omega) q, q_bs, q_00, q_sc]
      · rw [g3]
        refine ⟨fun z => ⟨z.1, by omega⟩, fun z => ⟨z.1, ?_⟩⟩
        rcases Nat.lt_or_ge y i with t | t
        · exact t
        · have : y = i := by omega
          subst this
          exact absurd z.1 q
      · obtain ⟨r, r1, r2⟩ := g4 e' h1 h2
        rcases qval_or r2 with ⟨r', t1, t2, t3, t4⟩ | t
        · exfalso
          exact q ((h2 i).mp (by rw [r1, t1]; exact List.mem_append.mpr (Or.inr List.mem_cons_self)))
        · exact ⟨r, r1, t⟩) (by
    rintro ⟨x, dn, z⟩ ⟨hz, hfr, e, g1, g2, g3, g4⟩
    dsimp only at hz hfr g1
    subst hz
    refine ⟨(1, x), ?_, hfr, Or.inl ⟨rfl, e, g2, fun y => (g3 y).trans ⟨fun z => z.1, fun z => ⟨z, by have := hBk y (hP y z).1; omega⟩⟩⟩⟩
    show fX2_canBeClosedInOrder_L4 N x s dn (nI 12) = _
    unfold fX2_canBeClosedInOrder_L4
    rw [if_pos (show (12 : Int32) ≤ nI 12 by decide)])
  exact ⟨r.1, r.2, r1, r2, r3⟩
theorem qx_tryAll (hN : 5000 < N) (hZ : qZ0 u n k a b ld cap pr rt S B Lk Fl C0) (hgd : qgood n k a b ld cap rt S C0) : ∃ u' g, fX2_tryAllSets N u = some u' ∧ (∀ j, j ≠ 7 → j ≠ 8 → j ≠ 9 → j ≠ 17 → j ≠ 18 → u' j = u j) ∧ qBX u' n a b ld pr S C0 g ∧ qval n k a b ld cap rt S B Lk Fl C0 [] 0 g ∧ ∀ e, qval n k a b ld cap rt S B Lk Fl C0 [] 0 e → qsc n a b ld pr S C0 e ≤ qsc n a b ld pr S C0 g := by
  have hk := hZ.1.1.2.2.2.1
  have hBk := hZ.1.2.2.2.2.2.2
  obtain ⟨x, x1, x2, x3, x4⟩ := qx_startPlan (N := N) (by omega) hZ hgd.1
  obtain ⟨u', r1, r2, g, r3, r4, r5⟩ := q_loop (f := fun z : sg_St × Int32 => fX2_tryAllSets_L6 N z.1 z.2) (m := 4095) (N := N) (x0 := (x, 1)) (fun i z => z.2 = nI (i + 1) ∧ qKZ x z.1 ∧ ∃ g, qBX z.1 n a b ld pr S C0 g ∧ qval n k a b ld cap rt S B Lk Fl C0 [] 0 g ∧ ∀ e m, qval n k a b ld cap rt S B Lk Fl C0 [] 0 e → m < i + 1 → qS (nI m) (fun x => x ∈ e) → qsc n a b ld pr S C0 e ≤ qsc n a b ld pr S C0 g) (fun r => qKZ x r ∧ ∃ g, qBX r n a b ld pr S C0 g ∧ qval n k a b ld cap rt S B Lk Fl C0 [] 0 g ∧ ∀ e m, qval n k a b ld cap rt S B Lk Fl C0 [] 0 e → m < 4096 → qS (nI m) (fun x => x ∈ e) → qsc n a b ld pr S C0 e ≤ qsc n a b ld pr S C0 g) (by omega) ⟨rfl, fun _ _ _ _ _ => rfl, [], x4, trivial, fun e m h1 h2 h3 => by
    have e0 : m = 0 := by omega
    subst e0
    have : e = [] := by
      cases e with
      | nil => rfl
      | cons l r => exact absurd List.mem_cons_self (h3.eq0.mp rfl l)
    rw [this]
    exact Nat.le_refl _⟩ (by
    rintro i ⟨y, z⟩ hi ⟨hz, hfr, g, g1, g2, g3⟩
    dsimp only at hz hfr g1
    subst hz
    have hZy := x3.fr hfr
    have hbits : qS (nI (i + 1)) (fun j => qb (nI (i + 1)) j = true) := fun j => Iff.rfl
    have h4096 : ¬ (4096 : Int32) ≤ nI (i + 1) := by
      rw [show (4096 : Int32) = nI 4096 from by decide, q_le (by omega) (by omega)]
      omega
    have skip : (∀ e, qval n k a b ld cap rt S B Lk Fl C0 [] 0 e → ¬ qS (nI (i + 1)) (fun x => x ∈ e)) → ∀ e m, qval n k a b ld cap rt S B Lk Fl C0 [] 0 e → m < i + 1 + 1 → qS (nI m) (fun x => x ∈ e) → qsc n a b ld pr S C0 e ≤ qsc n a b ld pr S C0 g := fun hno e m h1 h2 h3 => by
      rcases Nat.lt_or_ge m (i + 1) with q | q
      · exact g3 e m h1 q h3
      · have : m = i + 1 := by omega
        subst this
        exact absurd h3 (hno e h1)
    refine Or.inl ?_
    show ∃ r, fX2_tryAllSets_L6 N y (nI (i + 1)) = some (.inl r) ∧ _
    unfold fX2_tryAllSets_L6
    rw [if_neg h4096]
    by_cases q : ∀ j, qb (nI (i + 1)) j = true → qcand B Lk Fl C0 j
    · rw [if_pos ((hbits.diff hZy.2.2.2.2).eq0.mpr (fun j z => z.2 (q j z.1)))]
      obtain ⟨r, w, w1, w2, w3⟩ := qx_inOrder (N := N) (by omega) hZy hgd hbits q
      have hKw : qKZ y w := fun j _ _ h3 h4 => w2 j h3 h4
      have hZw := hZy.fr hKw
      rw [w1, q_b2s]
      rcases w3 with ⟨w3, e, e1, e2⟩ | ⟨w3, w4⟩
      · have hs2 : qS (nI (i + 1)) (fun x => x ∈ e) := hbits.cg (fun j => (e2 j).symm)
        have h12 : ∀ x, x ∈ e → x < 12 := fun x hx => q_bits (show i + 1 < 4096 by omega) ((e2 x).mp hx)
        have hv := qx_val (N := N) (by omega) hZw hgd.1 hs2 (fun l hl => hBk l (qval_ge e [] 0 e1 l hl).2.1)
        obtain ⟨o, g', k1, k2, k3, k4⟩ := qx_keep (N := N) hZw (g1.fr w2) hs2 (qval_nd e [] 0 e1) h12
        rw [w3, q_10, hv, q_bs, show fX2_keepIfBetter N w (nI (i + 1)) (nI (qworth n a b ld pr S (fun m => C0 m ∨ m ∈ e))) = some o from k1, q_bs, q_sc]
        have hmono : qsc n a b ld pr S C0 g ≤ qsc n a b ld pr S C0 g' ∧ qsc n a b ld pr S C0 e ≤ qsc n a b ld pr S C0 g' ∧ qval n k a b ld cap rt S B Lk Fl C0 [] 0 g' := by
          rcases k4 with ⟨t1, t2⟩ | ⟨t1, t2⟩
          · rw [t1]; exact ⟨by omega, Nat.le_refl _, e1⟩
          · rw [t1]; exact ⟨Nat.le_refl _, by omega, g2⟩
        refine ⟨(o, nI (i + 1 + 1)), rfl, rfl, (hfr.tr hKw).tr k2, g', k3, hmono.2.2, fun e' m h1 h2 h3 => ?_⟩
        rcases Nat.lt_or_ge m (i + 1) with t | t
        · exact Nat.le_trans (g3 e' m h1 t h3) hmono.1
        · have : m = i + 1 := by omega
          subst this
          have heq : ∀ x, x ∈ e' ↔ x ∈ e := fun x => (h3 x).symm.trans (hs2 x)
          have hsc : qsc n a b ld pr S C0 e' = qsc n a b ld pr S C0 e := by
            have l1 := qc_list e' (qval_nd e' [] 0 h1) (fun x hx => h12 x ((heq x).mp hx))
            have l2 := qc_list e (qval_nd e [] 0 e1) h12
            have l3 : qc (fun i => i ∈ e') 12 = qc (fun i => i ∈ e) 12 := qc_cg (fun i _ => heq i)
            have l4 : qcl C0 e' = qcl C0 e := funext (fun m => propext ⟨fun z => z.imp id (heq m).mp, fun z => z.imp id (heq m).mpr⟩)
            unfold qsc
            rw [l4, ← l1, l3, l2]
          rw [hsc]
          exact hmono.2.1
      · rw [w3, q_00, q_sc]
        exact ⟨(w, nI (i + 1 + 1)), rfl, rfl, hfr.tr hKw, g, g1.fr w2, g2, skip (fun e h1 h2 => w4 e h1 (fun x => (h2 x).symm.trans (hbits x)))⟩
    · rw [if_neg (fun z => q (fun j hj => Classical.byContradiction (fun t => (hbits.diff hZy.2.2.2.2).eq0.mp z j ⟨hj, t⟩))), q_sc]
      refine ⟨(y, nI (i + 1 + 1)), rfl, rfl, hfr, g, g1, g2, skip (fun e h1 h2 => q (fun j hj => (qval_ge e [] 0 h1 j ((h2 j).mp hj)).2))⟩) (by
    rintro ⟨y, z⟩ ⟨hz, hfr, g, g1, g2, g3⟩
    dsimp only at hz hfr g1
    subst hz
    refine ⟨y, ?_, hfr, g, g1, g2, g3⟩
    show fX2_tryAllSets_L6 N y (nI 4096) = _
    unfold fX2_tryAllSets_L6
    rw [if_pos (show (4096 : Int32) ≤ nI 4096 by decide)])
  refine ⟨u', g, ?_, fun j h1 h2 h3 h4 h5 => by rw [r2 j h2 h3 h4 h5, x2 j h1 h2 h3], r3, r4, fun e he => ?_⟩
  · unfold fX2_tryAllSets
    rw [x1, q_bs, r1]
    rfl
  · have h12 : ∀ x, x ∈ e → x < 12 := fun x hx => by have := hBk x (qval_ge e [] 0 he x hx).2.1; omega
    have key : ∀ e : List Nat, (∀ x, x ∈ e → x < 12) → ∃ s, qS s (fun x => x ∈ e) := fun e => by
      induction e with
      | nil => exact fun _ => ⟨0, qS.z.cg (fun i => ⟨fun q => q.elim, fun q => absurd q List.not_mem_nil⟩)⟩
      | cons l r ih =>
        intro h
        obtain ⟨s, hs⟩ := ih (fun x hx => h x (List.mem_cons_of_mem _ hx))
        exact ⟨qB l ||| s, ((qS.bit (show l < 32 by have := h l List.mem_cons_self; omega)).or hs).cg (fun i => by rw [List.mem_cons])⟩
    obtain ⟨s, hs⟩ := key e h12
    obtain ⟨m, m1, m2⟩ := q_num hs h12
    subst m2
    exact r5 e m he m1 hs
end PZ
