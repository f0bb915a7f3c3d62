set_option maxRecDepth 100000 in
set_option maxHeartbeats 8000000 in
theorem sg_arr {ty : FieldType} {args : Array Value} {s : State} (hno : ∀ C, ty ≠ .object C) (hra : ∀ c9, s.vm.findClass ("[" ++ ty.toString) = some c9 → va_RA s c9 ty) (h : (Cond.arrayClass ty).before args s = true) : ∃ c9, ArrOfT s c9 ty ∧ va_RA s c9 ty := by
  obtain ⟨c9, kA, comp, hfind, hk, hkind⟩ := Cond.arrayClass_spec h
  exact ⟨c9, fun n z => ⟨fun k h => (by cases h), kA, hk, comp, hkind⟩, hra _ hfind⟩
def sg_ad (h0 : Nat) (g : Nat → Nat) : Nat → Nat
  | 0 => h0
  | k + 1 => g k
set_option maxRecDepth 100000 in
set_option maxHeartbeats 8000000 in
/-- the tables' and the premises' share of what the walk needs -/
theorem sg_facts {s : State} {b : Nat} (hts : ∀ w ∈ lw_tbl, w.before #[Value.ref b] s = true) (hgv : (Jvm.Cond.and given_1 narrow_1).before #[Value.ref b] s = true) : ∃ (D : va_G) (cA : Nat → ClassId), sg_KK D cA s ∧ sg_TT (fun q : Nat => s.heap.size ≤ q) s ∧ ∀ q ∈ sg_ncs, va_Nc q.1 q.2 s := by
  obtain ⟨c0, i0, hn0⟩ := u_known (C := RJ0) (T := TJ0) (N := 2) (n := 4) hts inJ0 (hts (.instantiable RJ0 4) (by decide +kernel))
  obtain ⟨c1, i1, hn1⟩ := u_known (C := RJx00060) (T := TJx00060) (N := 6) (n := 6) hts inJx00060 (hts (.instantiable RJx00060 6) (by decide +kernel))
  obtain ⟨c2, i2, hn2⟩ := u_known (C := RX0) (T := TX0) (N := 3) (n := 3) hts inX0 (hts (.instantiable RX0 3) (by decide +kernel))
  obtain ⟨c3, i3, hn3⟩ := u_known (C := RX1) (T := TX1) (N := 10) (n := 10) hts inX1 (hts (.instantiable RX1 10) (by decide +kernel))
  obtain ⟨c4, i4, hn4⟩ := u_known (C := RX2) (T := TX2) (N := 5) (n := 5) hts inX2 (hts (.instantiable RX2 5) (by decide +kernel))
  obtain ⟨c5, i5, hn5⟩ := u_known (C := RX3) (T := TX3) (N := 5) (n := 5) hts inX3 (hts (.instantiable RX3 5) (by decide +kernel))
  obtain ⟨c6, i6, hn6⟩ := u_known (C := RX4) (T := TX4) (N := 5) (n := 5) hts inX4 (hts (.instantiable RX4 5) (by decide +kernel))
  obtain ⟨c7, i7, hn7⟩ := u_known (C := RX5) (T := TX5) (N := 6) (n := 6) hts inX5 (hts (.instantiable RX5 6) (by decide +kernel))
  obtain ⟨a0, ha0, hr0⟩ := sg_arr (ty := .int) (by intro C h; cases h) (fun _ h => h) (hts (.arrayClass .int) (by decide +kernel))
  have hs := flat_of_before _ hgv
  refine ⟨(fun k => [c0, c1, c2, c3, c4, c5, c6, c7].getD k c0, fun k => [i0, i1, i2, i3, i4, i5, i6, i7].getD k i0), fun k => [a0].getD k a0, ⟨⟨?_, ?_⟩, ?_⟩, ⟨?_, ?_, ?_, ?_, ?_⟩, ?_⟩
  · intro k q hq
    match k, hq with
    | 0, hq => cases hq; exact hn0
    | 1, hq => cases hq; exact hn1
    | 2, hq => cases hq; exact hn2
    | 3, hq => cases hq; exact hn3
    | 4, hq => cases hq; exact hn4
    | 5, hq => cases hq; exact hn5
    | 6, hq => cases hq; exact hn6
    | 7, hq => cases hq; exact hn7
    | k + 8, hq => simp [vwCl] at hq
  · intro k q hq
    match k, hq with
    | 0, hq => cases hq; exact ⟨ha0, hr0⟩
    | k + 1, hq => simp [sg_ty] at hq
  · exact fun w hw => va_Nw.of (sg_nw_t w hw) (hts w ((by decide +kernel : ∀ w ∈ sg_nw, w ∈ lw_tbl) w hw))
  · exact vx_Zqof (hts (.laysStatic Bundle.tN "UNASSIGNED_STACK" Bundle.steD) (by decide +kernel)) (hts (.initialized Bundle.tN) (by decide +kernel)) (hs (.isRef (.static Bundle.tN "UNASSIGNED_STACK" Bundle.steD)) (by decide +kernel)) (fun a h1 h2 => absurd h1 (Nat.not_lt.mpr h2))
  · exact vx_Zqof (hts (.laysStatic Bundle.tN "SUPPRESSED_SENTINEL" Bundle.listD) (by decide +kernel)) (hts (.initialized Bundle.tN) (by decide +kernel)) (hs (.isRef (.static Bundle.tN "SUPPRESSED_SENTINEL" Bundle.listD)) (by decide +kernel)) (fun a h1 h2 => absurd h1 (Nat.not_lt.mpr h2))
  · intro q hq
    have h1 := hts (.stringRef RX5 q.1 q.2) ((by decide +kernel : ∀ q ∈ sg_strs, Cond.stringRef RX5 q.1 q.2 ∈ lw_tbl) q hq)
    have h2 := hs (.exactly (.string RX5 q.1) "java/lang/String") ((by decide +kernel : ∀ q ∈ sg_strs, Cond.exactly (.string RX5 q.1) "java/lang/String" ∈ flatC (Jvm.Cond.and given_1 narrow_1)) q hq)
    obtain ⟨a, c, cA, kA, q1, q2, q3, q4, q5, q6, -⟩ := Cond.exactly_spec (args := #[Value.ref b]) (first := s) (o := none) (s := s) (idx := []) (t := .string RX5 q.1) (cls := "java/lang/String") h2
    exact ⟨a, vk_R.of h1 q1⟩
  · exact fun q hq => va_Nw.of rfl (hts (.castable q.2 q.2) ((by decide +kernel : ∀ q ∈ sg_ex, Cond.castable q.2 q.2 ∈ lw_tbl) q hq))
  · exact fun q hq => va_Nw.of rfl (hts (.declares q) ((by decide +kernel : ∀ q ∈ sg_dc, Cond.declares q ∈ lw_tbl) q hq))
  · exact fun q hq => va_Nc.of (hs (.not (.castable q.1 q.2)) ((by decide +kernel : ∀ q ∈ sg_ncs, Cond.not (.castable q.1 q.2) ∈ flatC (Jvm.Cond.and given_1 narrow_1)) q hq))
