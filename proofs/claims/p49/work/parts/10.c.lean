/-! p49: the calls that change something -/
section PC
variable {N n k : Nat} {u v u' v' w : sg_St} {a b ld cap pr rt pk mu ins lab : Nat → Nat} {S B C C' Lk Fl Lk' Fl' : Nat → Prop} {l x m t s : Nat}
theorem q_rng {lo hi c : Nat} (h1 : lo ≤ c) (h2 : c ≤ hi) (h3 : hi < 2147483648) : ¬ nI c < nI lo ∧ nI c ≤ nI hi := ⟨fun q => by rw [q_lt (by omega) (by omega)] at q; omega, (q_le (by omega) h3).mpr h2⟩
theorem qK.sw (h : qK n k a b ld cap pr rt pk mu ins S B C Lk Fl u) (F : ∀ j, j < 4 ∨ (10 < j ∧ j < 17) ∨ 18 < j → u' j = u j) (h4 : qS (u' 4 0) C') (h5 : qS (u' 5 0) Lk') (h6 : qS (u' 6 0) Fl') (hg : qgood n k a b ld cap rt S C') (hL : ∀ l, Lk' l → l < k) (hF : ∀ l, Fl' l → l < k) : qK n k a b ld cap pr rt pk mu ins S B C' Lk' Fl' u' := by
  obtain ⟨h1, -, q5, q7, -, -, -⟩ := h
  refine ⟨h1.fr (fun j hj => F j (by omega)), ⟨h4, h5, h6⟩, fun l hl => ?_, q7, hg, hL, hF⟩
  rw [F 19 (by omega), F 20 (by omega), F 21 (by omega)]; exact q5 l hl
theorem qJ.Lb (h : qJ n k a b ld cap pr rt pk mu ins S B C Lk Fl u v) : ∀ l, Lk l → l < k := h.2.2.2.2.2.2.2.2.1
theorem qJ.Fb (h : qJ n k a b ld cap pr rt pk mu ins S B C Lk Fl u v) : ∀ l, Fl l → l < k := h.2.2.2.2.2.2.2.2.2.1
-- closing
theorem hl_canClose (hN : 20 < N) (hJ : qJ n k a b ld cap pr rt pk mu ins S B C Lk Fl u v) (hl : l < k) : ∃ u', fL_canClose N u (nI l) = some (qrs n k a b ld cap rt S B Lk Fl C l, u') ∧ qFX u u' := by
  obtain ⟨u', e1, e2⟩ := qx_reason (N := N) hN hJ.1 hJ.Ls hJ.Fs hJ.Cs hJ.gd hl
  refine ⟨u', ?_, qFX.of e2⟩
  unfold fL_canClose fX5_canClose
  rw [qx_nL hJ.1.1 hl, sg_bt_r, e1, q_b2s, qrs_char, q_gt]; rfl
theorem hl_canClosek (hJ : qJ n k a b ld cap pr rt pk mu ins S B C Lk Fl u v) : fL_canClose N u (nI k) = some (-75, u) := by
  unfold fL_canClose fX5_canClose
  rw [qx_nLk hJ.1.1]; rfl
theorem hl_closek (hJ : qJ n k a b ld cap pr rt pk mu ins S B C Lk Fl u v) : fL_close N u (nI k) = some (-75, u) := by
  unfold fL_close fX5_close
  rw [qx_nLk hJ.1.1]; rfl
theorem hl_close1 (hN : 20 < N) (hJ : qJ n k a b ld cap pr rt pk mu ins S B C Lk Fl u v) (hl : l < k) (q : qrs n k a b ld cap rt S B Lk Fl C l = 110) : ∃ u', fL_close N u (nI l) = some (110, u') ∧ qK n k a b ld cap pr rt pk mu ins S B (qg_add C l) Lk Fl u' ∧ u' 10 0 = u 10 0 := by
  have hk := hJ.k12
  obtain ⟨u', e1, e2⟩ := qx_reason (N := N) hN hJ.1 hJ.Ls hJ.Fs hJ.Cs hJ.gd hl
  have hJ' := hJ.fr (qFX.of e2) (qFM.rf v)
  refine ⟨sg_set u' 4 0 (u' 4 0 ||| qB l), ?_, (qK.of hJ').sw (fun j hj => sg_set_o (by omega)) ?_ ?_ ?_ (qgood_close hJ.gd hl q) hJ.Lb hJ.Fb, ?_⟩
  · unfold fL_close fX5_close
    rw [qx_nL hJ.1.1 hl, sg_bt_r, e1, q_b2s, if_pos q, qx_bit, q_bs]
    unfold fX4_closeAll
    rw [q_bs, qrs_char, q_gt, q]; rfl
  · rw [sg_set_s, upd_s]; exact hJ'.Cs.or (qS.bit (by omega))
  · rw [sg_set_o (by omega)]; exact hJ'.Ls
  · rw [sg_set_o (by omega)]; exact hJ'.Fs
  · rw [sg_set_o (by omega), e2 10 (by omega) (by omega)]
theorem hl_close0 (hN : 20 < N) (hJ : qJ n k a b ld cap pr rt pk mu ins S B C Lk Fl u v) (hl : l < k) (q : ¬ qrs n k a b ld cap rt S B Lk Fl C l = 110) : ∃ u', fL_close N u (nI l) = some (qrs n k a b ld cap rt S B Lk Fl C l, u') ∧ qFX u u' := by
  obtain ⟨u', e1, e2⟩ := qx_reason (N := N) hN hJ.1 hJ.Ls hJ.Fs hJ.Cs hJ.gd hl
  refine ⟨u', ?_, qFX.of e2⟩
  unfold fL_close fX5_close
  rw [qx_nL hJ.1.1 hl, sg_bt_r, e1, q_b2s, if_neg q, qrs_char, q_gt]; rfl
theorem qrs_c (h : C l) : qrs n k a b ld cap rt S B Lk Fl C l = 99 := by
  unfold qrs
  exact qite_1 h
-- opening
theorem hl_canOpen (hN : 20 < N) (hJ : qJ n k a b ld cap pr rt pk mu ins S B C Lk Fl u v) (hl : l < k) : ∃ u', fL_canOpen N u (nI l) = some (qro a b ld n S B C l, u') ∧ qFX u u' := by
  obtain ⟨u', e1, e2⟩ := qx_open (N := N) hN hJ hl
  refine ⟨u', ?_, qFX.of e2⟩
  unfold fL_canOpen fX5_canOpen
  rw [qx_nL hJ.1.1 hl, sg_bt_r, e1, q_b2s, qro_char, q_gt]; rfl
theorem hl_canOpenk (hJ : qJ n k a b ld cap pr rt pk mu ins S B C Lk Fl u v) : fL_canOpen N u (nI k) = some (-75, u) := by
  unfold fL_canOpen fX5_canOpen
  rw [qx_nLk hJ.1.1]; rfl
theorem hl_openk (hJ : qJ n k a b ld cap pr rt pk mu ins S B C Lk Fl u v) : fL_open N u (nI k) = some (-75, u) := by
  unfold fL_open fX5_open
  rw [qx_nLk hJ.1.1]; rfl
theorem hl_open1 (hN : 20 < N) (hJ : qJ n k a b ld cap pr rt pk mu ins S B C Lk Fl u v) (hl : l < k) (q : qro a b ld n S B C l = 110) : ∃ u', fL_open N u (nI l) = some (110, u') ∧ qK n k a b ld cap pr rt pk mu ins S B (fun m => C m ∧ ¬ m = l) Lk Fl u' ∧ u' 10 0 = u 10 0 := by
  have hk := hJ.k12
  obtain ⟨u', e1, e2⟩ := qx_open (N := N) hN hJ hl
  have hJ' := hJ.fr (qFX.of e2) (qFM.rf v)
  refine ⟨sg_set u' 4 0 (u' 4 0 &&& (qB l ^^^ (-1))), ?_, (qK.of hJ').sw (fun j hj => sg_set_o (by omega)) ?_ ?_ ?_ (qgood_open hJ.gd (fun m z => z.1)) hJ.Lb hJ.Fb, ?_⟩
  · unfold fL_open fX5_open
    rw [qx_nL hJ.1.1 hl, sg_bt_r, e1, q_b2s, if_pos q, qx_bit, q_bs]
    unfold fX4_openAll
    rw [q_bs, qro_char, q_gt, q]; rfl
  · rw [sg_set_s, upd_s]; exact hJ'.Cs.diff (qS.bit (by omega))
  · rw [sg_set_o (by omega)]; exact hJ'.Ls
  · rw [sg_set_o (by omega)]; exact hJ'.Fs
  · rw [sg_set_o (by omega), e2 10 (by omega) (by omega)]
theorem hl_open0 (hN : 20 < N) (hJ : qJ n k a b ld cap pr rt pk mu ins S B C Lk Fl u v) (hl : l < k) (q : ¬ qro a b ld n S B C l = 110) : ∃ u', fL_open N u (nI l) = some (qro a b ld n S B C l, u') ∧ qFX u u' := by
  obtain ⟨u', e1, e2⟩ := qx_open (N := N) hN hJ hl
  refine ⟨u', ?_, qFX.of e2⟩
  unfold fL_open fX5_open
  rw [qx_nL hJ.1.1 hl, sg_bt_r, e1, q_b2s, if_neg q, qro_char, q_gt]; rfl
theorem qro_c (h : ¬ C l) : qro a b ld n S B C l = 99 := by
  unfold qro
  exact qite_1 h
-- repair and reset
theorem hl_repairk (hJ : qJ n k a b ld cap pr rt pk mu ins S B C Lk Fl u v) : fL_repair N u (nI k) = some (-75, u) := by
  unfold fL_repair fX5_repair
  rw [qx_nLk hJ.1.1]; rfl
theorem hl_repair0 (hJ : qJ n k a b ld cap pr rt pk mu ins S B C Lk Fl u v) (hl : l < k) (q1 : ¬ Fl l) : fL_repair N u (nI l) = some (-79, u) := by
  have hk := hJ.k12
  unfold fL_repair fX5_repair
  rw [qx_nL hJ.1.1 hl, sg_bt_r, hJ.Fs.has0 (by omega) q1, q_bs, q_00]; rfl
theorem hl_repair1 (hJ : qJ n k a b ld cap pr rt pk mu ins S B C Lk Fl u v) (hl : l < k) (q1 : Fl l) : ∃ u', fL_repair N u (nI l) = some (qt (Lk l), u') ∧ qK n k a b ld cap pr rt pk mu ins S B C Lk (fun m => Fl m ∧ ¬ m = l) u' ∧ u' 10 0 = u 10 0 := by
  have hk := hJ.k12
  refine ⟨sg_set u 6 0 (u 6 0 &&& (qB l ^^^ (-1))), ?_, (qK.of hJ).sw (fun j hj => sg_set_o (by omega)) (by rw [sg_set_o (by omega)]; exact hJ.Cs) (by rw [sg_set_o (by omega)]; exact hJ.Ls) (by rw [sg_set_s, upd_s]; exact hJ.Fs.diff (qS.bit (by omega))) hJ.gd hJ.Lb (fun m z => hJ.Fb m z.1), sg_set_o (u := u) (show (10 : Nat) ≠ 6 by omega) ▸ rfl⟩
  unfold fL_repair fX5_repair
  rw [qx_nL hJ.1.1 hl, sg_bt_r, hJ.Fs.has1 q1, q_bs, q_10, qx_bit, q_bs, sg_set_o (by omega), q_flag hJ.Ls (by omega) Iff.rfl, sg_hc_r, q_qb]; rfl
theorem hl_resetk (hJ : qJ n k a b ld cap pr rt pk mu ins S B C Lk Fl u v) : fL_reset N u (nI k) = some (-75, u) := by
  unfold fL_reset fX5_reset
  rw [qx_nLk hJ.1.1]; rfl
theorem hl_reset0 (hJ : qJ n k a b ld cap pr rt pk mu ins S B C Lk Fl u v) (hl : l < k) (q : Fl l ∨ ¬ Lk l) : ∃ r : Int32, fL_reset N u (nI l) = some (r, u) ∧ r < 0 := by
  have hk := hJ.k12
  unfold fL_reset fX5_reset
  rw [qx_nL hJ.1.1 hl, sg_bt_r]
  by_cases q1 : Fl l
  · rw [hJ.Fs.has1 q1, q_bs, q_10]
    exact ⟨-76, rfl, by decide⟩
  · rw [hJ.Fs.has0 (by omega) q1, q_bs, q_00, hJ.Ls.has0 (by omega) (q.resolve_left q1), q_bs, q_00]
    exact ⟨-79, rfl, by decide⟩
theorem hl_reset1 (hJ : qJ n k a b ld cap pr rt pk mu ins S B C Lk Fl u v) (hl : l < k) (q1 : ¬ Fl l) (q2 : Lk l) : ∃ (r : Nat) (u' : sg_St), r ≤ 12 ∧ fL_reset N u (nI l) = some (nI r, u') ∧ qK n k a b ld cap pr rt pk mu ins S B C (fun m => Lk m ∧ ¬ m = l) Fl u' ∧ u' 10 0 = u 10 0 := by
  have hk := hJ.k12
  have hLs : qS (u 5 0 &&& (qB l ^^^ (-1))) (fun m => Lk m ∧ ¬ m = l) := hJ.Ls.diff (qS.bit (by omega))
  have hLb : ∀ m, (Lk m ∧ ¬ m = l) → m < k := fun m z => hJ.Lb m z.1
  refine ⟨qc (fun m => Lk m ∧ ¬ m = l) 12, sg_set u 5 0 (u 5 0 &&& (qB l ^^^ (-1))), qc_le, ?_, (qK.of hJ).sw (fun j hj => sg_set_o (by omega)) (by rw [sg_set_o (by omega)]; exact hJ.Cs) (by rw [sg_set_s, upd_s]; exact hLs) (by rw [sg_set_o (by omega)]; exact hJ.Fs) hJ.gd hLb hJ.Fb, sg_set_o (u := u) (show (10 : Nat) ≠ 5 by omega) ▸ rfl⟩
  unfold fL_reset fX5_reset
  rw [qx_nL hJ.1.1 hl, sg_bt_r, hJ.Fs.has0 (by omega) q1, q_bs, q_00, hJ.Ls.has1 q2, q_bs, q_10, qx_bit, q_bs, sg_set_s, upd_s, qx_count N hLs (fun m z => by have := hLb m z; omega), q_bs]; rfl
-- a fault
theorem hl_faultk (hJ : qJ n k a b ld cap pr rt pk mu ins S B C Lk Fl u v) : fL_fault N u (nI k) = some (-75, u) := by
  unfold fL_fault fX5_fault
  rw [qx_nLk hJ.1.1]; rfl
theorem hl_fault0 (hJ : qJ n k a b ld cap pr rt pk mu ins S B C Lk Fl u v) (hl : l < k) (q1 : Fl l) : fL_fault N u (nI l) = some (-79, u) := by
  unfold fL_fault fX5_fault
  rw [qx_nL hJ.1.1 hl, sg_bt_r, hJ.Fs.has1 q1, q_bs, q_10]; rfl
/-- what a fault does: the lines that are locked out, by the answer -/
def qfo (a b : Nat → Nat) (S C Lk C' Lk' : Nat → Prop) (l : Nat) (r : Int32) (t t' : Int32) : Prop := (r = -1 ∧ C' = C ∧ Lk' = Lk ∧ t' = t ∧ ¬ (C l ∧ qg_L a b S C (a l))) ∨ (r = -2 ∧ t' = t ∧ (∀ m, C' m → C m) ∧ (∀ m, C' m → ¬ Lk m → ¬ Lk' m) ∧ (C' l → ¬ qg_L a b S C' (a l))) ∨ ∃ m, r = nI m ∧ m < 12 ∧ t' = t + 1 ∧ C' = (fun j => C j ∧ ¬ j = m) ∧ Lk' = (fun j => Lk j ∨ j = m) ∧ C m ∧ (C' l → ¬ qg_L a b S C' (a l))
theorem hl_fault1 (hN : 20 < N) (hJ : qJ n k a b ld cap pr rt pk mu ins S B C Lk Fl u v) (hl : l < k) (q1 : ¬ Fl l) {r : Int32} (hr : qans a b S C B cap pk mu ins l r) : ∃ (C' Lk' : Nat → Prop) (u' : sg_St), fL_fault N u (nI l) = some (r, u') ∧ qK n k a b ld cap pr rt pk mu ins S B C' Lk' (fun m => Fl m ∨ m = l) u' ∧ qfo a b S C Lk C' Lk' l r (u 10 0) (u' 10 0) := by
  have hk := hJ.k12
  have hn := hJ.n10
  obtain ⟨r', o, e1, e2, e3⟩ := cx_answer (N := N) hN hJ hl
  have := hr.un hJ.C12 hJ.gd.2.1 hJ.gd.2.2.1 hJ.ne e3
  subst this
  have hJ' := hJ.fr e2 (qFM.rf v)
  have o10 : o 10 0 = u 10 0 := by rw [e2 10 (by omega) (by omega) (by omega) (by omega) (by omega)]
  generalize hx : sg_set o 6 0 (o 6 0 ||| qB l) = x
  have fx : ∀ j, j ≠ 6 → x j = o j := fun j hj => by rw [← hx, sg_set_o hj]
  have x10 : x 10 0 = u 10 0 := by rw [fx 10 (by omega)]; exact o10
  have x6 : qS (x 6 0) (fun m => Fl m ∨ m = l) := by rw [← hx, sg_set_s, upd_s]; exact hJ'.Fs.or (qS.bit (by omega))
  have hFb : ∀ m, (Fl m ∨ m = l) → m < k := fun m z => z.elim (hJ.Fb m) (fun e => by rw [e]; exact hl)
  have hK2 : qK n k a b ld cap pr rt pk mu ins S B C Lk (fun m => Fl m ∨ m = l) x := (qK.of hJ').sw (fun j hj => fx j (by omega)) (by rw [fx 4 (by omega)]; exact hJ'.Cs) (by rw [fx 5 (by omega)]; exact hJ'.Ls) x6 hJ.gd hJ.Lb hFb
  have headX : ∀ K : Int32 → sg_St → Option ((Nat ⊕ Int32) × sg_St), (sg_b (fX5_has N (u 6 0) (nI l)) (fun r6 => if r6 = 0 then sg_b2 (fX3_answerTo N u (nI l) (u 4 0)) K else some (.inl 0, u))) = K r o := fun K => by
    rw [hJ.Fs.has0 (by omega) q1, q_bs, q_00, e1, q_b2s]
  have hO := hJ.gd.2.2.1
  unfold fL_fault fX5_fault
  rw [qx_nL hJ.1.1 hl, sg_bt_r, headX, qx_bit, q_bs, hx]
  rcases e3 with ⟨t1, t2⟩ | ⟨s, pt, t1, ⟨t2, t3⟩ | ⟨j, t2, t3⟩⟩
  · subst t1
    refine ⟨C, Lk, x, ?_, hK2, Or.inl ⟨rfl, rfl, rfl, x10, t2⟩⟩
    rw [if_neg (by decide), if_pos rfl]; rfl
  · subst t2
    have hR := (t1.R hJ.C12 hJ.gd.2.1).2
    have hsn := hJ.Sn s t1.1
    obtain ⟨z, z1, z2⟩ := qx_lines (N := N) (s := qB s) (c := x 4 0) (P := fun i => i = s) hK2.1.1 hN (qS.bit (by omega)) hK2.2.1.1
    generalize hx3 : sg_set (sg_set x 4 0 (x 4 0 &&& (z ^^^ (-1)))) 5 0 (x 5 0 ||| z) = x3
    have fx3 : ∀ j, j ≠ 4 → j ≠ 5 → x3 j = x j := fun j h1 h2 => by rw [← hx3, sg_set_o h2, sg_set_o h1]
    refine ⟨fun m => C m ∧ ¬ (m < k ∧ C m ∧ (a m = s ∨ b m = s)), fun m => Lk m ∨ (m < k ∧ C m ∧ (a m = s ∨ b m = s)), x3, ?_, hK2.sw (fun j hj => fx3 j (by omega) (by omega)) (by rw [← hx3, sg_set_o (by omega), sg_set_s, upd_s]; exact hK2.2.1.1.diff z2) (by rw [← hx3, sg_set_s, upd_s]; exact hK2.2.1.2.1.or z2) (by rw [fx3 6 (by omega) (by omega)]; exact x6) (qgood_open hJ.gd (fun m z => z.1)) (fun m z => z.elim (hJ.Lb m) (fun z => z.1)) hFb, Or.inr (Or.inl ⟨rfl, by rw [fx3 10 (by omega) (by omega)]; exact x10, fun m z => z.1, fun m z1 z2 z3 => z3.elim z2 z1.2, fun hcl => ?_⟩)⟩
    · rw [if_pos rfl, qx_srcl hK2.1.1 hN hl hK2.2.1.1 hJ.gd.1 hK2.1.sS hJ.Sn, q_bs, qf_src hO hJ.Sn t1.1 hR, qx_bit, q_bs, z1, q_bs]
      unfold fX4_lockOut
      rw [sg_set_o (u := x) (show (5 : Nat) ≠ 4 by omega), q_ls, hx3]
      rfl
    · rintro ⟨s', hs', hR'⟩
      have e : s' = s := hO s' s hs' t1.1 (qg_tr (qg_sy (qg_mo (fun m z => z.1) hR')) hR)
      subst e
      exact q_allcut (C' := fun m => C m ∧ ¬ (m < k ∧ C m ∧ (a m = s' ∨ b m = s'))) (fun m z => ⟨fun e => z.2 ⟨hJ.gd.1 m z.1, z.1, Or.inl e⟩, fun e => z.2 ⟨hJ.gd.1 m z.1, z.1, Or.inr e⟩⟩) hcl hR'
  · subst t2
    have hCj := t1.mem t3.1
    have hjk := hJ.gd.1 _ hCj
    have hmem : pt.getD j 0 ∈ pt := q_getD_m pt j t3.1
    generalize pt.getD j 0 = m0 at hCj hjk hmem
    generalize hx3 : sg_set (sg_set x 4 0 (x 4 0 &&& (qB m0 ^^^ (-1)))) 5 0 (x 5 0 ||| qB m0) = x3
    have fx3 : ∀ j, j ≠ 4 → j ≠ 5 → x3 j = x j := fun j h1 h2 => by rw [← hx3, sg_set_o h2, sg_set_o h1]
    generalize hx4 : sg_set x3 10 0 (x 10 0 + 1) = x4
    have fx4 : ∀ j, j ≠ 4 → j ≠ 5 → j ≠ 10 → x4 j = x j := fun j h1 h2 h3 => by rw [← hx4, sg_set_o h3]; exact fx3 j h1 h2
    refine ⟨fun m => C m ∧ ¬ m = m0, fun m => Lk m ∨ m = m0, x4, ?_, hK2.sw (fun j hj => fx4 j (by omega) (by omega) (by omega)) (by rw [← hx4, sg_set_o (by omega), ← hx3, sg_set_o (by omega), sg_set_s, upd_s]; exact hK2.2.1.1.diff (qS.bit (by omega))) (by rw [← hx4, sg_set_o (by omega), ← hx3, sg_set_s, upd_s]; exact hK2.2.1.2.1.or (qS.bit (by omega))) (by rw [fx4 6 (by omega) (by omega) (by omega)]; exact x6) (qgood_open hJ.gd (fun m z => z.1)) (fun m z => z.elim (hJ.Lb m) (fun z => by rw [z]; exact hjk)) hFb, Or.inr (Or.inr ⟨m0, rfl, by omega, by rw [← hx4, sg_set_s, upd_s, x10], rfl, rfl, hCj, fun hcl => ?_⟩)⟩
    · rw [if_neg (q_m2 (by omega)), q_im1 (by omega), qx_bit, q_bs]
      unfold fX4_lockOut
      rw [sg_set_o (u := x) (show (5 : Nat) ≠ 4 by omega), q_ls, hx3, q_bs, fx3 10 (by omega) (by omega), hx4]
      rfl
    · exact t1.cut hJ.C12 hJ.gd.2.1 hO hmem (fun e => hcl.2 e.symm)
end PC
