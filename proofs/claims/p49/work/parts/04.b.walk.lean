set_option maxRecDepth 100000 in
set_option maxHeartbeats 4000000 in
theorem c_X4_closeReason (l : Launch) (D : va_G) (cA : Nat → ClassId) (ad : Nat → Nat) (N : Nat) (u : sg_St) (p1 p2 : Int32) (r : Int32) (u' : sg_St) (hf : fX4_closeReason N u p1 p2 = some (r, u')) : sg_CI l D cA (sg_WX cA ad) yX4_closeReason wsX4_closeReason ({ frames := 17, cells := 0, slots := 0, locals := 444 }) [.ref (ad 3), .int p1, .int p2] u r u' := by
  intro sz
  refine Met.ofW (cc := cX4_closeReason) (maxL := 9) (ret := (some .char)) (by decide) rfl ?_
  intro p e s m args below meth c s₁ B hml hv
  obtain ⟨rfl, hsz, hP, hK, hD0⟩ := hv
  have hx := B.exec
  have hb := B.bytes
  have hr := B.returns
  have hts := atoms_spec (ws := wsX4_closeReason) B.pre
  have hown : s.vm.findClass RX4 = some m.cls := findClass_of_methodNamed B.named
  have hlocks := B.notSynchronized
  subst hsz
  have hD := hD0.self (sz := s.heap.size)
  generalize hAe : va_A (sg_WX cA ad u) s.heap.size = A at hD ⊢
  have hA : ∀ q : Nat, s.heap.size ≤ q → A q := fun q h => by rw [← hAe]; exact Or.inr h
  have hS : va_S A s.heap s.heap [] := va_S.rf
  have hl := lv_entry ([.ref (ad 3), .int p1, .int p2]) (n := 9) (Nat.le_of_ble_eq_true rfl)
  rw [lg_entry_eq]
  generalize (lg_sl ([.ref (ad 3), .int p1, .int p2]) ++ List.replicate (9 - (lg_sl ([.ref (ad 3), .int p1, .int p2])).length) Slot.unset).toArray = ls at hl ⊢
  replace hl : lv_has ls 9 [(0, .ref (ad 3)), (1, .int p1), (2, .int p2)] := hl
  have hinX1 : ∀ w ∈ u_ws RX1 TX1 10, w ∈ wsX4_closeReason := by decide +kernel
  have hinX4 : ∀ w ∈ u_ws RX4 TX4 5, w ∈ wsX4_closeReason := by decide +kernel
  have hJ210 : ∀ (u : sg_St) (v1 v2 v4 v5 v8 : Int32) (H : Heap) (locs : List Loc) (ls : Array Slot), fX4_closeReason_j210 N u v1 v2 v4 v5 v8 = some (r, u') → va_P D vwCl (sg_WX cA ad u) H → va_D A (sg_WX cA ad u) → va_S A s.heap H locs → lv_has ls 9 [(0, .ref (ad 3)), (1, .int v1), (2, .int v2), (4, .int v4), (5, .int v5), (8, .int v8)] → W p l e (headSpec wsX4_closeReason ({ frames := 17, cells := 0, slots := 0, locals := 444 })).room s m ([.ref (ad 3), .int p1, .int p2] : List Value).toArray below meth c H locs 0 0 (MQ below (va_Qi (fun x y => x = r ∧ y = u') (sg_BX D (sg_WX cA ad) A) A) ([.ref (ad 3), .int p1, .int p2] : List Value).toArray s 0 0 A) (F0 m 210 ls []) := by
    intro u v1 v2 v4 v5 v8 H locs ls hf hP hD hS hl
    unfold fX4_closeReason_j210 at hf
    refine lv_iload hx hb dX4_closeReason_210 (lv_at hl 5 rfl) ?_
    refine lv_if_ne (tgt := 218) hx hb dX4_closeReason_212 (by decide) (fun c12 => ?_) (fun c12 => ?_)
    · have hf := sg_in c12 hf
      refine lv_aload_n hx hb dX4_closeReason_218 rfl (lv_at hl 0 rfl) ?_
      refine va_get (D := D) (ci := 6) (C := RX4) (T := TX4) (N := 5) hx hb hts hinX4 hown hK.1 hP 3 rfl rfl 0 (by decide) (hts (.fieldLink RX4 9 "Switchgear$Switches" "grid" "LSwitchgear$Grid;") (by decide +kernel)) (fun _ h9 => h9) rfl dX4_closeReason_219 ?_
      refine lv_iload hx hb dX4_closeReason_222 (lv_at hl 3 rfl) ?_
      refine lv_iload hx hb dX4_closeReason_224 (lv_at hl 4 rfl) ?_
      refine lv_ior hx hb dX4_closeReason_226 ?_
      obtain ⟨r2, hc1, hf⟩ := sg_b_s hf
      refine sg_ci (va_runV (As := [.int (v4 ||| v5)]) (rest := []) ⟨hx, hb, hml, hown, hts⟩ (c_X1_asksTooMuch l D cA ad N _ _ _ hc1 _) (cwV 1 hts gX4_closeReason_X1_asksTooMuch rfl rfl rfl (by decide +kernel) ⟨Nat.le_of_ble_eq_true rfl, Nat.le_of_ble_eq_true rfl⟩) (sg_pre hK hP hD (ci := 3) (q0 := 1) rfl rfl) rfl rfl hl.1 rfl (lv_room (Nat.le_of_ble_eq_true rfl)) dX4_closeReason_227 ⟨Nat.zero_le _, Nat.zero_le _⟩) hD hS hA (fun H locs hP hD hS => ?_)
      refine lv_if_eq (tgt := 236) hx hb dX4_closeReason_230 (by decide) (fun c11 => ?_) (fun c11 => ?_)
      · have hf := sg_ip c11 hf
        refine lv_aload_n hx hb dX4_closeReason_236 rfl (lv_at hl 0 rfl) ?_
        refine va_get (D := D) (ci := 6) (C := RX4) (T := TX4) (N := 5) hx hb hts hinX4 hown hK.1 hP 3 rfl rfl 1 (by decide) (hts (.fieldLink RX4 15 "Switchgear$Switches" "feeder" "LSwitchgear$Feeder;") (by decide +kernel)) (fun _ h9 => h9) rfl dX4_closeReason_237 ?_
        refine lv_iload_n hx hb dX4_closeReason_240 rfl (lv_at hl 2 rfl) ?_
        refine lv_iload_n hx hb dX4_closeReason_241 rfl (lv_at hl 1 rfl) ?_
        obtain ⟨r5, hc4, hf⟩ := sg_b_s hf
        refine sg_ci0 (va_runSN (As := [.int v1]) (rest := [.int v2, .ref (ad 2)]) ⟨hx, hb, hml, hown, hts⟩ (c_X5_bit l D cA N _ _ hc4 _) ⟨va_cnB (host := RX5) 1 hts gX4_closeReason_X5_bit_n67 rfl rfl rfl (hK.2 _ (List.mem_of_getElem? (i := 9) rfl)) (hts (.initialized RX5) (by decide +kernel)) (by decide +kernel) ⟨Nat.le_of_ble_eq_true rfl, Nat.le_of_ble_eq_true rfl⟩, hts (.static yX5_bit) (by decide +kernel), trivial⟩ (sg_pre0 hK) rfl rfl hl.1 rfl (lv_room (Nat.le_of_ble_eq_true rfl)) dX4_closeReason_242 ⟨Nat.zero_le _, Nat.zero_le _⟩) hP hS hA (fun H locs hP hS => ?_)
        refine lv_ior hx hb dX4_closeReason_245 ?_
        obtain ⟨r8, u9, hc7, hf⟩ := sg_b2_s hf
        refine sg_ci (va_runV (As := [.int (v2 ||| r5)]) (rest := []) ⟨hx, hb, hml, hown, hts⟩ (c_X0_firstOverloaded l D cA ad N _ _ _ _ hc7 _) (cwV 1 hts gX4_closeReason_X0_firstOverloaded rfl rfl rfl (by decide +kernel) ⟨Nat.le_of_ble_eq_true rfl, Nat.le_of_ble_eq_true rfl⟩) (sg_pre hK hP hD (ci := 2) (q0 := 2) rfl rfl) rfl rfl hl.1 rfl (lv_room (Nat.le_of_ble_eq_true rfl)) dX4_closeReason_246 ⟨Nat.zero_le _, Nat.zero_le _⟩) hD hS hA (fun H locs hP hD hS => ?_)
        refine lv_iconst (v := (-1)) hx hb dX4_closeReason_249 (by decide) ?_
        refine lv_icmp_ne (tgt := 258) hx hb dX4_closeReason_250 (by decide) (fun c10 => ?_) (fun c10 => ?_)
        · have hf := sg_in c10 hf
          refine lv_bipush (v := 108) hx hb dX4_closeReason_258 (by decide) ?_
          have hq := Option.some.inj hf
          exact sg_zret hx hb hr rfl hP hD hS dX4_closeReason_260 (congrArg Prod.fst hq) (congrArg Prod.snd hq) hlocks
        · have hf := sg_ip c10 hf
          refine lv_bipush (v := 110) hx hb dX4_closeReason_253 (by decide) ?_
          refine lv_goto (tgt := 260) hx hb dX4_closeReason_255 (by decide) ?_
          have hq := Option.some.inj hf
          exact sg_zret hx hb hr rfl hP hD hS dX4_closeReason_260 (congrArg Prod.fst hq) (congrArg Prod.snd hq) hlocks
      · have hf := sg_in c11 hf
        refine lv_bipush (v := 115) hx hb dX4_closeReason_233 (by decide) ?_
        have hq := Option.some.inj hf
        exact sg_zret hx hb hr rfl hP hD hS dX4_closeReason_235 (congrArg Prod.fst hq) (congrArg Prod.snd hq) hlocks
    · have hf := sg_ip c12 hf
      refine lv_bipush (v := 110) hx hb dX4_closeReason_215 (by decide) ?_
      have hq := Option.some.inj hf
      exact sg_zret hx hb hr rfl hP hD hS dX4_closeReason_217 (congrArg Prod.fst hq) (congrArg Prod.snd hq) hlocks
  have hJ181 : ∀ (u : sg_St) (v1 v2 v4 v5 v8 : Int32) (H : Heap) (locs : List Loc) (ls : Array Slot), fX4_closeReason_j181 N u v1 v2 v4 v5 v8 = some (r, u') → va_P D vwCl (sg_WX cA ad u) H → va_D A (sg_WX cA ad u) → va_S A s.heap H locs → lv_has ls 9 [(0, .ref (ad 3)), (1, .int v1), (2, .int v2), (4, .int v4), (5, .int v5), (8, .int v8)] → W p l e (headSpec wsX4_closeReason ({ frames := 17, cells := 0, slots := 0, locals := 444 })).room s m ([.ref (ad 3), .int p1, .int p2] : List Value).toArray below meth c H locs 0 0 (MQ below (va_Qi (fun x y => x = r ∧ y = u') (sg_BX D (sg_WX cA ad) A) A) ([.ref (ad 3), .int p1, .int p2] : List Value).toArray s 0 0 A) (F0 m 181 ls []) := by
    intro u v1 v2 v4 v5 v8 H locs ls hf hP hD hS hl
    unfold fX4_closeReason_j181 at hf
    refine lv_aload_n hx hb dX4_closeReason_181 rfl (lv_at hl 0 rfl) ?_
    refine va_get (D := D) (ci := 6) (C := RX4) (T := TX4) (N := 5) hx hb hts hinX4 hown hK.1 hP 3 rfl rfl 0 (by decide) (hts (.fieldLink RX4 9 "Switchgear$Switches" "grid" "LSwitchgear$Grid;") (by decide +kernel)) (fun _ h9 => h9) rfl dX4_closeReason_182 ?_
    refine va_getN (D := D) (ci := 3) (C := RX1) (T := TX1) (N := 10) (host := RX5) (ref := RX1) hx hb hts hinX1 hown hK.1 hP 1 rfl rfl 9 (by decide) (va_Nw.use rfl (hK.2 _ (List.mem_of_getElem? (i := 23) rfl))) (fun _ h9 => h9) rfl dX4_closeReason_185 ?_
    refine lv_iload_n hx hb dX4_closeReason_188 rfl (lv_at hl 1 rfl) ?_
    obtain ⟨r2, hc1, hf⟩ := sg_b_s hf
    refine sg_ci0 (va_runSN (As := [.int (u 3 0), .int v1]) (rest := []) ⟨hx, hb, hml, hown, hts⟩ (c_X5_has l D cA N _ _ _ hc1 _) ⟨va_cnB (host := RX5) 2 hts gX4_closeReason_X5_has_n34 rfl rfl rfl (hK.2 _ (List.mem_of_getElem? (i := 8) rfl)) (hts (.initialized RX5) (by decide +kernel)) (by decide +kernel) ⟨Nat.le_of_ble_eq_true rfl, Nat.le_of_ble_eq_true rfl⟩, hts (.static yX5_has) (by decide +kernel), trivial⟩ (sg_pre0 hK) rfl rfl hl.1 rfl (lv_room (Nat.le_of_ble_eq_true rfl)) dX4_closeReason_189 ⟨Nat.zero_le _, Nat.zero_le _⟩) hP hS hA (fun H locs hP hS => ?_)
    refine lv_if_ne (tgt := 210) hx hb dX4_closeReason_192 (by decide) (fun c8 => ?_) (fun c8 => ?_)
    · have hf := sg_in c8 hf
      exact hJ210 _ _ _ _ _ _ _ _ _ hf hP hD hS (lv_sub hl [0, 1, 2, 3, 4, 5] rfl)
    · have hf := sg_ip c8 hf
      refine lv_aload_n hx hb dX4_closeReason_195 rfl (lv_at hl 0 rfl) ?_
      refine va_get (D := D) (ci := 6) (C := RX4) (T := TX4) (N := 5) hx hb hts hinX4 hown hK.1 hP 3 rfl rfl 0 (by decide) (hts (.fieldLink RX4 9 "Switchgear$Switches" "grid" "LSwitchgear$Grid;") (by decide +kernel)) (fun _ h9 => h9) rfl dX4_closeReason_196 ?_
      refine lv_iload hx hb dX4_closeReason_199 (lv_at hl 5 rfl) ?_
      obtain ⟨r5, hc4, hf⟩ := sg_b_s hf
      refine sg_ci (va_runV (As := [.int v8]) (rest := []) ⟨hx, hb, hml, hown, hts⟩ (c_X1_loadIn l D cA ad N _ _ _ hc4 _) (cwV 1 hts gX4_closeReason_X1_loadIn rfl rfl rfl (by decide +kernel) ⟨Nat.le_of_ble_eq_true rfl, Nat.le_of_ble_eq_true rfl⟩) (sg_pre hK hP hD (ci := 3) (q0 := 1) rfl rfl) rfl rfl hl.1 rfl (lv_room (Nat.le_of_ble_eq_true rfl)) dX4_closeReason_201 ⟨Nat.zero_le _, Nat.zero_le _⟩) hD hS hA (fun H locs hP hD hS => ?_)
      refine lv_if_le (tgt := 210) hx hb dX4_closeReason_204 (by decide) (fun c7 => ?_) (fun c7 => ?_)
      · have hf := sg_ip c7 hf
        exact hJ210 _ _ _ _ _ _ _ _ _ hf hP hD hS (lv_sub hl [0, 1, 2, 3, 4, 5] rfl)
      · have hf := sg_in c7 hf
        refine lv_bipush (v := 100) hx hb dX4_closeReason_207 (by decide) ?_
        have hq := Option.some.inj hf
        exact sg_zret hx hb hr rfl hP hD hS dX4_closeReason_209 (congrArg Prod.fst hq) (congrArg Prod.snd hq) hlocks
  have hJ127 : ∀ (u : sg_St) (v1 v2 v4 v5 v6 v7 k0 : Int32) (H : Heap) (locs : List Loc) (ls : Array Slot), fX4_closeReason_j127 N u v1 v2 v4 v5 v6 v7 k0 = some (r, u') → va_P D vwCl (sg_WX cA ad u) H → va_D A (sg_WX cA ad u) → va_S A s.heap H locs → lv_has ls 9 [(0, .ref (ad 3)), (1, .int v1), (2, .int v2), (4, .int v4), (5, .int v5), (6, .int v6), (7, .int v7)] → W p l e (headSpec wsX4_closeReason ({ frames := 17, cells := 0, slots := 0, locals := 444 })).room s m ([.ref (ad 3), .int p1, .int p2] : List Value).toArray below meth c H locs 0 0 (MQ below (va_Qi (fun x y => x = r ∧ y = u') (sg_BX D (sg_WX cA ad) A) A) ([.ref (ad 3), .int p1, .int p2] : List Value).toArray s 0 0 A) (F0 m 127 ls [.int k0]) := by
    intro u v1 v2 v4 v5 v6 v7 k0 H locs ls hf hP hD hS hl
    unfold fX4_closeReason_j127 at hf
    refine lv_istore (lv' := [(8, .int k0), (0, .ref (ad 3)), (1, .int v1), (2, .int v2), (4, .int v4), (5, .int v5), (6, .int v6), (7, .int v7)]) hx hb dX4_closeReason_127 hl (by decide) rfl (fun ls hl => ?_)
    refine lv_aload_n hx hb dX4_closeReason_129 rfl (lv_at hl 1 rfl) ?_
    refine va_get (D := D) (ci := 6) (C := RX4) (T := TX4) (N := 5) hx hb hts hinX4 hown hK.1 hP 3 rfl rfl 4 (by decide) (hts (.fieldLink RX4 31 "Switchgear$Switches" "faulty" "I") (by decide +kernel)) (fun _ h9 => h9) rfl dX4_closeReason_130 ?_
    refine lv_iload_n hx hb dX4_closeReason_133 rfl (lv_at hl 2 rfl) ?_
    obtain ⟨r2, hc1, hf⟩ := sg_b_s hf
    refine sg_ci0 (va_runSN (As := [.int (u 6 0), .int v1]) (rest := []) ⟨hx, hb, hml, hown, hts⟩ (c_X5_has l D cA N _ _ _ hc1 _) ⟨va_cnB (host := RX5) 2 hts gX4_closeReason_X5_has_n34 rfl rfl rfl (hK.2 _ (List.mem_of_getElem? (i := 8) rfl)) (hts (.initialized RX5) (by decide +kernel)) (by decide +kernel) ⟨Nat.le_of_ble_eq_true rfl, Nat.le_of_ble_eq_true rfl⟩, hts (.static yX5_has) (by decide +kernel), trivial⟩ (sg_pre0 hK) rfl rfl hl.1 rfl (lv_room (Nat.le_of_ble_eq_true rfl)) dX4_closeReason_134 ⟨Nat.zero_le _, Nat.zero_le _⟩) hP hS hA (fun H locs hP hS => ?_)
    refine lv_if_ne (tgt := 158) hx hb dX4_closeReason_137 (by decide) (fun c11 => ?_) (fun c11 => ?_)
    · have hf := sg_in c11 hf
      refine lv_bipush (v := 102) hx hb dX4_closeReason_158 (by decide) ?_
      have hq := Option.some.inj hf
      exact sg_zret hx hb hr rfl hP hD hS dX4_closeReason_160 (congrArg Prod.fst hq) (congrArg Prod.snd hq) hlocks
    · have hf := sg_ip c11 hf
      refine lv_aload_n hx hb dX4_closeReason_140 rfl (lv_at hl 1 rfl) ?_
      refine va_get (D := D) (ci := 6) (C := RX4) (T := TX4) (N := 5) hx hb hts hinX4 hown hK.1 hP 3 rfl rfl 0 (by decide) (hts (.fieldLink RX4 9 "Switchgear$Switches" "grid" "LSwitchgear$Grid;") (by decide +kernel)) (fun _ h9 => h9) rfl dX4_closeReason_141 ?_
      refine lv_iload hx hb dX4_closeReason_144 (lv_at hl 0 rfl) ?_
      refine lv_iload_n hx hb dX4_closeReason_146 rfl (lv_at hl 3 rfl) ?_
      obtain ⟨r5, hc4, hf⟩ := sg_b_s hf
      refine sg_ci (va_runV (As := [.int k0, .int v2]) (rest := []) ⟨hx, hb, hml, hown, hts⟩ (c_X1_linesAt l D cA ad N _ _ _ _ hc4 _) (cwV 2 hts gX4_closeReason_X1_linesAt rfl rfl rfl (by decide +kernel) ⟨Nat.le_of_ble_eq_true rfl, Nat.le_of_ble_eq_true rfl⟩) (sg_pre hK hP hD (ci := 3) (q0 := 1) rfl rfl) rfl rfl hl.1 rfl (lv_room (Nat.le_of_ble_eq_true rfl)) dX4_closeReason_147 ⟨Nat.zero_le _, Nat.zero_le _⟩) hD hS hA (fun H locs hP hD hS => ?_)
      refine lv_aload_n hx hb dX4_closeReason_150 rfl (lv_at hl 1 rfl) ?_
      refine va_get (D := D) (ci := 6) (C := RX4) (T := TX4) (N := 5) hx hb hts hinX4 hown hK.1 hP 3 rfl rfl 4 (by decide) (hts (.fieldLink RX4 31 "Switchgear$Switches" "faulty" "I") (by decide +kernel)) (fun _ h9 => h9) rfl dX4_closeReason_151 ?_
      refine lv_iand hx hb dX4_closeReason_154 ?_
      refine lv_if_eq (tgt := 161) hx hb dX4_closeReason_155 (by decide) (fun c10 => ?_) (fun c10 => ?_)
      · have hf := sg_ip c10 hf
        refine lv_iload hx hb dX4_closeReason_161 (lv_at hl 4 rfl) ?_
        refine lv_iload hx hb dX4_closeReason_163 (lv_at hl 5 rfl) ?_
        refine lv_icmp_eq (tgt := 178) hx hb dX4_closeReason_165 (by decide) (fun c9 => ?_) (fun c9 => ?_)
        · have hf := sg_ip c9 hf
          refine lv_bipush (v := 114) hx hb dX4_closeReason_178 (by decide) ?_
          have hq := Option.some.inj hf
          exact sg_zret hx hb hr rfl hP hD hS dX4_closeReason_180 (congrArg Prod.fst hq) (congrArg Prod.snd hq) hlocks
        · have hf := sg_in c9 hf
          refine lv_iload hx hb dX4_closeReason_168 (lv_at hl 6 rfl) ?_
          refine lv_if_eq (tgt := 181) hx hb dX4_closeReason_170 (by decide) (fun c8 => ?_) (fun c8 => ?_)
          · have hf := sg_ip c8 hf
            exact hJ181 _ _ _ _ _ _ _ _ _ hf hP hD hS (lv_sub hl [1, 2, 3, 4, 5, 0] rfl)
          · have hf := sg_in c8 hf
            refine lv_iload hx hb dX4_closeReason_173 (lv_at hl 7 rfl) ?_
            refine lv_if_eq (tgt := 181) hx hb dX4_closeReason_175 (by decide) (fun c7 => ?_) (fun c7 => ?_)
            · have hf := sg_ip c7 hf
              exact hJ181 _ _ _ _ _ _ _ _ _ hf hP hD hS (lv_sub hl [1, 2, 3, 4, 5, 0] rfl)
            · have hf := sg_in c7 hf
              refine lv_bipush (v := 114) hx hb dX4_closeReason_178 (by decide) ?_
              have hq := Option.some.inj hf
              exact sg_zret hx hb hr rfl hP hD hS dX4_closeReason_180 (congrArg Prod.fst hq) (congrArg Prod.snd hq) hlocks
      · have hf := sg_in c10 hf
        refine lv_bipush (v := 102) hx hb dX4_closeReason_158 (by decide) ?_
        have hq := Option.some.inj hf
        exact sg_zret hx hb hr rfl hP hD hS dX4_closeReason_160 (congrArg Prod.fst hq) (congrArg Prod.snd hq) hlocks
  have hJ102 : ∀ (u : sg_St) (v1 v2 v4 v5 v6 k0 : Int32) (H : Heap) (locs : List Loc) (ls : Array Slot), fX4_closeReason_j102 N u v1 v2 v4 v5 v6 k0 = some (r, u') → va_P D vwCl (sg_WX cA ad u) H → va_D A (sg_WX cA ad u) → va_S A s.heap H locs → lv_has ls 9 [(0, .ref (ad 3)), (1, .int v1), (2, .int v2), (4, .int v4), (5, .int v5), (6, .int v6)] → W p l e (headSpec wsX4_closeReason ({ frames := 17, cells := 0, slots := 0, locals := 444 })).room s m ([.ref (ad 3), .int p1, .int p2] : List Value).toArray below meth c H locs 0 0 (MQ below (va_Qi (fun x y => x = r ∧ y = u') (sg_BX D (sg_WX cA ad) A) A) ([.ref (ad 3), .int p1, .int p2] : List Value).toArray s 0 0 A) (F0 m 102 ls [.int k0]) := by
    intro u v1 v2 v4 v5 v6 k0 H locs ls hf hP hD hS hl
    unfold fX4_closeReason_j102 at hf
    refine lv_istore (lv' := [(7, .int k0), (0, .ref (ad 3)), (1, .int v1), (2, .int v2), (4, .int v4), (5, .int v5), (6, .int v6)]) hx hb dX4_closeReason_102 hl (by decide) rfl (fun ls hl => ?_)
    refine lv_iload hx hb dX4_closeReason_104 (lv_at hl 6 rfl) ?_
    refine lv_iload hx hb dX4_closeReason_106 (lv_at hl 0 rfl) ?_
    refine lv_icmp_ne (tgt := 115) hx hb dX4_closeReason_108 (by decide) (fun c2 => ?_) (fun c2 => ?_)
    · have hf := sg_in c2 hf
      refine lv_iload hx hb dX4_closeReason_115 (lv_at hl 6 rfl) ?_
      refine lv_if_eq (tgt := 125) hx hb dX4_closeReason_117 (by decide) (fun c1 => ?_) (fun c1 => ?_)
      · have hf := sg_ip c1 hf
        refine lv_iload hx hb dX4_closeReason_125 (lv_at hl 4 rfl) ?_
        exact hJ127 _ _ _ _ _ _ _ _ _ _ _ hf hP hD hS (lv_sub hl [1, 2, 3, 4, 5, 6, 0] rfl)
      · have hf := sg_in c1 hf
        refine lv_iload hx hb dX4_closeReason_120 (lv_at hl 5 rfl) ?_
        refine lv_goto (tgt := 127) hx hb dX4_closeReason_122 (by decide) ?_
        exact hJ127 _ _ _ _ _ _ _ _ _ _ _ hf hP hD hS (lv_sub hl [1, 2, 3, 4, 5, 6, 0] rfl)
    · have hf := sg_ip c2 hf
      refine lv_iconst (v := 0) hx hb dX4_closeReason_111 (by decide) ?_
      refine lv_goto (tgt := 127) hx hb dX4_closeReason_112 (by decide) ?_
      exact hJ127 _ _ _ _ _ _ _ _ _ _ _ hf hP hD hS (lv_sub hl [1, 2, 3, 4, 5, 6, 0] rfl)
  have hJ82 : ∀ (u : sg_St) (v1 v2 v4 v5 k0 : Int32) (H : Heap) (locs : List Loc) (ls : Array Slot), fX4_closeReason_j82 N u v1 v2 v4 v5 k0 = some (r, u') → va_P D vwCl (sg_WX cA ad u) H → va_D A (sg_WX cA ad u) → va_S A s.heap H locs → lv_has ls 9 [(0, .ref (ad 3)), (1, .int v1), (2, .int v2), (4, .int v4), (5, .int v5)] → W p l e (headSpec wsX4_closeReason ({ frames := 17, cells := 0, slots := 0, locals := 444 })).room s m ([.ref (ad 3), .int p1, .int p2] : List Value).toArray below meth c H locs 0 0 (MQ below (va_Qi (fun x y => x = r ∧ y = u') (sg_BX D (sg_WX cA ad) A) A) ([.ref (ad 3), .int p1, .int p2] : List Value).toArray s 0 0 A) (F0 m 82 ls [.int k0]) := by
    intro u v1 v2 v4 v5 k0 H locs ls hf hP hD hS hl
    unfold fX4_closeReason_j82 at hf
    refine lv_istore (lv' := [(6, .int k0), (0, .ref (ad 3)), (1, .int v1), (2, .int v2), (4, .int v4), (5, .int v5)]) hx hb dX4_closeReason_82 hl (by decide) rfl (fun ls hl => ?_)
    refine lv_aload_n hx hb dX4_closeReason_84 rfl (lv_at hl 1 rfl) ?_
    refine va_get (D := D) (ci := 6) (C := RX4) (T := TX4) (N := 5) hx hb hts hinX4 hown hK.1 hP 3 rfl rfl 0 (by decide) (hts (.fieldLink RX4 9 "Switchgear$Switches" "grid" "LSwitchgear$Grid;") (by decide +kernel)) (fun _ h9 => h9) rfl dX4_closeReason_85 ?_
    refine lv_iload hx hb dX4_closeReason_88 (lv_at hl 5 rfl) ?_
    obtain ⟨r2, hc1, hf⟩ := sg_b_s hf
    refine sg_ci (va_runV (As := [.int v5]) (rest := []) ⟨hx, hb, hml, hown, hts⟩ (c_X1_sourceIn l D cA ad N _ _ _ hc1 _) (cwV 1 hts gX4_closeReason_X1_sourceIn rfl rfl rfl (by decide +kernel) ⟨Nat.le_of_ble_eq_true rfl, Nat.le_of_ble_eq_true rfl⟩) (sg_pre hK hP hD (ci := 3) (q0 := 1) rfl rfl) rfl rfl hl.1 rfl (lv_room (Nat.le_of_ble_eq_true rfl)) dX4_closeReason_90 ⟨Nat.zero_le _, Nat.zero_le _⟩) hD hS hA (fun H locs hP hD hS => ?_)
    refine lv_iconst (v := (-1)) hx hb dX4_closeReason_93 (by decide) ?_
    refine lv_icmp_eq (tgt := 101) hx hb dX4_closeReason_94 (by decide) (fun c4 => ?_) (fun c4 => ?_)
    · have hf := sg_ip c4 hf
      refine lv_iconst (v := 0) hx hb dX4_closeReason_101 (by decide) ?_
      exact hJ102 _ _ _ _ _ _ _ _ _ _ hf hP hD hS (lv_sub hl [1, 2, 3, 4, 5, 0] rfl)
    · have hf := sg_in c4 hf
      refine lv_iconst (v := 1) hx hb dX4_closeReason_97 (by decide) ?_
      refine lv_goto (tgt := 102) hx hb dX4_closeReason_98 (by decide) ?_
      exact hJ102 _ _ _ _ _ _ _ _ _ _ hf hP hD hS (lv_sub hl [1, 2, 3, 4, 5, 0] rfl)
  unfold fX4_closeReason at hf
  refine lv_iload_n hx hb dX4_closeReason_0 rfl (lv_at hl 2 rfl) ?_
  refine lv_iload_n hx hb dX4_closeReason_1 rfl (lv_at hl 1 rfl) ?_
  obtain ⟨r2, hc1, hf⟩ := sg_b_s hf
  refine sg_ci0 (va_runSN (As := [.int p2, .int p1]) (rest := []) ⟨hx, hb, hml, hown, hts⟩ (c_X5_has l D cA N _ _ _ hc1 _) ⟨va_cnB (host := RX5) 2 hts gX4_closeReason_X5_has_n34 rfl rfl rfl (hK.2 _ (List.mem_of_getElem? (i := 8) rfl)) (hts (.initialized RX5) (by decide +kernel)) (by decide +kernel) ⟨Nat.le_of_ble_eq_true rfl, Nat.le_of_ble_eq_true rfl⟩, hts (.static yX5_has) (by decide +kernel), trivial⟩ (sg_pre0 hK) rfl rfl hl.1 rfl (lv_room (Nat.le_of_ble_eq_true rfl)) dX4_closeReason_2 ⟨Nat.zero_le _, Nat.zero_le _⟩) hP hS hA (fun H locs hP hS => ?_)
  refine lv_if_eq (tgt := 11) hx hb dX4_closeReason_5 (by decide) (fun c24 => ?_) (fun c24 => ?_)
  · have hf := sg_ip c24 hf
    refine lv_aload_n hx hb dX4_closeReason_11 rfl (lv_at hl 0 rfl) ?_
    refine va_get (D := D) (ci := 6) (C := RX4) (T := TX4) (N := 5) hx hb hts hinX4 hown hK.1 hP 3 rfl rfl 3 (by decide) (hts (.fieldLink RX4 23 "Switchgear$Switches" "locked" "I") (by decide +kernel)) (fun _ h9 => h9) rfl dX4_closeReason_12 ?_
    refine lv_iload_n hx hb dX4_closeReason_15 rfl (lv_at hl 1 rfl) ?_
    obtain ⟨r5, hc4, hf⟩ := sg_b_s hf
    refine sg_ci0 (va_runSN (As := [.int (u 5 0), .int p1]) (rest := []) ⟨hx, hb, hml, hown, hts⟩ (c_X5_has l D cA N _ _ _ hc4 _) ⟨va_cnB (host := RX5) 2 hts gX4_closeReason_X5_has_n34 rfl rfl rfl (hK.2 _ (List.mem_of_getElem? (i := 8) rfl)) (hts (.initialized RX5) (by decide +kernel)) (by decide +kernel) ⟨Nat.le_of_ble_eq_true rfl, Nat.le_of_ble_eq_true rfl⟩, hts (.static yX5_has) (by decide +kernel), trivial⟩ (sg_pre0 hK) rfl rfl hl.1 rfl (lv_room (Nat.le_of_ble_eq_true rfl)) dX4_closeReason_16 ⟨Nat.zero_le _, Nat.zero_le _⟩) hP hS hA (fun H locs hP hS => ?_)
    refine lv_if_eq (tgt := 25) hx hb dX4_closeReason_19 (by decide) (fun c23 => ?_) (fun c23 => ?_)
    · have hf := sg_ip c23 hf
      refine lv_aload_n hx hb dX4_closeReason_25 rfl (lv_at hl 0 rfl) ?_
      refine va_get (D := D) (ci := 6) (C := RX4) (T := TX4) (N := 5) hx hb hts hinX4 hown hK.1 hP 3 rfl rfl 0 (by decide) (hts (.fieldLink RX4 9 "Switchgear$Switches" "grid" "LSwitchgear$Grid;") (by decide +kernel)) (fun _ h9 => h9) rfl dX4_closeReason_26 ?_
      refine lv_iload_n hx hb dX4_closeReason_29 rfl (lv_at hl 1 rfl) ?_
      obtain ⟨r8, hc7, hf⟩ := sg_b_s hf
      refine sg_ci (va_runV (As := [.int p1]) (rest := []) ⟨hx, hb, hml, hown, hts⟩ (c_X1_oneEnd l D cA ad N _ _ _ hc7 _) (cwV 1 hts gX4_closeReason_X1_oneEnd rfl rfl rfl (by decide +kernel) ⟨Nat.le_of_ble_eq_true rfl, Nat.le_of_ble_eq_true rfl⟩) (sg_pre hK hP hD (ci := 3) (q0 := 1) rfl rfl) rfl rfl hl.1 rfl (lv_room (Nat.le_of_ble_eq_true rfl)) dX4_closeReason_30 ⟨Nat.zero_le _, Nat.zero_le _⟩) hD hS hA (fun H locs hP hD hS => ?_)
      refine lv_istore_n (lv' := [(3, .int r8), (0, .ref (ad 3)), (1, .int p1), (2, .int p2)]) hx hb dX4_closeReason_33 rfl hl (by decide) rfl (fun ls hl => ?_)
      refine lv_aload_n hx hb dX4_closeReason_34 rfl (lv_at hl 1 rfl) ?_
      refine va_get (D := D) (ci := 6) (C := RX4) (T := TX4) (N := 5) hx hb hts hinX4 hown hK.1 hP 3 rfl rfl 0 (by decide) (hts (.fieldLink RX4 9 "Switchgear$Switches" "grid" "LSwitchgear$Grid;") (by decide +kernel)) (fun _ h9 => h9) rfl dX4_closeReason_35 ?_
      refine lv_iload_n hx hb dX4_closeReason_38 rfl (lv_at hl 0 rfl) ?_
      refine lv_iload_n hx hb dX4_closeReason_39 rfl (lv_at hl 3 rfl) ?_
      obtain ⟨r11, hc10, hf⟩ := sg_b_s hf
      refine sg_ci (va_runV (As := [.int r8, .int p2]) (rest := []) ⟨hx, hb, hml, hown, hts⟩ (c_X1_islandAround l D cA ad N _ _ _ _ hc10 _) (cwV 2 hts gX4_closeReason_X1_islandAround rfl rfl rfl (by decide +kernel) ⟨Nat.le_of_ble_eq_true rfl, Nat.le_of_ble_eq_true rfl⟩) (sg_pre hK hP hD (ci := 3) (q0 := 1) rfl rfl) rfl rfl hl.1 rfl (lv_room (Nat.le_of_ble_eq_true rfl)) dX4_closeReason_40 ⟨Nat.zero_le _, Nat.zero_le _⟩) hD hS hA (fun H locs hP hD hS => ?_)
      refine lv_istore (lv' := [(4, .int r11), (3, .int r8), (0, .ref (ad 3)), (1, .int p1), (2, .int p2)]) hx hb dX4_closeReason_43 hl (by decide) rfl (fun ls hl => ?_)
      refine lv_aload_n hx hb dX4_closeReason_45 rfl (lv_at hl 2 rfl) ?_
      refine va_get (D := D) (ci := 6) (C := RX4) (T := TX4) (N := 5) hx hb hts hinX4 hown hK.1 hP 3 rfl rfl 0 (by decide) (hts (.fieldLink RX4 9 "Switchgear$Switches" "grid" "LSwitchgear$Grid;") (by decide +kernel)) (fun _ h9 => h9) rfl dX4_closeReason_46 ?_
      refine lv_aload_n hx hb dX4_closeReason_49 rfl (lv_at hl 2 rfl) ?_
      refine va_get (D := D) (ci := 6) (C := RX4) (T := TX4) (N := 5) hx hb hts hinX4 hown hK.1 hP 3 rfl rfl 0 (by decide) (hts (.fieldLink RX4 9 "Switchgear$Switches" "grid" "LSwitchgear$Grid;") (by decide +kernel)) (fun _ h9 => h9) rfl dX4_closeReason_50 ?_
      refine lv_iload_n hx hb dX4_closeReason_53 rfl (lv_at hl 1 rfl) ?_
      refine lv_iload_n hx hb dX4_closeReason_54 rfl (lv_at hl 3 rfl) ?_
      obtain ⟨r14, hc13, hf⟩ := sg_b_s hf
      refine sg_ci (va_runV (As := [.int r8, .int p1]) (rest := [.ref (ad 1)]) ⟨hx, hb, hml, hown, hts⟩ (c_X1_acrossFrom l D cA ad N _ _ _ _ hc13 _) (cwV 2 hts gX4_closeReason_X1_acrossFrom rfl rfl rfl (by decide +kernel) ⟨Nat.le_of_ble_eq_true rfl, Nat.le_of_ble_eq_true rfl⟩) (sg_pre hK hP hD (ci := 3) (q0 := 1) rfl rfl) rfl rfl hl.1 rfl (lv_room (Nat.le_of_ble_eq_true rfl)) dX4_closeReason_55 ⟨Nat.zero_le _, Nat.zero_le _⟩) hD hS hA (fun H locs hP hD hS => ?_)
      refine lv_iload_n hx hb dX4_closeReason_58 rfl (lv_at hl 4 rfl) ?_
      obtain ⟨r17, hc16, hf⟩ := sg_b_s hf
      refine sg_ci (va_runV (As := [.int r14, .int p2]) (rest := []) ⟨hx, hb, hml, hown, hts⟩ (c_X1_islandAround l D cA ad N _ _ _ _ hc16 _) (cwV 2 hts gX4_closeReason_X1_islandAround rfl rfl rfl (by decide +kernel) ⟨Nat.le_of_ble_eq_true rfl, Nat.le_of_ble_eq_true rfl⟩) (sg_pre hK hP hD (ci := 3) (q0 := 1) rfl rfl) rfl rfl hl.1 rfl (lv_room (Nat.le_of_ble_eq_true rfl)) dX4_closeReason_59 ⟨Nat.zero_le _, Nat.zero_le _⟩) hD hS hA (fun H locs hP hD hS => ?_)
      refine lv_istore (lv' := [(5, .int r17), (4, .int r11), (3, .int r8), (0, .ref (ad 3)), (1, .int p1), (2, .int p2)]) hx hb dX4_closeReason_62 hl (by decide) rfl (fun ls hl => ?_)
      refine lv_aload_n hx hb dX4_closeReason_64 rfl (lv_at hl 3 rfl) ?_
      refine va_get (D := D) (ci := 6) (C := RX4) (T := TX4) (N := 5) hx hb hts hinX4 hown hK.1 hP 3 rfl rfl 0 (by decide) (hts (.fieldLink RX4 9 "Switchgear$Switches" "grid" "LSwitchgear$Grid;") (by decide +kernel)) (fun _ h9 => h9) rfl dX4_closeReason_65 ?_
      refine lv_iload hx hb dX4_closeReason_68 (lv_at hl 1 rfl) ?_
      obtain ⟨r20, hc19, hf⟩ := sg_b_s hf
      refine sg_ci (va_runV (As := [.int r11]) (rest := []) ⟨hx, hb, hml, hown, hts⟩ (c_X1_sourceIn l D cA ad N _ _ _ hc19 _) (cwV 1 hts gX4_closeReason_X1_sourceIn rfl rfl rfl (by decide +kernel) ⟨Nat.le_of_ble_eq_true rfl, Nat.le_of_ble_eq_true rfl⟩) (sg_pre hK hP hD (ci := 3) (q0 := 1) rfl rfl) rfl rfl hl.1 rfl (lv_room (Nat.le_of_ble_eq_true rfl)) dX4_closeReason_70 ⟨Nat.zero_le _, Nat.zero_le _⟩) hD hS hA (fun H locs hP hD hS => ?_)
      refine lv_iconst (v := (-1)) hx hb dX4_closeReason_73 (by decide) ?_
      refine lv_icmp_eq (tgt := 81) hx hb dX4_closeReason_74 (by decide) (fun c22 => ?_) (fun c22 => ?_)
      · have hf := sg_ip c22 hf
        refine lv_iconst (v := 0) hx hb dX4_closeReason_81 (by decide) ?_
        exact hJ82 _ _ _ _ _ _ _ _ _ hf hP hD hS (lv_sub hl [3, 4, 5, 1, 0] rfl)
      · have hf := sg_in c22 hf
        refine lv_iconst (v := 1) hx hb dX4_closeReason_77 (by decide) ?_
        refine lv_goto (tgt := 82) hx hb dX4_closeReason_78 (by decide) ?_
        exact hJ82 _ _ _ _ _ _ _ _ _ hf hP hD hS (lv_sub hl [3, 4, 5, 1, 0] rfl)
    · have hf := sg_in c23 hf
      refine lv_bipush (v := 111) hx hb dX4_closeReason_22 (by decide) ?_
      have hq := Option.some.inj hf
      exact sg_zret hx hb hr rfl hP hD hS dX4_closeReason_24 (congrArg Prod.fst hq) (congrArg Prod.snd hq) hlocks
  · have hf := sg_in c24 hf
    refine lv_bipush (v := 99) hx hb dX4_closeReason_8 (by decide) ?_
    have hq := Option.some.inj hf
    exact sg_zret hx hb hr rfl hP hD hS dX4_closeReason_10 (congrArg Prod.fst hq) (congrArg Prod.snd hq) hlocks
set_option maxRecDepth 100000 in
set_option maxHeartbeats 4000000 in
theorem c_X2_canBeClosedInOrder (l : Launch) (D : va_G) (cA : Nat → ClassId) (ad : Nat → Nat) (N : Nat) (u : sg_St) (p1 : Int32) (r : Int32) (u' : sg_St) (hf : fX2_canBeClosedInOrder N u p1 = some (r, u')) : sg_CI l D cA (sg_WX cA ad) yX2_canBeClosedInOrder wsX2_canBeClosedInOrder ({ frames := 18, cells := 0, slots := 0, locals := 472 }) [.ref (ad 5), .int p1] u r u' := by
  intro sz
  refine Met.ofW (cc := cX2_canBeClosedInOrder) (maxL := 4) (ret := (some .boolean)) (by decide) rfl ?_
  intro p e s m args below meth c s₁ B hml hv
  obtain ⟨rfl, hsz, hP, hK, hD0⟩ := hv
  have hx := B.exec
  have hb := B.bytes
  have hr := B.returns
  have hts := atoms_spec (ws := wsX2_canBeClosedInOrder) B.pre
  have hown : s.vm.findClass RX2 = some m.cls := findClass_of_methodNamed B.named
  have hlocks := B.notSynchronized
  subst hsz
  have hD := hD0.self (sz := s.heap.size)
  generalize hAe : va_A (sg_WX cA ad u) s.heap.size = A at hD ⊢
  have hA : ∀ q : Nat, s.heap.size ≤ q → A q := fun q h => by rw [← hAe]; exact Or.inr h
  have hS : va_S A s.heap s.heap [] := va_S.rf
  have hl := lv_entry ([.ref (ad 5), .int p1]) (n := 4) (Nat.le_of_ble_eq_true rfl)
  rw [lg_entry_eq]
  generalize (lg_sl ([.ref (ad 5), .int p1]) ++ List.replicate (4 - (lg_sl ([.ref (ad 5), .int p1])).length) Slot.unset).toArray = ls at hl ⊢
  replace hl : lv_has ls 4 [(0, .ref (ad 5)), (1, .int p1)] := hl
  have hinX2 : ∀ w ∈ u_ws RX2 TX2 5, w ∈ wsX2_canBeClosedInOrder := by decide +kernel
  have hinX4 : ∀ w ∈ u_ws RX4 TX4 5, w ∈ wsX2_canBeClosedInOrder := by decide +kernel
  have hL4 : ∀ (v1 : Int32) (n : Nat) (x : sg_St × Int32 × Int32) (r9 : (Int32 × sg_St)), sg_it (fun x => fX2_canBeClosedInOrder_L4 N x.1 v1 x.2.1 x.2.2) n x = some r9 → r9 = (r, u') → ∀ (H : Heap) (locs : List Loc) (ls : Array Slot), va_P D vwCl (sg_WX cA ad x.1) H → va_D A (sg_WX cA ad x.1) → va_S A s.heap H locs → lv_has ls 4 [(0, .ref (ad 5)), (1, .int v1), (2, .int x.2.1), (3, .int x.2.2)] → W p l e (headSpec wsX2_canBeClosedInOrder ({ frames := 18, cells := 0, slots := 0, locals := 472 })).room s m ([.ref (ad 5), .int p1] : List Value).toArray below meth c H locs 0 0 (MQ below (va_Qi (fun x y => x = r ∧ y = u') (sg_BX D (sg_WX cA ad) A) A) ([.ref (ad 5), .int p1] : List Value).toArray s 0 0 A) (F0 m 4 ls []) := by
    intro v1
    refine sg_loop _ ?_
    intro x y r9 hf hI hy hr9 H locs ls hP hD hS hl
    replace hf : fX2_canBeClosedInOrder_L4 N x.1 v1 x.2.1 x.2.2 = some y := hf
    unfold fX2_canBeClosedInOrder_L4 at hf
    refine lv_iload_n hx hb dX2_canBeClosedInOrder_4 rfl (lv_at hl 3 rfl) ?_
    refine lv_bipush (v := 12) hx hb dX2_canBeClosedInOrder_5 (by decide) ?_
    refine lv_icmp_ge (tgt := 55) hx hb dX2_canBeClosedInOrder_7 (by decide) (fun c12 => ?_) (fun c12 => ?_)
    · have hf := sg_ip c12 hf
      refine lv_iconst (v := 1) hx hb dX2_canBeClosedInOrder_55 (by decide) ?_
      have hq := (hy _ (Option.some.inj hf).symm).trans hr9
      exact sg_zret hx hb hr rfl hP hD hS dX2_canBeClosedInOrder_56 (congrArg Prod.fst hq) (congrArg Prod.snd hq) hlocks
    · have hf := sg_in c12 hf
      refine lv_iload_n hx hb dX2_canBeClosedInOrder_10 rfl (lv_at hl 1 rfl) ?_
      refine lv_iload_n hx hb dX2_canBeClosedInOrder_11 rfl (lv_at hl 3 rfl) ?_
      obtain ⟨r2, hc1, hf⟩ := sg_b_s hf
      refine sg_ci0 (va_runSN (As := [.int v1, .int x.2.2]) (rest := []) ⟨hx, hb, hml, hown, hts⟩ (c_X5_has l D cA N _ _ _ hc1 _) ⟨va_cnB (host := RX5) 2 hts gX2_canBeClosedInOrder_X5_has_n66 rfl rfl rfl (hK.2 _ (List.mem_of_getElem? (i := 5) rfl)) (hts (.initialized RX5) (by decide +kernel)) (by decide +kernel) ⟨Nat.le_of_ble_eq_true rfl, Nat.le_of_ble_eq_true rfl⟩, hts (.static yX5_has) (by decide +kernel), trivial⟩ (sg_pre0 hK) rfl rfl hl.1 rfl (lv_room (Nat.le_of_ble_eq_true rfl)) dX2_canBeClosedInOrder_12 ⟨Nat.zero_le _, Nat.zero_le _⟩) hP hS hA (fun H locs hP hS => ?_)
      refine lv_if_eq (tgt := 49) hx hb dX2_canBeClosedInOrder_15 (by decide) (fun c11 => ?_) (fun c11 => ?_)
      · have hf := sg_ip c11 hf
        refine lv_iinc (v := x.2.2 + 1) (lv' := [(3, .int (x.2.2 + 1)), (0, .ref (ad 5)), (1, .int v1), (2, .int x.2.1)]) hx hb dX2_canBeClosedInOrder_49 hl (k := 3) rfl rfl (by decide) rfl (fun ls hl => ?_)
        refine lv_goto (tgt := 4) hx hb dX2_canBeClosedInOrder_52 (by decide) ?_
        exact hI _ (Option.some.inj hf).symm hr9 _ _ _ hP hD hS (lv_sub hl [1, 2, 3, 0] rfl)
      · have hf := sg_in c11 hf
        refine lv_aload_n hx hb dX2_canBeClosedInOrder_18 rfl (lv_at hl 0 rfl) ?_
        refine va_get (D := D) (ci := 4) (C := RX2) (T := TX2) (N := 5) hx hb hts hinX2 hown hK.1 hP 5 rfl rfl 1 (by decide) (hts (.fieldLink RX2 15 "Switchgear$Planner" "switches" "LSwitchgear$Switches;") (by decide +kernel)) (fun _ h9 => h9) rfl dX2_canBeClosedInOrder_19 ?_
        refine lv_iload_n hx hb dX2_canBeClosedInOrder_22 rfl (lv_at hl 3 rfl) ?_
        refine lv_aload_n hx hb dX2_canBeClosedInOrder_23 rfl (lv_at hl 0 rfl) ?_
        refine va_get (D := D) (ci := 4) (C := RX2) (T := TX2) (N := 5) hx hb hts hinX2 hown hK.1 hP 5 rfl rfl 1 (by decide) (hts (.fieldLink RX2 15 "Switchgear$Planner" "switches" "LSwitchgear$Switches;") (by decide +kernel)) (fun _ h9 => h9) rfl dX2_canBeClosedInOrder_24 ?_
        refine va_getN (D := D) (ci := 6) (C := RX4) (T := TX4) (N := 5) (host := RX5) (ref := RX4) hx hb hts hinX4 hown hK.1 hP 3 rfl rfl 2 (by decide) (va_Nw.use rfl (hK.2 _ (List.mem_of_getElem? (i := 21) rfl))) (fun _ h9 => h9) rfl dX2_canBeClosedInOrder_27 ?_
        refine lv_iload_n hx hb dX2_canBeClosedInOrder_30 rfl (lv_at hl 2 rfl) ?_
        refine lv_ior hx hb dX2_canBeClosedInOrder_31 ?_
        obtain ⟨r5, u6, hc4, hf⟩ := sg_b2_s hf
        refine sg_ci (va_runV (As := [.int x.2.2, .int ((x.1 4 0) ||| x.2.1)]) (rest := []) ⟨hx, hb, hml, hown, hts⟩ (c_X4_closeReason l D cA ad N _ _ _ _ _ hc4 _) (cwV 2 hts gX2_canBeClosedInOrder_X4_closeReason rfl rfl rfl (by decide +kernel) ⟨Nat.le_of_ble_eq_true rfl, Nat.le_of_ble_eq_true rfl⟩) (sg_pre hK hP hD (ci := 6) (q0 := 3) rfl rfl) rfl rfl hl.1 rfl (lv_room (Nat.le_of_ble_eq_true rfl)) dX2_canBeClosedInOrder_32 ⟨Nat.zero_le _, Nat.zero_le _⟩) hD hS hA (fun H locs hP hD hS => ?_)
        refine lv_bipush (v := 110) hx hb dX2_canBeClosedInOrder_35 (by decide) ?_
        refine lv_icmp_eq (tgt := 42) hx hb dX2_canBeClosedInOrder_37 (by decide) (fun c10 => ?_) (fun c10 => ?_)
        · have hf := sg_ip c10 hf
          refine lv_iload_n hx hb dX2_canBeClosedInOrder_42 rfl (lv_at hl 2 rfl) ?_
          refine lv_iload_n hx hb dX2_canBeClosedInOrder_43 rfl (lv_at hl 3 rfl) ?_
          obtain ⟨r8, hc7, hf⟩ := sg_b_s hf
          refine sg_ci0 (va_runSN (As := [.int x.2.2]) (rest := [.int x.2.1]) ⟨hx, hb, hml, hown, hts⟩ (c_X5_bit l D cA N _ _ hc7 _) ⟨va_cnB (host := RX5) 1 hts gX2_canBeClosedInOrder_X5_bit_n69 rfl rfl rfl (hK.2 _ (List.mem_of_getElem? (i := 6) rfl)) (hts (.initialized RX5) (by decide +kernel)) (by decide +kernel) ⟨Nat.le_of_ble_eq_true rfl, Nat.le_of_ble_eq_true rfl⟩, hts (.static yX5_bit) (by decide +kernel), trivial⟩ (sg_pre0 hK) rfl rfl hl.1 rfl (lv_room (Nat.le_of_ble_eq_true rfl)) dX2_canBeClosedInOrder_44 ⟨Nat.zero_le _, Nat.zero_le _⟩) hP hS hA (fun H locs hP hS => ?_)
          refine lv_ior hx hb dX2_canBeClosedInOrder_47 ?_
          refine lv_istore_n (lv' := [(2, .int (x.2.1 ||| r8)), (0, .ref (ad 5)), (1, .int v1), (3, .int x.2.2)]) hx hb dX2_canBeClosedInOrder_48 rfl hl (by decide) rfl (fun ls hl => ?_)
          refine lv_iinc (v := x.2.2 + 1) (lv' := [(3, .int (x.2.2 + 1)), (2, .int (x.2.1 ||| r8)), (0, .ref (ad 5)), (1, .int v1)]) hx hb dX2_canBeClosedInOrder_49 hl (k := 3) rfl rfl (by decide) rfl (fun ls hl => ?_)
          refine lv_goto (tgt := 4) hx hb dX2_canBeClosedInOrder_52 (by decide) ?_
          exact hI _ (Option.some.inj hf).symm hr9 _ _ _ hP hD hS (lv_sub hl [2, 3, 1, 0] rfl)
        · have hf := sg_in c10 hf
          refine lv_iconst (v := 0) hx hb dX2_canBeClosedInOrder_40 (by decide) ?_
          have hq := (hy _ (Option.some.inj hf).symm).trans hr9
          exact sg_zret hx hb hr rfl hP hD hS dX2_canBeClosedInOrder_41 (congrArg Prod.fst hq) (congrArg Prod.snd hq) hlocks
  unfold fX2_canBeClosedInOrder at hf
  refine lv_iconst (v := 0) hx hb dX2_canBeClosedInOrder_0 (by decide) ?_
  refine lv_istore_n (lv' := [(2, .int 0), (0, .ref (ad 5)), (1, .int p1)]) hx hb dX2_canBeClosedInOrder_1 rfl hl (by decide) rfl (fun ls hl => ?_)
  refine lv_iconst (v := 0) hx hb dX2_canBeClosedInOrder_2 (by decide) ?_
  refine lv_istore_n (lv' := [(3, .int 0), (2, .int 0), (0, .ref (ad 5)), (1, .int p1)]) hx hb dX2_canBeClosedInOrder_3 rfl hl (by decide) rfl (fun ls hl => ?_)
  exact hL4 _ _ _ _ hf rfl _ _ _ hP hD hS (lv_sub hl [2, 3, 1, 0] rfl)
set_option maxRecDepth 100000 in
set_option maxHeartbeats 4000000 in
theorem c_X2_valueOf (l : Launch) (D : va_G) (cA : Nat → ClassId) (ad : Nat → Nat) (N : Nat) (u : sg_St) (p1 : Int32) (r : Int32) (hf : fX2_valueOf N u p1 = some r) : sg_CI l D cA (sg_WX cA ad) yX2_valueOf wsX2_valueOf ({ frames := 4, cells := 0, slots := 0, locals := 97 }) [.ref (ad 5), .int p1] u r u := by
  intro sz
  refine Met.ofW (cc := cX2_valueOf) (maxL := 2) (ret := (some .int)) (by decide) rfl ?_
  intro p e s m args below meth c s₁ B hml hv
  obtain ⟨rfl, hsz, hP, hK, hD0⟩ := hv
  have hx := B.exec
  have hb := B.bytes
  have hr := B.returns
  have hts := atoms_spec (ws := wsX2_valueOf) B.pre
  have hown : s.vm.findClass RX2 = some m.cls := findClass_of_methodNamed B.named
  have hlocks := B.notSynchronized
  subst hsz
  have hD := hD0.self (sz := s.heap.size)
  generalize hAe : va_A (sg_WX cA ad u) s.heap.size = A at hD ⊢
  have hA : ∀ q : Nat, s.heap.size ≤ q → A q := fun q h => by rw [← hAe]; exact Or.inr h
  have hS : va_S A s.heap s.heap [] := va_S.rf
  have hl := lv_entry ([.ref (ad 5), .int p1]) (n := 2) (Nat.le_of_ble_eq_true rfl)
  rw [lg_entry_eq]
  generalize (lg_sl ([.ref (ad 5), .int p1]) ++ List.replicate (2 - (lg_sl ([.ref (ad 5), .int p1])).length) Slot.unset).toArray = ls at hl ⊢
  replace hl : lv_has ls 2 [(0, .ref (ad 5)), (1, .int p1)] := hl
  have hinX2 : ∀ w ∈ u_ws RX2 TX2 5, w ∈ wsX2_valueOf := by decide +kernel
  have hinX4 : ∀ w ∈ u_ws RX4 TX4 5, w ∈ wsX2_valueOf := by decide +kernel
  unfold fX2_valueOf at hf
  refine lv_aload_n hx hb dX2_valueOf_0 rfl (lv_at hl 0 rfl) ?_
  refine va_get (D := D) (ci := 4) (C := RX2) (T := TX2) (N := 5) hx hb hts hinX2 hown hK.1 hP 5 rfl rfl 0 (by decide) (hts (.fieldLink RX2 9 "Switchgear$Planner" "grid" "LSwitchgear$Grid;") (by decide +kernel)) (fun _ h9 => h9) rfl dX2_valueOf_1 ?_
  refine lv_aload_n hx hb dX2_valueOf_4 rfl (lv_at hl 0 rfl) ?_
  refine va_get (D := D) (ci := 4) (C := RX2) (T := TX2) (N := 5) hx hb hts hinX2 hown hK.1 hP 5 rfl rfl 0 (by decide) (hts (.fieldLink RX2 9 "Switchgear$Planner" "grid" "LSwitchgear$Grid;") (by decide +kernel)) (fun _ h9 => h9) rfl dX2_valueOf_5 ?_
  refine lv_aload_n hx hb dX2_valueOf_8 rfl (lv_at hl 0 rfl) ?_
  refine va_get (D := D) (ci := 4) (C := RX2) (T := TX2) (N := 5) hx hb hts hinX2 hown hK.1 hP 5 rfl rfl 1 (by decide) (hts (.fieldLink RX2 15 "Switchgear$Planner" "switches" "LSwitchgear$Switches;") (by decide +kernel)) (fun _ h9 => h9) rfl dX2_valueOf_9 ?_
  refine va_getN (D := D) (ci := 6) (C := RX4) (T := TX4) (N := 5) (host := RX5) (ref := RX4) hx hb hts hinX4 hown hK.1 hP 3 rfl rfl 2 (by decide) (va_Nw.use rfl (hK.2 _ (List.mem_of_getElem? (i := 21) rfl))) (fun _ h9 => h9) rfl dX2_valueOf_12 ?_
  refine lv_iload_n hx hb dX2_valueOf_15 rfl (lv_at hl 1 rfl) ?_
  refine lv_ior hx hb dX2_valueOf_16 ?_
  obtain ⟨r2, hc1, hf⟩ := sg_b_s hf
  refine sg_ci (va_runV (As := [.int ((u 4 0) ||| p1)]) (rest := [.ref (ad 1)]) ⟨hx, hb, hml, hown, hts⟩ (c_X1_liveWith l D cA ad N _ _ _ hc1 _) (cwV 1 hts gX2_valueOf_X1_liveWith rfl rfl rfl (by decide +kernel) ⟨Nat.le_of_ble_eq_true rfl, Nat.le_of_ble_eq_true rfl⟩) (sg_pre hK hP hD (ci := 3) (q0 := 1) rfl rfl) rfl rfl hl.1 rfl (lv_room (Nat.le_of_ble_eq_true rfl)) dX2_valueOf_17 ⟨Nat.zero_le _, Nat.zero_le _⟩) hD hS hA (fun H locs hP hD hS => ?_)
  obtain ⟨r5, hc4, hf⟩ := sg_b_s hf
  refine sg_ci (va_runV (As := [.int r2]) (rest := []) ⟨hx, hb, hml, hown, hts⟩ (c_X1_weightIn l D cA ad N _ _ _ hc4 _) (cwV 1 hts gX2_valueOf_X1_weightIn rfl rfl rfl (by decide +kernel) ⟨Nat.le_of_ble_eq_true rfl, Nat.le_of_ble_eq_true rfl⟩) (sg_pre hK hP hD (ci := 3) (q0 := 1) rfl rfl) rfl rfl hl.1 rfl (lv_room (Nat.le_of_ble_eq_true rfl)) dX2_valueOf_20 ⟨Nat.zero_le _, Nat.zero_le _⟩) hD hS hA (fun H locs hP hD hS => ?_)
  have hq := Option.some.inj hf
  exact sg_iret hx hb hr hP hD hS dX2_valueOf_23 hq rfl hlocks
set_option maxRecDepth 100000 in
set_option maxHeartbeats 4000000 in
theorem c_X2_isBetter (l : Launch) (D : va_G) (cA : Nat → ClassId) (ad : Nat → Nat) (N : Nat) (u : sg_St) (p1 p2 : Int32) (r : Int32) (hf : fX2_isBetter N u p1 p2 = some r) : sg_CI l D cA (sg_WX cA ad) yX2_isBetter wsX2_isBetter ({ frames := 1, cells := 0, slots := 0, locals := 20 }) [.ref (ad 5), .int p1, .int p2] u r u := by
  intro sz
  refine Met.ofW (cc := cX2_isBetter) (maxL := 3) (ret := (some .boolean)) (by decide) rfl ?_
  intro p e s m args below meth c s₁ B hml hv
  obtain ⟨rfl, hsz, hP, hK, hD0⟩ := hv
  have hx := B.exec
  have hb := B.bytes
  have hr := B.returns
  have hts := atoms_spec (ws := wsX2_isBetter) B.pre
  have hown : s.vm.findClass RX2 = some m.cls := findClass_of_methodNamed B.named
  have hlocks := B.notSynchronized
  subst hsz
  have hD := hD0.self (sz := s.heap.size)
  generalize hAe : va_A (sg_WX cA ad u) s.heap.size = A at hD ⊢
  have hA : ∀ q : Nat, s.heap.size ≤ q → A q := fun q h => by rw [← hAe]; exact Or.inr h
  have hS : va_S A s.heap s.heap [] := va_S.rf
  have hl := lv_entry ([.ref (ad 5), .int p1, .int p2]) (n := 3) (Nat.le_of_ble_eq_true rfl)
  rw [lg_entry_eq]
  generalize (lg_sl ([.ref (ad 5), .int p1, .int p2]) ++ List.replicate (3 - (lg_sl ([.ref (ad 5), .int p1, .int p2])).length) Slot.unset).toArray = ls at hl ⊢
  replace hl : lv_has ls 3 [(0, .ref (ad 5)), (1, .int p1), (2, .int p2)] := hl
  have hinX2 : ∀ w ∈ u_ws RX2 TX2 5, w ∈ wsX2_isBetter := by decide +kernel
  have hJ31 : ∀ (H : Heap) (locs : List Loc) (ls : Array Slot), fX2_isBetter_j31 N u  = some r → va_P D vwCl (sg_WX cA ad u) H → va_D A (sg_WX cA ad u) → va_S A s.heap H locs → lv_has ls 3 [(0, .ref (ad 5))] → W p l e (headSpec wsX2_isBetter ({ frames := 1, cells := 0, slots := 0, locals := 20 })).room s m ([.ref (ad 5), .int p1, .int p2] : List Value).toArray below meth c H locs 0 0 (MQ below (va_Qi (fun x y => x = r ∧ y = u) (sg_BX D (sg_WX cA ad) A) A) ([.ref (ad 5), .int p1, .int p2] : List Value).toArray s 0 0 A) (F0 m 31 ls []) := by
    intro H locs ls hf hP hD hS hl
    unfold fX2_isBetter_j31 at hf
    refine lv_iconst (v := 0) hx hb dX2_isBetter_31 (by decide) ?_
    have hq := Option.some.inj hf
    exact sg_zret hx hb hr rfl hP hD hS dX2_isBetter_32 hq rfl hlocks
  unfold fX2_isBetter at hf
  refine lv_iload_n hx hb dX2_isBetter_0 rfl (lv_at hl 1 rfl) ?_
  refine lv_aload_n hx hb dX2_isBetter_1 rfl (lv_at hl 0 rfl) ?_
  refine va_get (D := D) (ci := 4) (C := RX2) (T := TX2) (N := 5) hx hb hts hinX2 hown hK.1 hP 5 rfl rfl 4 (by decide) (hts (.fieldLink RX2 36 "Switchgear$Planner" "bestValue" "I") (by decide +kernel)) (fun _ h9 => h9) rfl dX2_isBetter_2 ?_
  refine lv_icmp_gt (tgt := 27) hx hb dX2_isBetter_5 (by decide) (fun c6 => ?_) (fun c6 => ?_)
  · have hf := sg_ip c6 hf
    refine lv_iconst (v := 1) hx hb dX2_isBetter_27 (by decide) ?_
    refine lv_goto (tgt := 32) hx hb dX2_isBetter_28 (by decide) ?_
    have hq := Option.some.inj hf
    exact sg_zret hx hb hr rfl hP hD hS dX2_isBetter_32 hq rfl hlocks
  · have hf := sg_in c6 hf
    refine lv_iload_n hx hb dX2_isBetter_8 rfl (lv_at hl 1 rfl) ?_
    refine lv_aload_n hx hb dX2_isBetter_9 rfl (lv_at hl 0 rfl) ?_
    refine va_get (D := D) (ci := 4) (C := RX2) (T := TX2) (N := 5) hx hb hts hinX2 hown hK.1 hP 5 rfl rfl 4 (by decide) (hts (.fieldLink RX2 36 "Switchgear$Planner" "bestValue" "I") (by decide +kernel)) (fun _ h9 => h9) rfl dX2_isBetter_10 ?_
    refine lv_icmp_ne (tgt := 31) hx hb dX2_isBetter_13 (by decide) (fun c5 => ?_) (fun c5 => ?_)
    · have hf := sg_in c5 hf
      exact hJ31 _ _ _ hf hP hD hS (lv_sub hl [0] rfl)
    · have hf := sg_ip c5 hf
      refine lv_iload_n hx hb dX2_isBetter_16 rfl (lv_at hl 2 rfl) ?_
      refine lv_aload_n hx hb dX2_isBetter_17 rfl (lv_at hl 0 rfl) ?_
      refine va_get (D := D) (ci := 4) (C := RX2) (T := TX2) (N := 5) hx hb hts hinX2 hown hK.1 hP 5 rfl rfl 3 (by decide) (hts (.fieldLink RX2 29 "Switchgear$Planner" "bestPlan" "I") (by decide +kernel)) (fun _ h9 => h9) rfl dX2_isBetter_18 ?_
      obtain ⟨r2, hc1, hf⟩ := sg_b_s hf
      refine sg_ci0 (va_runS (As := [.int (u 8 0)]) (rest := [.int p2]) ⟨hx, hb, hml, hown, hts⟩ (c_J6_bitCount_0f7a4 l D cA N _ _ hc1 _) (va_cwS 1 hts gX2_isBetter_J6_bitCount_0f7a4 rfl rfl rfl (by decide +kernel) ⟨Nat.le_of_ble_eq_true rfl, Nat.le_of_ble_eq_true rfl⟩) (sg_pre0 hK) rfl rfl hl.1 rfl (lv_room (Nat.le_of_ble_eq_true rfl)) dX2_isBetter_21 ⟨Nat.zero_le _, Nat.zero_le _⟩) hP hS hA (fun H locs hP hS => ?_)
      refine lv_icmp_ge (tgt := 31) hx hb dX2_isBetter_24 (by decide) (fun c4 => ?_) (fun c4 => ?_)
      · have hf := sg_ip c4 hf
        exact hJ31 _ _ _ hf hP hD hS (lv_sub hl [0] rfl)
      · have hf := sg_in c4 hf
        refine lv_iconst (v := 1) hx hb dX2_isBetter_27 (by decide) ?_
        refine lv_goto (tgt := 32) hx hb dX2_isBetter_28 (by decide) ?_
        have hq := Option.some.inj hf
        exact sg_zret hx hb hr rfl hP hD hS dX2_isBetter_32 hq rfl hlocks
set_option maxRecDepth 100000 in
set_option maxHeartbeats 4000000 in
theorem c_X2_keepIfBetter (l : Launch) (D : va_G) (cA : Nat → ClassId) (ad : Nat → Nat) (N : Nat) (u : sg_St) (p1 p2 : Int32) (u' : sg_St) (hf : fX2_keepIfBetter N u p1 p2 = some u') : sg_CV l D cA (sg_WX cA ad) yX2_keepIfBetter wsX2_keepIfBetter ({ frames := 2, cells := 0, slots := 0, locals := 42 }) [.ref (ad 5), .int p1, .int p2] u u' := by
  intro sz
  refine Met.ofW (cc := cX2_keepIfBetter) (maxL := 3) (ret := none) (by decide) rfl ?_
  intro p e s m args below meth c s₁ B hml hv
  obtain ⟨rfl, hsz, hP, hK, hD0⟩ := hv
  have hx := B.exec
  have hb := B.bytes
  have hr := B.returns
  have hts := atoms_spec (ws := wsX2_keepIfBetter) B.pre
  have hown : s.vm.findClass RX2 = some m.cls := findClass_of_methodNamed B.named
  have hlocks := B.notSynchronized
  subst hsz
  have hD := hD0.self (sz := s.heap.size)
  generalize hAe : va_A (sg_WX cA ad u) s.heap.size = A at hD ⊢
  have hA : ∀ q : Nat, s.heap.size ≤ q → A q := fun q h => by rw [← hAe]; exact Or.inr h
  have hS : va_S A s.heap s.heap [] := va_S.rf
  have hl := lv_entry ([.ref (ad 5), .int p1, .int p2]) (n := 3) (Nat.le_of_ble_eq_true rfl)
  rw [lg_entry_eq]
  generalize (lg_sl ([.ref (ad 5), .int p1, .int p2]) ++ List.replicate (3 - (lg_sl ([.ref (ad 5), .int p1, .int p2])).length) Slot.unset).toArray = ls at hl ⊢
  replace hl : lv_has ls 3 [(0, .ref (ad 5)), (1, .int p1), (2, .int p2)] := hl
  have hinX2 : ∀ w ∈ u_ws RX2 TX2 5, w ∈ wsX2_keepIfBetter := by decide +kernel
  unfold fX2_keepIfBetter at hf
  refine lv_aload_n hx hb dX2_keepIfBetter_0 rfl (lv_at hl 0 rfl) ?_
  refine lv_iload_n hx hb dX2_keepIfBetter_1 rfl (lv_at hl 2 rfl) ?_
  refine lv_iload_n hx hb dX2_keepIfBetter_2 rfl (lv_at hl 1 rfl) ?_
  obtain ⟨r2, hc1, hf⟩ := sg_b_s hf
  refine sg_ci0 (va_runS (As := [.int p1]) (rest := [.int p2, .ref (ad 5)]) ⟨hx, hb, hml, hown, hts⟩ (c_J6_bitCount_0f7a4 l D cA N _ _ hc1 _) (va_cwS 1 hts gX2_keepIfBetter_J6_bitCount_0f7a4 rfl rfl rfl (by decide +kernel) ⟨Nat.le_of_ble_eq_true rfl, Nat.le_of_ble_eq_true rfl⟩) (sg_pre0 hK) rfl rfl hl.1 rfl (lv_room (Nat.le_of_ble_eq_true rfl)) dX2_keepIfBetter_3 ⟨Nat.zero_le _, Nat.zero_le _⟩) hP hS hA (fun H locs hP hS => ?_)
  obtain ⟨r5, hc4, hf⟩ := sg_b_s hf
  refine sg_ci (va_runV (As := [.int p2, .int r2]) (rest := []) ⟨hx, hb, hml, hown, hts⟩ (c_X2_isBetter l D cA ad N _ _ _ _ hc4 _) (cwV 2 hts gX2_keepIfBetter_X2_isBetter rfl rfl rfl (by decide +kernel) ⟨Nat.le_of_ble_eq_true rfl, Nat.le_of_ble_eq_true rfl⟩) (sg_pre hK hP hD (ci := 4) (q0 := 5) rfl rfl) rfl rfl hl.1 rfl (lv_room (Nat.le_of_ble_eq_true rfl)) dX2_keepIfBetter_6 ⟨Nat.zero_le _, Nat.zero_le _⟩) hD hS hA (fun H locs hP hD hS => ?_)
  refine lv_if_eq (tgt := 22) hx hb dX2_keepIfBetter_9 (by decide) (fun c7 => ?_) (fun c7 => ?_)
  · have hf := sg_ip c7 hf
    have hq := Option.some.inj hf
    exact sg_vret hx hb hr hP hD hS dX2_keepIfBetter_22 hq hlocks
  · have hf := sg_in c7 hf
    refine lv_aload_n hx hb dX2_keepIfBetter_12 rfl (lv_at hl 0 rfl) ?_
    refine lv_iload_n hx hb dX2_keepIfBetter_13 rfl (lv_at hl 1 rfl) ?_
    refine va_put (D := D) (ci := 4) (v := .int p1) (ty := .int) (C := RX2) (T := TX2) (N := 5) hx hb hts hinX2 tyX2 tyX2_ok nmX2 hown hK.1 hP hD hS 5 rfl rfl 3 (by decide) (hts (.fieldLink RX2 29 "Switchgear$Planner" "bestPlan" "I") (by decide +kernel)) (fun _ h9 => h9) rfl (by decide +kernel) rfl rfl (Nat.le_of_ble_eq_true rfl) dX2_keepIfBetter_14 (fun H locs hP hD hS => ?_)
    replace hP : va_P D vwCl (sg_WX cA ad (sg_set u 8 0 p1)) H := by rw [← sg_WX_8]; exact hP
    replace hD : va_D A (sg_WX cA ad (sg_set u 8 0 p1)) := by rw [← sg_WX_8]; exact hD
    refine lv_aload_n hx hb dX2_keepIfBetter_17 rfl (lv_at hl 0 rfl) ?_
    refine lv_iload_n hx hb dX2_keepIfBetter_18 rfl (lv_at hl 2 rfl) ?_
    refine va_put (D := D) (ci := 4) (v := .int p2) (ty := .int) (C := RX2) (T := TX2) (N := 5) hx hb hts hinX2 tyX2 tyX2_ok nmX2 hown hK.1 hP hD hS 5 rfl rfl 4 (by decide) (hts (.fieldLink RX2 36 "Switchgear$Planner" "bestValue" "I") (by decide +kernel)) (fun _ h9 => h9) rfl (by decide +kernel) rfl rfl (Nat.le_of_ble_eq_true rfl) dX2_keepIfBetter_19 (fun H locs hP hD hS => ?_)
    replace hP : va_P D vwCl (sg_WX cA ad (sg_set (sg_set u 8 0 p1) 9 0 p2)) H := by rw [← sg_WX_9]; exact hP
    replace hD : va_D A (sg_WX cA ad (sg_set (sg_set u 8 0 p1) 9 0 p2)) := by rw [← sg_WX_9]; exact hD
    have hq := Option.some.inj hf
    exact sg_vret hx hb hr hP hD hS dX2_keepIfBetter_22 hq hlocks
set_option maxRecDepth 100000 in
set_option maxHeartbeats 4000000 in
theorem c_X2_extend (l : Launch) (D : va_G) (cA : Nat → ClassId) (ad : Nat → Nat) (N : Nat) : ∀ (d : Nat) (u : sg_St) (p1 p2 : Int32) (u' : sg_St), fX2_extend N d u p1 p2 = some u' → sg_CV l D cA (sg_WX cA ad) yX2_extend wsX2_extend ({ frames := 18 + d, cells := 0, slots := 0, locals := 472 + d * 25 }) [.ref (ad 5), .int p1, .int p2] u u' := by
  intro d
  induction d with
  | zero => intros; rename_i hf; cases hf
  | succ d ih =>
  intro u p1 p2 u' hf
  intro sz
  refine Met.ofW (cc := cX2_extend) (maxL := 6) (ret := none) (by decide) rfl ?_
  intro p e s m args below meth c s₁ B hml hv
  obtain ⟨rfl, hsz, hP, hK, hD0⟩ := hv
  have hx := B.exec
  have hb := B.bytes
  have hr := B.returns
  have hts := atoms_spec (ws := wsX2_extend) B.pre
  have hown : s.vm.findClass RX2 = some m.cls := findClass_of_methodNamed B.named
  have hlocks := B.notSynchronized
  subst hsz
  have hD := hD0.self (sz := s.heap.size)
  generalize hAe : va_A (sg_WX cA ad u) s.heap.size = A at hD ⊢
  have hA : ∀ q : Nat, s.heap.size ≤ q → A q := fun q h => by rw [← hAe]; exact Or.inr h
  have hS : va_S A s.heap s.heap [] := va_S.rf
  have hl := lv_entry ([.ref (ad 5), .int p1, .int p2]) (n := 6) (Nat.le_of_ble_eq_true rfl)
  rw [lg_entry_eq]
  generalize (lg_sl ([.ref (ad 5), .int p1, .int p2]) ++ List.replicate (6 - (lg_sl ([.ref (ad 5), .int p1, .int p2])).length) Slot.unset).toArray = ls at hl ⊢
  replace hl : lv_has ls 6 [(0, .ref (ad 5)), (1, .int p1), (2, .int p2)] := hl
  have hinX2 : ∀ w ∈ u_ws RX2 TX2 5, w ∈ wsX2_extend := by decide +kernel
  have hinX4 : ∀ w ∈ u_ws RX4 TX4 5, w ∈ wsX2_extend := by decide +kernel
  have hL2 : ∀ (v1 : Int32) (n : Nat) (x : sg_St × Int32) (r9 : sg_St), sg_it (fun x => fX2_extend_L2 N (fX2_extend N d) x.1 v1 x.2) n x = some r9 → r9 = u' → ∀ (H : Heap) (locs : List Loc) (ls : Array Slot), va_P D vwCl (sg_WX cA ad x.1) H → va_D A (sg_WX cA ad x.1) → va_S A s.heap H locs → lv_has ls 6 [(0, .ref (ad 5)), (1, .int v1), (3, .int x.2)] → W p l e (headSpec wsX2_extend ({ frames := 18 + (d + 1), cells := 0, slots := 0, locals := 472 + (d + 1) * 25 })).room s m ([.ref (ad 5), .int p1, .int p2] : List Value).toArray below meth c H locs 0 0 (MQ below (va_Qv (fun y => y = u') (sg_BX D (sg_WX cA ad) A) A) ([.ref (ad 5), .int p1, .int p2] : List Value).toArray s 0 0 A) (F0 m 2 ls []) := by
    intro v1
    refine sg_loop _ ?_
    intro x y r9 hf hI hy hr9 H locs ls hP hD hS hl
    replace hf : fX2_extend_L2 N (fX2_extend N d) x.1 v1 x.2 = some y := hf
    unfold fX2_extend_L2 at hf
    refine lv_iload_n hx hb dX2_extend_2 rfl (lv_at hl 2 rfl) ?_
    refine lv_bipush (v := 12) hx hb dX2_extend_3 (by decide) ?_
    refine lv_icmp_ge (tgt := 116) hx hb dX2_extend_5 (by decide) (fun c34 => ?_) (fun c34 => ?_)
    · have hf := sg_ip c34 hf
      have hq := (hy _ (Option.some.inj hf).symm).trans hr9
      exact sg_vret hx hb hr hP hD hS dX2_extend_116 hq hlocks
    · have hf := sg_in c34 hf
      refine lv_aload_n hx hb dX2_extend_8 rfl (lv_at hl 0 rfl) ?_
      refine va_get (D := D) (ci := 4) (C := RX2) (T := TX2) (N := 5) hx hb hts hinX2 hown hK.1 hP 5 rfl rfl 2 (by decide) (hts (.fieldLink RX2 25 "Switchgear$Planner" "candidates" "I") (by decide +kernel)) (fun _ h9 => h9) rfl dX2_extend_9 ?_
      refine lv_iload_n hx hb dX2_extend_12 rfl (lv_at hl 2 rfl) ?_
      obtain ⟨r2, hc1, hf⟩ := sg_b_s hf
      refine sg_ci0 (va_runSN (As := [.int (x.1 7 0), .int x.2]) (rest := []) ⟨hx, hb, hml, hown, hts⟩ (c_X5_has l D cA N _ _ _ hc1 _) ⟨va_cnB (host := RX5) 2 hts gX2_extend_X5_has_n66 rfl rfl rfl (hK.2 _ (List.mem_of_getElem? (i := 5) rfl)) (hts (.initialized RX5) (by decide +kernel)) (by decide +kernel) ⟨by show 0 + 1 ≤ 18 + (d + 1); omega, by show 8 + (2 + 11) + 0 ≤ 472 + (d + 1) * 25; omega⟩, hts (.static yX5_has) (by decide +kernel), trivial⟩ (sg_pre0 hK) rfl rfl hl.1 rfl (lv_room (Nat.le_of_ble_eq_true rfl)) dX2_extend_13 ⟨Nat.zero_le _, Nat.zero_le _⟩) hP hS hA (fun H locs hP hS => ?_)
      refine lv_if_ne (tgt := 22) hx hb dX2_extend_16 (by decide) (fun c33 => ?_) (fun c33 => ?_)
      · have hf := sg_in c33 hf
        refine lv_iload_n hx hb dX2_extend_22 rfl (lv_at hl 1 rfl) ?_
        refine lv_aload_n hx hb dX2_extend_23 rfl (lv_at hl 0 rfl) ?_
        refine va_get (D := D) (ci := 4) (C := RX2) (T := TX2) (N := 5) hx hb hts hinX2 hown hK.1 hP 5 rfl rfl 2 (by decide) (hts (.fieldLink RX2 25 "Switchgear$Planner" "candidates" "I") (by decide +kernel)) (fun _ h9 => h9) rfl dX2_extend_24 ?_
        refine lv_iload_n hx hb dX2_extend_27 rfl (lv_at hl 2 rfl) ?_
        obtain ⟨r5, hc4, hf⟩ := sg_b_s hf
        refine sg_ci0 (va_runSN (As := [.int x.2]) (rest := [.int (x.1 7 0), .int v1]) ⟨hx, hb, hml, hown, hts⟩ (c_X5_bit l D cA N _ _ hc4 _) ⟨va_cnB (host := RX5) 1 hts gX2_extend_X5_bit_n69 rfl rfl rfl (hK.2 _ (List.mem_of_getElem? (i := 6) rfl)) (hts (.initialized RX5) (by decide +kernel)) (by decide +kernel) ⟨by show 0 + 1 ≤ 18 + (d + 1); omega, by show 8 + (1 + 11) + 0 ≤ 472 + (d + 1) * 25; omega⟩, hts (.static yX5_bit) (by decide +kernel), trivial⟩ (sg_pre0 hK) rfl rfl hl.1 rfl (lv_room (Nat.le_of_ble_eq_true rfl)) dX2_extend_28 ⟨Nat.zero_le _, Nat.zero_le _⟩) hP hS hA (fun H locs hP hS => ?_)
        refine lv_iconst (v := 1) hx hb dX2_extend_31 (by decide) ?_
        refine lv_isub hx hb dX2_extend_32 ?_
        refine lv_iconst (v := (-1)) hx hb dX2_extend_33 (by decide) ?_
        refine lv_ixor hx hb dX2_extend_34 ?_
        refine lv_iand hx hb dX2_extend_35 ?_
        refine lv_ior hx hb dX2_extend_36 ?_
        refine lv_istore (lv' := [(4, .int (v1 ||| ((x.1 7 0) &&& ((r5 - 1) ^^^ ((-1)))))), (0, .ref (ad 5)), (1, .int v1), (3, .int x.2)]) hx hb dX2_extend_37 hl (by decide) rfl (fun ls hl => ?_)
        refine lv_aload_n hx hb dX2_extend_39 rfl (lv_at hl 1 rfl) ?_
        refine lv_aload_n hx hb dX2_extend_40 rfl (lv_at hl 1 rfl) ?_
        refine lv_iload hx hb dX2_extend_41 (lv_at hl 0 rfl) ?_
        obtain ⟨r8, hc7, hf⟩ := sg_b_s hf
        refine sg_ci (va_runV (As := [.int (v1 ||| ((x.1 7 0) &&& ((r5 - 1) ^^^ ((-1)))))]) (rest := [.ref (ad 5)]) ⟨hx, hb, hml, hown, hts⟩ (c_X2_valueOf l D cA ad N _ _ _ hc7 _) (cwV 1 hts gX2_extend_X2_valueOf rfl rfl rfl (by decide +kernel) ⟨by show 4 + 1 ≤ 18 + (d + 1); omega, by show 8 + (2 + 11) + 97 ≤ 472 + (d + 1) * 25; omega⟩) (sg_pre hK hP hD (ci := 4) (q0 := 5) rfl rfl) rfl rfl hl.1 rfl (lv_room (Nat.le_of_ble_eq_true rfl)) dX2_extend_43 ⟨Nat.zero_le _, Nat.zero_le _⟩) hD hS hA (fun H locs hP hD hS => ?_)
        refine lv_iload_n hx hb dX2_extend_46 rfl (lv_at hl 2 rfl) ?_
        obtain ⟨r11, hc10, hf⟩ := sg_b_s hf
        refine sg_ci0 (va_runS (As := [.int v1]) (rest := [.int r8, .ref (ad 5)]) ⟨hx, hb, hml, hown, hts⟩ (c_J6_bitCount_0f7a4 l D cA N _ _ hc10 _) (va_cwS 1 hts gX2_extend_J6_bitCount_0f7a4 rfl rfl rfl (by decide +kernel) ⟨by show 0 + 1 ≤ 18 + (d + 1); omega, by show 8 + (1 + 11) + 0 ≤ 472 + (d + 1) * 25; omega⟩) (sg_pre0 hK) rfl rfl hl.1 rfl (lv_room (Nat.le_of_ble_eq_true rfl)) dX2_extend_47 ⟨Nat.zero_le _, Nat.zero_le _⟩) hP hS hA (fun H locs hP hS => ?_)
        refine lv_iconst (v := 1) hx hb dX2_extend_50 (by decide) ?_
        refine lv_iadd hx hb dX2_extend_51 ?_
        obtain ⟨r14, hc13, hf⟩ := sg_b_s hf
        refine sg_ci (va_runV (As := [.int r8, .int (r11 + 1)]) (rest := []) ⟨hx, hb, hml, hown, hts⟩ (c_X2_isBetter l D cA ad N _ _ _ _ hc13 _) (cwV 2 hts gX2_extend_X2_isBetter rfl rfl rfl (by decide +kernel) ⟨by show 1 + 1 ≤ 18 + (d + 1); omega, by show 8 + (3 + 11) + 20 ≤ 472 + (d + 1) * 25; omega⟩) (sg_pre hK hP hD (ci := 4) (q0 := 5) rfl rfl) rfl rfl hl.1 rfl (lv_room (Nat.le_of_ble_eq_true rfl)) dX2_extend_52 ⟨Nat.zero_le _, Nat.zero_le _⟩) hD hS hA (fun H locs hP hD hS => ?_)
        refine lv_if_ne (tgt := 59) hx hb dX2_extend_55 (by decide) (fun c32 => ?_) (fun c32 => ?_)
        · have hf := sg_in c32 hf
          refine lv_aload_n hx hb dX2_extend_59 rfl (lv_at hl 1 rfl) ?_
          refine va_get (D := D) (ci := 4) (C := RX2) (T := TX2) (N := 5) hx hb hts hinX2 hown hK.1 hP 5 rfl rfl 1 (by decide) (hts (.fieldLink RX2 15 "Switchgear$Planner" "switches" "LSwitchgear$Switches;") (by decide +kernel)) (fun _ h9 => h9) rfl dX2_extend_60 ?_
          refine lv_iload_n hx hb dX2_extend_63 rfl (lv_at hl 3 rfl) ?_
          refine lv_aload_n hx hb dX2_extend_64 rfl (lv_at hl 1 rfl) ?_
          refine va_get (D := D) (ci := 4) (C := RX2) (T := TX2) (N := 5) hx hb hts hinX2 hown hK.1 hP 5 rfl rfl 1 (by decide) (hts (.fieldLink RX2 15 "Switchgear$Planner" "switches" "LSwitchgear$Switches;") (by decide +kernel)) (fun _ h9 => h9) rfl dX2_extend_65 ?_
          refine va_getN (D := D) (ci := 6) (C := RX4) (T := TX4) (N := 5) (host := RX5) (ref := RX4) hx hb hts hinX4 hown hK.1 hP 3 rfl rfl 2 (by decide) (va_Nw.use rfl (hK.2 _ (List.mem_of_getElem? (i := 21) rfl))) (fun _ h9 => h9) rfl dX2_extend_68 ?_
          refine lv_iload_n hx hb dX2_extend_71 rfl (lv_at hl 2 rfl) ?_
          refine lv_ior hx hb dX2_extend_72 ?_
          obtain ⟨r17, u18, hc16, hf⟩ := sg_b2_s hf
          refine sg_ci (va_runV (As := [.int x.2, .int ((x.1 4 0) ||| v1)]) (rest := []) ⟨hx, hb, hml, hown, hts⟩ (c_X4_closeReason l D cA ad N _ _ _ _ _ hc16 _) (cwV 2 hts gX2_extend_X4_closeReason rfl rfl rfl (by decide +kernel) ⟨by show 17 + 1 ≤ 18 + (d + 1); omega, by show 8 + (9 + 11) + 444 ≤ 472 + (d + 1) * 25; omega⟩) (sg_pre hK hP hD (ci := 6) (q0 := 3) rfl rfl) rfl rfl hl.1 rfl (lv_room (Nat.le_of_ble_eq_true rfl)) dX2_extend_73 ⟨Nat.zero_le _, Nat.zero_le _⟩) hD hS hA (fun H locs hP hD hS => ?_)
          refine lv_bipush (v := 110) hx hb dX2_extend_76 (by decide) ?_
          refine lv_icmp_ne (tgt := 110) hx hb dX2_extend_78 (by decide) (fun c31 => ?_) (fun c31 => ?_)
          · have hf := sg_in c31 hf
            refine lv_iinc (v := x.2 + 1) (lv' := [(3, .int (x.2 + 1)), (4, .int (v1 ||| ((x.1 7 0) &&& ((r5 - 1) ^^^ ((-1)))))), (0, .ref (ad 5)), (1, .int v1)]) hx hb dX2_extend_110 hl (k := 3) rfl rfl (by decide) rfl (fun ls hl => ?_)
            refine lv_goto (tgt := 2) hx hb dX2_extend_113 (by decide) ?_
            exact hI _ (Option.some.inj hf).symm hr9 _ _ _ hP hD hS (lv_sub hl [2, 3, 0] rfl)
          · have hf := sg_ip c31 hf
            refine lv_iload_n hx hb dX2_extend_81 rfl (lv_at hl 2 rfl) ?_
            refine lv_iload_n hx hb dX2_extend_82 rfl (lv_at hl 3 rfl) ?_
            obtain ⟨r20, hc19, hf⟩ := sg_b_s hf
            refine sg_ci0 (va_runSN (As := [.int x.2]) (rest := [.int v1]) ⟨hx, hb, hml, hown, hts⟩ (c_X5_bit l D cA N _ _ hc19 _) ⟨va_cnB (host := RX5) 1 hts gX2_extend_X5_bit_n69 rfl rfl rfl (hK.2 _ (List.mem_of_getElem? (i := 6) rfl)) (hts (.initialized RX5) (by decide +kernel)) (by decide +kernel) ⟨by show 0 + 1 ≤ 18 + (d + 1); omega, by show 8 + (1 + 11) + 0 ≤ 472 + (d + 1) * 25; omega⟩, hts (.static yX5_bit) (by decide +kernel), trivial⟩ (sg_pre0 hK) rfl rfl hl.1 rfl (lv_room (Nat.le_of_ble_eq_true rfl)) dX2_extend_83 ⟨Nat.zero_le _, Nat.zero_le _⟩) hP hS hA (fun H locs hP hS => ?_)
            refine lv_ior hx hb dX2_extend_86 ?_
            refine lv_istore (lv' := [(5, .int (v1 ||| r20)), (4, .int (v1 ||| ((x.1 7 0) &&& ((r5 - 1) ^^^ ((-1)))))), (0, .ref (ad 5)), (1, .int v1), (3, .int x.2)]) hx hb dX2_extend_87 hl (by decide) rfl (fun ls hl => ?_)
            refine lv_aload_n hx hb dX2_extend_89 rfl (lv_at hl 2 rfl) ?_
            refine lv_iload hx hb dX2_extend_90 (lv_at hl 0 rfl) ?_
            refine lv_aload_n hx hb dX2_extend_92 rfl (lv_at hl 2 rfl) ?_
            refine lv_iload hx hb dX2_extend_93 (lv_at hl 0 rfl) ?_
            obtain ⟨r23, hc22, hf⟩ := sg_b_s hf
            refine sg_ci (va_runV (As := [.int (v1 ||| r20)]) (rest := [.int (v1 ||| r20), .ref (ad 5)]) ⟨hx, hb, hml, hown, hts⟩ (c_X2_valueOf l D cA ad N _ _ _ hc22 _) (cwV 1 hts gX2_extend_X2_valueOf rfl rfl rfl (by decide +kernel) ⟨by show 4 + 1 ≤ 18 + (d + 1); omega, by show 8 + (2 + 11) + 97 ≤ 472 + (d + 1) * 25; omega⟩) (sg_pre hK hP hD (ci := 4) (q0 := 5) rfl rfl) rfl rfl hl.1 rfl (lv_room (Nat.le_of_ble_eq_true rfl)) dX2_extend_95 ⟨Nat.zero_le _, Nat.zero_le _⟩) hD hS hA (fun H locs hP hD hS => ?_)
            obtain ⟨u27, hc25, hf⟩ := sg_b_s hf
            refine sg_cv (va_runV (As := [.int (v1 ||| r20), .int r23]) (rest := []) ⟨hx, hb, hml, hown, hts⟩ (c_X2_keepIfBetter l D cA ad N _ _ _ _ hc25 _) (cwV 2 hts gX2_extend_X2_keepIfBetter rfl rfl rfl (by decide +kernel) ⟨by show 2 + 1 ≤ 18 + (d + 1); omega, by show 8 + (3 + 11) + 42 ≤ 472 + (d + 1) * 25; omega⟩) (sg_pre hK hP hD (ci := 4) (q0 := 5) rfl rfl) rfl rfl hl.1 rfl (lv_room (Nat.le_of_ble_eq_true rfl)) dX2_extend_98 ⟨Nat.zero_le _, Nat.zero_le _⟩) hD hS hA (fun H locs hP hD hS => ?_)
            refine lv_aload_n hx hb dX2_extend_101 rfl (lv_at hl 2 rfl) ?_
            refine lv_iload hx hb dX2_extend_102 (lv_at hl 0 rfl) ?_
            refine lv_iload_n hx hb dX2_extend_104 rfl (lv_at hl 4 rfl) ?_
            refine lv_iconst (v := 1) hx hb dX2_extend_105 (by decide) ?_
            refine lv_iadd hx hb dX2_extend_106 ?_
            obtain ⟨u30, hc28, hf⟩ := sg_b_s hf
            refine sg_cv (va_runV (As := [.int (v1 ||| r20), .int (x.2 + 1)]) (rest := []) ⟨hx, hb, hml, hown, hts⟩ (ih _ _ _ _ hc28 _) (cwV 2 hts gX2_extend_X2_extend rfl rfl rfl (by decide +kernel) ⟨by show 18 + d + 1 ≤ 18 + (d + 1); omega, by show 8 + (6 + 11) + (472 + d * 25) ≤ 472 + (d + 1) * 25; omega⟩) (sg_pre hK hP hD (ci := 4) (q0 := 5) rfl rfl) rfl rfl hl.1 rfl (lv_room (Nat.le_of_ble_eq_true rfl)) dX2_extend_107 ⟨Nat.zero_le _, Nat.zero_le _⟩) hD hS hA (fun H locs hP hD hS => ?_)
            refine lv_iinc (v := x.2 + 1) (lv' := [(3, .int (x.2 + 1)), (5, .int (v1 ||| r20)), (4, .int (v1 ||| ((x.1 7 0) &&& ((r5 - 1) ^^^ ((-1)))))), (0, .ref (ad 5)), (1, .int v1)]) hx hb dX2_extend_110 hl (k := 4) rfl rfl (by decide) rfl (fun ls hl => ?_)
            refine lv_goto (tgt := 2) hx hb dX2_extend_113 (by decide) ?_
            exact hI _ (Option.some.inj hf).symm hr9 _ _ _ hP hD hS (lv_sub hl [3, 4, 0] rfl)
        · have hf := sg_ip c32 hf
          have hq := (hy _ (Option.some.inj hf).symm).trans hr9
          exact sg_vret hx hb hr hP hD hS dX2_extend_58 hq hlocks
      · have hf := sg_ip c33 hf
        refine lv_goto (tgt := 110) hx hb dX2_extend_19 (by decide) ?_
        refine lv_iinc (v := x.2 + 1) (lv' := [(3, .int (x.2 + 1)), (0, .ref (ad 5)), (1, .int v1)]) hx hb dX2_extend_110 hl (k := 2) rfl rfl (by decide) rfl (fun ls hl => ?_)
        refine lv_goto (tgt := 2) hx hb dX2_extend_113 (by decide) ?_
        exact hI _ (Option.some.inj hf).symm hr9 _ _ _ hP hD hS (lv_sub hl [1, 2, 0] rfl)
  replace hf : fX2_extend_B N (fX2_extend N d) u p1 p2 = some u' := hf
  unfold fX2_extend_B at hf
  refine lv_iload_n hx hb dX2_extend_0 rfl (lv_at hl 2 rfl) ?_
  refine lv_istore_n (lv' := [(3, .int p2), (0, .ref (ad 5)), (1, .int p1), (2, .int p2)]) hx hb dX2_extend_1 rfl hl (by decide) rfl (fun ls hl => ?_)
  exact hL2 _ _ _ _ hf rfl _ _ _ hP hD hS (lv_sub hl [1, 2, 0] rfl)
set_option maxRecDepth 100000 in
set_option maxHeartbeats 4000000 in
theorem c_X4_ofPlans (l : Launch) (D : va_G) (cA : Nat → ClassId) (ad : Nat → Nat) (N : Nat) (u : sg_St) (r : Int32) (hf : fX4_ofPlans N u = some r) : sg_CI l D cA (sg_WX cA ad) yX4_ofPlans wsX4_ofPlans ({ frames := 0, cells := 0, slots := 0, locals := 0 }) [.ref (ad 3)] u r u := by
  intro sz
  refine Met.ofW (cc := cX4_ofPlans) (maxL := 1) (ret := (some .int)) (by decide) rfl ?_
  intro p e s m args below meth c s₁ B hml hv
  obtain ⟨rfl, hsz, hP, hK, hD0⟩ := hv
  have hx := B.exec
  have hb := B.bytes
  have hr := B.returns
  have hts := atoms_spec (ws := wsX4_ofPlans) B.pre
  have hown : s.vm.findClass RX4 = some m.cls := findClass_of_methodNamed B.named
  have hlocks := B.notSynchronized
  subst hsz
  have hD := hD0.self (sz := s.heap.size)
  generalize hAe : va_A (sg_WX cA ad u) s.heap.size = A at hD ⊢
  have hA : ∀ q : Nat, s.heap.size ≤ q → A q := fun q h => by rw [← hAe]; exact Or.inr h
  have hS : va_S A s.heap s.heap [] := va_S.rf
  have hl := lv_entry ([.ref (ad 3)]) (n := 1) (Nat.le_of_ble_eq_true rfl)
  rw [lg_entry_eq]
  generalize (lg_sl ([.ref (ad 3)]) ++ List.replicate (1 - (lg_sl ([.ref (ad 3)])).length) Slot.unset).toArray = ls at hl ⊢
  replace hl : lv_has ls 1 [(0, .ref (ad 3))] := hl
  have hinX1 : ∀ w ∈ u_ws RX1 TX1 10, w ∈ wsX4_ofPlans := by decide +kernel
  have hinX4 : ∀ w ∈ u_ws RX4 TX4 5, w ∈ wsX4_ofPlans := by decide +kernel
  unfold fX4_ofPlans at hf
  refine lv_aload_n hx hb dX4_ofPlans_0 rfl (lv_at hl 0 rfl) ?_
  refine va_get (D := D) (ci := 6) (C := RX4) (T := TX4) (N := 5) hx hb hts hinX4 hown hK.1 hP 3 rfl rfl 0 (by decide) (hts (.fieldLink RX4 9 "Switchgear$Switches" "grid" "LSwitchgear$Grid;") (by decide +kernel)) (fun _ h9 => h9) rfl dX4_ofPlans_1 ?_
  refine va_getN (D := D) (ci := 3) (C := RX1) (T := TX1) (N := 10) (host := RX5) (ref := RX1) hx hb hts hinX1 hown hK.1 hP 1 rfl rfl 9 (by decide) (va_Nw.use rfl (hK.2 _ (List.mem_of_getElem? (i := 23) rfl))) (fun _ h9 => h9) rfl dX4_ofPlans_4 ?_
  refine lv_aload_n hx hb dX4_ofPlans_7 rfl (lv_at hl 0 rfl) ?_
  refine va_get (D := D) (ci := 6) (C := RX4) (T := TX4) (N := 5) hx hb hts hinX4 hown hK.1 hP 3 rfl rfl 2 (by decide) (hts (.fieldLink RX4 19 "Switchgear$Switches" "closed" "I") (by decide +kernel)) (fun _ h9 => h9) rfl dX4_ofPlans_8 ?_
  refine lv_aload_n hx hb dX4_ofPlans_11 rfl (lv_at hl 0 rfl) ?_
  refine va_get (D := D) (ci := 6) (C := RX4) (T := TX4) (N := 5) hx hb hts hinX4 hown hK.1 hP 3 rfl rfl 3 (by decide) (hts (.fieldLink RX4 23 "Switchgear$Switches" "locked" "I") (by decide +kernel)) (fun _ h9 => h9) rfl dX4_ofPlans_12 ?_
  refine lv_ior hx hb dX4_ofPlans_15 ?_
  refine lv_aload_n hx hb dX4_ofPlans_16 rfl (lv_at hl 0 rfl) ?_
  refine va_get (D := D) (ci := 6) (C := RX4) (T := TX4) (N := 5) hx hb hts hinX4 hown hK.1 hP 3 rfl rfl 4 (by decide) (hts (.fieldLink RX4 31 "Switchgear$Switches" "faulty" "I") (by decide +kernel)) (fun _ h9 => h9) rfl dX4_ofPlans_17 ?_
  refine lv_ior hx hb dX4_ofPlans_20 ?_
  refine lv_iconst (v := (-1)) hx hb dX4_ofPlans_21 (by decide) ?_
  refine lv_ixor hx hb dX4_ofPlans_22 ?_
  refine lv_iand hx hb dX4_ofPlans_23 ?_
  have hq := Option.some.inj hf
  exact sg_iret hx hb hr hP hD hS dX4_ofPlans_24 hq rfl hlocks
set_option maxRecDepth 100000 in
set_option maxHeartbeats 4000000 in
theorem c_X2_startWithEmptyPlan (l : Launch) (D : va_G) (cA : Nat → ClassId) (ad : Nat → Nat) (N : Nat) (u : sg_St) (u' : sg_St) (hf : fX2_startWithEmptyPlan N u = some u') : sg_CV l D cA (sg_WX cA ad) yX2_startWithEmptyPlan wsX2_startWithEmptyPlan ({ frames := 5, cells := 0, slots := 0, locals := 118 }) [.ref (ad 5)] u u' := by
  intro sz
  refine Met.ofW (cc := cX2_startWithEmptyPlan) (maxL := 1) (ret := none) (by decide) rfl ?_
  intro p e s m args below meth c s₁ B hml hv
  obtain ⟨rfl, hsz, hP, hK, hD0⟩ := hv
  have hx := B.exec
  have hb := B.bytes
  have hr := B.returns
  have hts := atoms_spec (ws := wsX2_startWithEmptyPlan) B.pre
  have hown : s.vm.findClass RX2 = some m.cls := findClass_of_methodNamed B.named
  have hlocks := B.notSynchronized
  subst hsz
  have hD := hD0.self (sz := s.heap.size)
  generalize hAe : va_A (sg_WX cA ad u) s.heap.size = A at hD ⊢
  have hA : ∀ q : Nat, s.heap.size ≤ q → A q := fun q h => by rw [← hAe]; exact Or.inr h
  have hS : va_S A s.heap s.heap [] := va_S.rf
  have hl := lv_entry ([.ref (ad 5)]) (n := 1) (Nat.le_of_ble_eq_true rfl)
  rw [lg_entry_eq]
  generalize (lg_sl ([.ref (ad 5)]) ++ List.replicate (1 - (lg_sl ([.ref (ad 5)])).length) Slot.unset).toArray = ls at hl ⊢
  replace hl : lv_has ls 1 [(0, .ref (ad 5))] := hl
  have hinX2 : ∀ w ∈ u_ws RX2 TX2 5, w ∈ wsX2_startWithEmptyPlan := by decide +kernel
  unfold fX2_startWithEmptyPlan at hf
  refine lv_aload_n hx hb dX2_startWithEmptyPlan_0 rfl (lv_at hl 0 rfl) ?_
  refine lv_aload_n hx hb dX2_startWithEmptyPlan_1 rfl (lv_at hl 0 rfl) ?_
  refine va_get (D := D) (ci := 4) (C := RX2) (T := TX2) (N := 5) hx hb hts hinX2 hown hK.1 hP 5 rfl rfl 1 (by decide) (hts (.fieldLink RX2 15 "Switchgear$Planner" "switches" "LSwitchgear$Switches;") (by decide +kernel)) (fun _ h9 => h9) rfl dX2_startWithEmptyPlan_2 ?_
  obtain ⟨r2, hc1, hf⟩ := sg_b_s hf
  refine sg_ci (va_runV (As := []) (rest := [.ref (ad 5)]) ⟨hx, hb, hml, hown, hts⟩ (c_X4_ofPlans l D cA ad N _ _ hc1 _) (cwV 0 hts gX2_startWithEmptyPlan_X4_ofPlans rfl rfl rfl (by decide +kernel) ⟨Nat.le_of_ble_eq_true rfl, Nat.le_of_ble_eq_true rfl⟩) (sg_pre hK hP hD (ci := 6) (q0 := 3) rfl rfl) rfl rfl hl.1 rfl (lv_room (Nat.le_of_ble_eq_true rfl)) dX2_startWithEmptyPlan_5 ⟨Nat.zero_le _, Nat.zero_le _⟩) hD hS hA (fun H locs hP hD hS => ?_)
  refine va_put (D := D) (ci := 4) (v := .int r2) (ty := .int) (C := RX2) (T := TX2) (N := 5) hx hb hts hinX2 tyX2 tyX2_ok nmX2 hown hK.1 hP hD hS 5 rfl rfl 2 (by decide) (hts (.fieldLink RX2 25 "Switchgear$Planner" "candidates" "I") (by decide +kernel)) (fun _ h9 => h9) rfl (by decide +kernel) rfl rfl (Nat.le_of_ble_eq_true rfl) dX2_startWithEmptyPlan_8 (fun H locs hP hD hS => ?_)
  replace hP : va_P D vwCl (sg_WX cA ad (sg_set u 7 0 r2)) H := by rw [← sg_WX_7]; exact hP
  replace hD : va_D A (sg_WX cA ad (sg_set u 7 0 r2)) := by rw [← sg_WX_7]; exact hD
  refine lv_aload_n hx hb dX2_startWithEmptyPlan_11 rfl (lv_at hl 0 rfl) ?_
  refine lv_iconst (v := 0) hx hb dX2_startWithEmptyPlan_12 (by decide) ?_
  refine va_put (D := D) (ci := 4) (v := .int 0) (ty := .int) (C := RX2) (T := TX2) (N := 5) hx hb hts hinX2 tyX2 tyX2_ok nmX2 hown hK.1 hP hD hS 5 rfl rfl 3 (by decide) (hts (.fieldLink RX2 29 "Switchgear$Planner" "bestPlan" "I") (by decide +kernel)) (fun _ h9 => h9) rfl (by decide +kernel) rfl rfl (Nat.le_of_ble_eq_true rfl) dX2_startWithEmptyPlan_13 (fun H locs hP hD hS => ?_)
  replace hP : va_P D vwCl (sg_WX cA ad (sg_set (sg_set u 7 0 r2) 8 0 0)) H := by rw [← sg_WX_8]; exact hP
  replace hD : va_D A (sg_WX cA ad (sg_set (sg_set u 7 0 r2) 8 0 0)) := by rw [← sg_WX_8]; exact hD
  refine lv_aload_n hx hb dX2_startWithEmptyPlan_16 rfl (lv_at hl 0 rfl) ?_
  refine lv_aload_n hx hb dX2_startWithEmptyPlan_17 rfl (lv_at hl 0 rfl) ?_
  refine lv_iconst (v := 0) hx hb dX2_startWithEmptyPlan_18 (by decide) ?_
  obtain ⟨r5, hc4, hf⟩ := sg_b_s hf
  refine sg_ci (va_runV (As := [.int 0]) (rest := [.ref (ad 5)]) ⟨hx, hb, hml, hown, hts⟩ (c_X2_valueOf l D cA ad N _ _ _ hc4 _) (cwV 1 hts gX2_startWithEmptyPlan_X2_valueOf rfl rfl rfl (by decide +kernel) ⟨Nat.le_of_ble_eq_true rfl, Nat.le_of_ble_eq_true rfl⟩) (sg_pre hK hP hD (ci := 4) (q0 := 5) rfl rfl) rfl rfl hl.1 rfl (lv_room (Nat.le_of_ble_eq_true rfl)) dX2_startWithEmptyPlan_19 ⟨Nat.zero_le _, Nat.zero_le _⟩) hD hS hA (fun H locs hP hD hS => ?_)
  refine va_put (D := D) (ci := 4) (v := .int r5) (ty := .int) (C := RX2) (T := TX2) (N := 5) hx hb hts hinX2 tyX2 tyX2_ok nmX2 hown hK.1 hP hD hS 5 rfl rfl 4 (by decide) (hts (.fieldLink RX2 36 "Switchgear$Planner" "bestValue" "I") (by decide +kernel)) (fun _ h9 => h9) rfl (by decide +kernel) rfl rfl (Nat.le_of_ble_eq_true rfl) dX2_startWithEmptyPlan_22 (fun H locs hP hD hS => ?_)
  replace hP : va_P D vwCl (sg_WX cA ad (sg_set (sg_set (sg_set u 7 0 r2) 8 0 0) 9 0 r5)) H := by rw [← sg_WX_9]; exact hP
  replace hD : va_D A (sg_WX cA ad (sg_set (sg_set (sg_set u 7 0 r2) 8 0 0) 9 0 r5)) := by rw [← sg_WX_9]; exact hD
  have hq := Option.some.inj hf
  exact sg_vret hx hb hr hP hD hS dX2_startWithEmptyPlan_25 hq hlocks
set_option maxRecDepth 100000 in
set_option maxHeartbeats 4000000 in
theorem c_X2_findBest (l : Launch) (D : va_G) (cA : Nat → ClassId) (ad : Nat → Nat) (N : Nat) (u : sg_St) (u' : sg_St) (hf : fX2_findBest N u = some u') : sg_CV l D cA (sg_WX cA ad) yX2_findBest wsX2_findBest ({ frames := 34, cells := 0, slots := 0, locals := 872 }) [.ref (ad 5)] u u' := by
  intro sz
  refine Met.ofW (cc := cX2_findBest) (maxL := 1) (ret := none) (by decide) rfl ?_
  intro p e s m args below meth c s₁ B hml hv
  obtain ⟨rfl, hsz, hP, hK, hD0⟩ := hv
  have hx := B.exec
  have hb := B.bytes
  have hr := B.returns
  have hts := atoms_spec (ws := wsX2_findBest) B.pre
  have hown : s.vm.findClass RX2 = some m.cls := findClass_of_methodNamed B.named
  have hlocks := B.notSynchronized
  subst hsz
  have hD := hD0.self (sz := s.heap.size)
  generalize hAe : va_A (sg_WX cA ad u) s.heap.size = A at hD ⊢
  have hA : ∀ q : Nat, s.heap.size ≤ q → A q := fun q h => by rw [← hAe]; exact Or.inr h
  have hS : va_S A s.heap s.heap [] := va_S.rf
  have hl := lv_entry ([.ref (ad 5)]) (n := 1) (Nat.le_of_ble_eq_true rfl)
  rw [lg_entry_eq]
  generalize (lg_sl ([.ref (ad 5)]) ++ List.replicate (1 - (lg_sl ([.ref (ad 5)])).length) Slot.unset).toArray = ls at hl ⊢
  replace hl : lv_has ls 1 [(0, .ref (ad 5))] := hl
  unfold fX2_findBest at hf
  refine lv_aload_n hx hb dX2_findBest_0 rfl (lv_at hl 0 rfl) ?_
  obtain ⟨u3, hc1, hf⟩ := sg_b_s hf
  refine sg_cv (va_runV (As := []) (rest := []) ⟨hx, hb, hml, hown, hts⟩ (c_X2_startWithEmptyPlan l D cA ad N _ _ hc1 _) (cwV 0 hts gX2_findBest_X2_startWithEmptyPlan rfl rfl rfl (by decide +kernel) ⟨Nat.le_of_ble_eq_true rfl, Nat.le_of_ble_eq_true rfl⟩) (sg_pre hK hP hD (ci := 4) (q0 := 5) rfl rfl) rfl rfl hl.1 rfl (lv_room (Nat.le_of_ble_eq_true rfl)) dX2_findBest_1 ⟨Nat.zero_le _, Nat.zero_le _⟩) hD hS hA (fun H locs hP hD hS => ?_)
  refine lv_aload_n hx hb dX2_findBest_4 rfl (lv_at hl 0 rfl) ?_
  refine lv_iconst (v := 0) hx hb dX2_findBest_5 (by decide) ?_
  refine lv_iconst (v := 0) hx hb dX2_findBest_6 (by decide) ?_
  obtain ⟨u6, hc4, hf⟩ := sg_b_s hf
  refine sg_cv (va_runV (As := [.int 0, .int 0]) (rest := []) ⟨hx, hb, hml, hown, hts⟩ (c_X2_extend l D cA ad N 15 _ _ _ _ hc4 _) (cwV 2 hts gX2_findBest_X2_extend rfl rfl rfl (by decide +kernel) ⟨Nat.le_of_ble_eq_true rfl, Nat.le_of_ble_eq_true rfl⟩) (sg_pre hK hP hD (ci := 4) (q0 := 5) rfl rfl) rfl rfl hl.1 rfl (lv_room (Nat.le_of_ble_eq_true rfl)) dX2_findBest_7 ⟨Nat.zero_le _, Nat.zero_le _⟩) hD hS hA (fun H locs hP hD hS => ?_)
  have hq := Option.some.inj hf
  exact sg_vret hx hb hr hP hD hS dX2_findBest_10 hq hlocks
set_option maxRecDepth 100000 in
set_option maxHeartbeats 4000000 in
theorem c_X2_tryAllSets (l : Launch) (D : va_G) (cA : Nat → ClassId) (ad : Nat → Nat) (N : Nat) (u : sg_St) (u' : sg_St) (hf : fX2_tryAllSets N u = some u') : sg_CV l D cA (sg_WX cA ad) yX2_tryAllSets wsX2_tryAllSets ({ frames := 19, cells := 0, slots := 0, locals := 495 }) [.ref (ad 5)] u u' := by
  intro sz
  refine Met.ofW (cc := cX2_tryAllSets) (maxL := 2) (ret := none) (by decide) rfl ?_
  intro p e s m args below meth c s₁ B hml hv
  obtain ⟨rfl, hsz, hP, hK, hD0⟩ := hv
  have hx := B.exec
  have hb := B.bytes
  have hr := B.returns
  have hts := atoms_spec (ws := wsX2_tryAllSets) B.pre
  have hown : s.vm.findClass RX2 = some m.cls := findClass_of_methodNamed B.named
  have hlocks := B.notSynchronized
  subst hsz
  have hD := hD0.self (sz := s.heap.size)
  generalize hAe : va_A (sg_WX cA ad u) s.heap.size = A at hD ⊢
  have hA : ∀ q : Nat, s.heap.size ≤ q → A q := fun q h => by rw [← hAe]; exact Or.inr h
  have hS : va_S A s.heap s.heap [] := va_S.rf
  have hl := lv_entry ([.ref (ad 5)]) (n := 2) (Nat.le_of_ble_eq_true rfl)
  rw [lg_entry_eq]
  generalize (lg_sl ([.ref (ad 5)]) ++ List.replicate (2 - (lg_sl ([.ref (ad 5)])).length) Slot.unset).toArray = ls at hl ⊢
  replace hl : lv_has ls 2 [(0, .ref (ad 5))] := hl
  have hinX2 : ∀ w ∈ u_ws RX2 TX2 5, w ∈ wsX2_tryAllSets := by decide +kernel
  have hL6 : ∀ (n : Nat) (x : sg_St × Int32) (r9 : sg_St), sg_it (fun x => fX2_tryAllSets_L6 N x.1 x.2) n x = some r9 → ∀ (H : Heap) (locs : List Loc) (ls : Array Slot), va_P D vwCl (sg_WX cA ad x.1) H → va_D A (sg_WX cA ad x.1) → va_S A s.heap H locs → lv_has ls 2 [(0, .ref (ad 5)), (1, .int x.2)] → (∀ (H : Heap) (locs : List Loc) (ls : Array Slot), va_P D vwCl (sg_WX cA ad r9) H → va_D A (sg_WX cA ad r9) → va_S A s.heap H locs → lv_has ls 2 [(0, .ref (ad 5))] → W p l e (headSpec wsX2_tryAllSets ({ frames := 19, cells := 0, slots := 0, locals := 495 })).room s m ([.ref (ad 5)] : List Value).toArray below meth c H locs 0 0 (MQ below (va_Qv (fun y => y = u') (sg_BX D (sg_WX cA ad) A) A) ([.ref (ad 5)] : List Value).toArray s 0 0 A) (F0 m 48 ls [])) → W p l e (headSpec wsX2_tryAllSets ({ frames := 19, cells := 0, slots := 0, locals := 495 })).room s m ([.ref (ad 5)] : List Value).toArray below meth c H locs 0 0 (MQ below (va_Qv (fun y => y = u') (sg_BX D (sg_WX cA ad) A) A) ([.ref (ad 5)] : List Value).toArray s 0 0 A) (F0 m 6 ls []) := by
    refine sg_loop _ ?_
    intro x y r9 hf hI hy H locs ls hP hD hS hl hk
    replace hf : fX2_tryAllSets_L6 N x.1 x.2 = some y := hf
    unfold fX2_tryAllSets_L6 at hf
    refine lv_iload_n hx hb dX2_tryAllSets_6 rfl (lv_at hl 1 rfl) ?_
    refine lv_sipush (v := 4096) hx hb dX2_tryAllSets_7 (by decide) ?_
    refine lv_icmp_ge (tgt := 48) hx hb dX2_tryAllSets_10 (by decide) (fun c12 => ?_) (fun c12 => ?_)
    · have hf := sg_ip c12 hf
      have hq := hy _ (Option.some.inj hf).symm
      subst hq
      exact hk _ _ _ hP hD hS (lv_sub hl [0] rfl)
    · have hf := sg_in c12 hf
      refine lv_iload_n hx hb dX2_tryAllSets_13 rfl (lv_at hl 1 rfl) ?_
      refine lv_aload_n hx hb dX2_tryAllSets_14 rfl (lv_at hl 0 rfl) ?_
      refine va_get (D := D) (ci := 4) (C := RX2) (T := TX2) (N := 5) hx hb hts hinX2 hown hK.1 hP 5 rfl rfl 2 (by decide) (hts (.fieldLink RX2 25 "Switchgear$Planner" "candidates" "I") (by decide +kernel)) (fun _ h9 => h9) rfl dX2_tryAllSets_15 ?_
      refine lv_iconst (v := (-1)) hx hb dX2_tryAllSets_18 (by decide) ?_
      refine lv_ixor hx hb dX2_tryAllSets_19 ?_
      refine lv_iand hx hb dX2_tryAllSets_20 ?_
      refine lv_if_ne (tgt := 42) hx hb dX2_tryAllSets_21 (by decide) (fun c11 => ?_) (fun c11 => ?_)
      · have hf := sg_in c11 hf
        refine lv_iinc (v := x.2 + 1) (lv' := [(1, .int (x.2 + 1)), (0, .ref (ad 5))]) hx hb dX2_tryAllSets_42 hl (k := 1) rfl rfl (by decide) rfl (fun ls hl => ?_)
        refine lv_goto (tgt := 6) hx hb dX2_tryAllSets_45 (by decide) ?_
        exact hI _ (Option.some.inj hf).symm _ _ _ hP hD hS (lv_sub hl [1, 0] rfl) hk
      · have hf := sg_ip c11 hf
        refine lv_aload_n hx hb dX2_tryAllSets_24 rfl (lv_at hl 0 rfl) ?_
        refine lv_iload_n hx hb dX2_tryAllSets_25 rfl (lv_at hl 1 rfl) ?_
        obtain ⟨r2, u3, hc1, hf⟩ := sg_b2_s hf
        refine sg_ci (va_runV (As := [.int x.2]) (rest := []) ⟨hx, hb, hml, hown, hts⟩ (c_X2_canBeClosedInOrder l D cA ad N _ _ _ _ hc1 _) (cwV 1 hts gX2_tryAllSets_X2_canBeClosedInOrder rfl rfl rfl (by decide +kernel) ⟨Nat.le_of_ble_eq_true rfl, Nat.le_of_ble_eq_true rfl⟩) (sg_pre hK hP hD (ci := 4) (q0 := 5) rfl rfl) rfl rfl hl.1 rfl (lv_room (Nat.le_of_ble_eq_true rfl)) dX2_tryAllSets_26 ⟨Nat.zero_le _, Nat.zero_le _⟩) hD hS hA (fun H locs hP hD hS => ?_)
        refine lv_if_eq (tgt := 42) hx hb dX2_tryAllSets_29 (by decide) (fun c10 => ?_) (fun c10 => ?_)
        · have hf := sg_ip c10 hf
          refine lv_iinc (v := x.2 + 1) (lv' := [(1, .int (x.2 + 1)), (0, .ref (ad 5))]) hx hb dX2_tryAllSets_42 hl (k := 1) rfl rfl (by decide) rfl (fun ls hl => ?_)
          refine lv_goto (tgt := 6) hx hb dX2_tryAllSets_45 (by decide) ?_
          exact hI _ (Option.some.inj hf).symm _ _ _ hP hD hS (lv_sub hl [1, 0] rfl) hk
        · have hf := sg_in c10 hf
          refine lv_aload_n hx hb dX2_tryAllSets_32 rfl (lv_at hl 0 rfl) ?_
          refine lv_iload_n hx hb dX2_tryAllSets_33 rfl (lv_at hl 1 rfl) ?_
          refine lv_aload_n hx hb dX2_tryAllSets_34 rfl (lv_at hl 0 rfl) ?_
          refine lv_iload_n hx hb dX2_tryAllSets_35 rfl (lv_at hl 1 rfl) ?_
          obtain ⟨r5, hc4, hf⟩ := sg_b_s hf
          refine sg_ci (va_runV (As := [.int x.2]) (rest := [.int x.2, .ref (ad 5)]) ⟨hx, hb, hml, hown, hts⟩ (c_X2_valueOf l D cA ad N _ _ _ hc4 _) (cwV 1 hts gX2_tryAllSets_X2_valueOf rfl rfl rfl (by decide +kernel) ⟨Nat.le_of_ble_eq_true rfl, Nat.le_of_ble_eq_true rfl⟩) (sg_pre hK hP hD (ci := 4) (q0 := 5) rfl rfl) rfl rfl hl.1 rfl (lv_room (Nat.le_of_ble_eq_true rfl)) dX2_tryAllSets_36 ⟨Nat.zero_le _, Nat.zero_le _⟩) hD hS hA (fun H locs hP hD hS => ?_)
          obtain ⟨u9, hc7, hf⟩ := sg_b_s hf
          refine sg_cv (va_runV (As := [.int x.2, .int r5]) (rest := []) ⟨hx, hb, hml, hown, hts⟩ (c_X2_keepIfBetter l D cA ad N _ _ _ _ hc7 _) (cwV 2 hts gX2_tryAllSets_X2_keepIfBetter rfl rfl rfl (by decide +kernel) ⟨Nat.le_of_ble_eq_true rfl, Nat.le_of_ble_eq_true rfl⟩) (sg_pre hK hP hD (ci := 4) (q0 := 5) rfl rfl) rfl rfl hl.1 rfl (lv_room (Nat.le_of_ble_eq_true rfl)) dX2_tryAllSets_39 ⟨Nat.zero_le _, Nat.zero_le _⟩) hD hS hA (fun H locs hP hD hS => ?_)
          refine lv_iinc (v := x.2 + 1) (lv' := [(1, .int (x.2 + 1)), (0, .ref (ad 5))]) hx hb dX2_tryAllSets_42 hl (k := 1) rfl rfl (by decide) rfl (fun ls hl => ?_)
          refine lv_goto (tgt := 6) hx hb dX2_tryAllSets_45 (by decide) ?_
          exact hI _ (Option.some.inj hf).symm _ _ _ hP hD hS (lv_sub hl [1, 0] rfl) hk
  unfold fX2_tryAllSets at hf
  refine lv_aload_n hx hb dX2_tryAllSets_0 rfl (lv_at hl 0 rfl) ?_
  obtain ⟨u3, hc1, hf⟩ := sg_b_s hf
  refine sg_cv (va_runV (As := []) (rest := []) ⟨hx, hb, hml, hown, hts⟩ (c_X2_startWithEmptyPlan l D cA ad N _ _ hc1 _) (cwV 0 hts gX2_tryAllSets_X2_startWithEmptyPlan rfl rfl rfl (by decide +kernel) ⟨Nat.le_of_ble_eq_true rfl, Nat.le_of_ble_eq_true rfl⟩) (sg_pre hK hP hD (ci := 4) (q0 := 5) rfl rfl) rfl rfl hl.1 rfl (lv_room (Nat.le_of_ble_eq_true rfl)) dX2_tryAllSets_1 ⟨Nat.zero_le _, Nat.zero_le _⟩) hD hS hA (fun H locs hP hD hS => ?_)
  refine lv_iconst (v := 1) hx hb dX2_tryAllSets_4 (by decide) ?_
  refine lv_istore_n (lv' := [(1, .int 1), (0, .ref (ad 5))]) hx hb dX2_tryAllSets_5 rfl hl (by decide) rfl (fun ls hl => ?_)
  obtain ⟨e4, hc5, hf⟩ := sg_b_s hf
  refine hL6 _ _ e4 hc5 _ _ _ hP hD hS (lv_sub hl [1, 0] rfl) (fun H locs ls hP hD hS hl => ?_)
  have hq := Option.some.inj hf
  exact sg_vret hx hb hr hP hD hS dX2_tryAllSets_48 hq hlocks
set_option maxRecDepth 100000 in
set_option maxHeartbeats 4000000 in
theorem c_X3_currentOfFault (l : Launch) (D : va_G) (cA : Nat → ClassId) (ad : Nat → Nat) (N : Nat) (u : sg_St) (p1 p2 p3 : Int32) (r : Int32) (hf : fX3_currentOfFault N u p1 p2 p3 = some r) : sg_CI l D cA (sg_WX cA ad) yX3_currentOfFault wsX3_currentOfFault ({ frames := 4, cells := 0, slots := 0, locals := 96 }) [.ref (ad 4), .int p1, .int p2, .int p3] u r u := by
  intro sz
  refine Met.ofW (cc := cX3_currentOfFault) (maxL := 5) (ret := (some .int)) (by decide) rfl ?_
  intro p e s m args below meth c s₁ B hml hv
  obtain ⟨rfl, hsz, hP, hK, hD0⟩ := hv
  have hx := B.exec
  have hb := B.bytes
  have hr := B.returns
  have hts := atoms_spec (ws := wsX3_currentOfFault) B.pre
  have hown : s.vm.findClass RX3 = some m.cls := findClass_of_methodNamed B.named
  have hlocks := B.notSynchronized
  subst hsz
  have hD := hD0.self (sz := s.heap.size)
  generalize hAe : va_A (sg_WX cA ad u) s.heap.size = A at hD ⊢
  have hA : ∀ q : Nat, s.heap.size ≤ q → A q := fun q h => by rw [← hAe]; exact Or.inr h
  have hS : va_S A s.heap s.heap [] := va_S.rf
  have hl := lv_entry ([.ref (ad 4), .int p1, .int p2, .int p3]) (n := 5) (Nat.le_of_ble_eq_true rfl)
  rw [lg_entry_eq]
  generalize (lg_sl ([.ref (ad 4), .int p1, .int p2, .int p3]) ++ List.replicate (5 - (lg_sl ([.ref (ad 4), .int p1, .int p2, .int p3])).length) Slot.unset).toArray = ls at hl ⊢
  replace hl : lv_has ls 5 [(0, .ref (ad 4)), (1, .int p1), (2, .int p2), (3, .int p3)] := hl
  have hinX3 : ∀ w ∈ u_ws RX3 TX3 5, w ∈ wsX3_currentOfFault := by decide +kernel
  unfold fX3_currentOfFault at hf
  refine lv_aload_n hx hb dX3_currentOfFault_0 rfl (lv_at hl 0 rfl) ?_
  refine va_get (D := D) (ci := 5) (C := RX3) (T := TX3) (N := 5) hx hb hts hinX3 hown hK.1 hP 4 rfl rfl 0 (by decide) (hts (.fieldLink RX3 21 "Switchgear$Protection" "grid" "LSwitchgear$Grid;") (by decide +kernel)) (fun _ h9 => h9) rfl dX3_currentOfFault_1 ?_
  refine lv_aload_n hx hb dX3_currentOfFault_4 rfl (lv_at hl 0 rfl) ?_
  refine va_get (D := D) (ci := 5) (C := RX3) (T := TX3) (N := 5) hx hb hts hinX3 hown hK.1 hP 4 rfl rfl 0 (by decide) (hts (.fieldLink RX3 21 "Switchgear$Protection" "grid" "LSwitchgear$Grid;") (by decide +kernel)) (fun _ h9 => h9) rfl dX3_currentOfFault_5 ?_
  refine lv_iload_n hx hb dX3_currentOfFault_8 rfl (lv_at hl 1 rfl) ?_
  refine lv_iload_n hx hb dX3_currentOfFault_9 rfl (lv_at hl 3 rfl) ?_
  obtain ⟨r2, hc1, hf⟩ := sg_b_s hf
  refine sg_ci (va_runV (As := [.int p1, .int p3]) (rest := [.ref (ad 1)]) ⟨hx, hb, hml, hown, hts⟩ (c_X1_sourceOfLine l D cA ad N _ _ _ _ hc1 _) (cwV 2 hts gX3_currentOfFault_X1_sourceOfLine rfl rfl rfl (by decide +kernel) ⟨Nat.le_of_ble_eq_true rfl, Nat.le_of_ble_eq_true rfl⟩) (sg_pre hK hP hD (ci := 3) (q0 := 1) rfl rfl) rfl rfl hl.1 rfl (lv_room (Nat.le_of_ble_eq_true rfl)) dX3_currentOfFault_10 ⟨Nat.zero_le _, Nat.zero_le _⟩) hD hS hA (fun H locs hP hD hS => ?_)
  obtain ⟨r5, hc4, hf⟩ := sg_b_s hf
  refine sg_ci (va_runV (As := [.int r2]) (rest := []) ⟨hx, hb, hml, hown, hts⟩ (c_X1_capacityAt l D cA ad N _ _ _ hc4 _) (cwV 1 hts gX3_currentOfFault_X1_capacityAt rfl rfl rfl (by decide +kernel) ⟨Nat.le_of_ble_eq_true rfl, Nat.le_of_ble_eq_true rfl⟩) (sg_pre hK hP hD (ci := 3) (q0 := 1) rfl rfl) rfl rfl hl.1 rfl (lv_room (Nat.le_of_ble_eq_true rfl)) dX3_currentOfFault_13 ⟨Nat.zero_le _, Nat.zero_le _⟩) hD hS hA (fun H locs hP hD hS => ?_)
  refine lv_istore (lv' := [(4, .int r5), (0, .ref (ad 4)), (1, .int p1), (2, .int p2), (3, .int p3)]) hx hb dX3_currentOfFault_16 hl (by decide) rfl (fun ls hl => ?_)
  refine lv_iload_n hx hb dX3_currentOfFault_18 rfl (lv_at hl 3 rfl) ?_
  refine lv_if_le (tgt := 32) hx hb dX3_currentOfFault_19 (by decide) (fun c8 => ?_) (fun c8 => ?_)
  · have hf := sg_ip c8 hf
    refine lv_iconst (v := 0) hx hb dX3_currentOfFault_32 (by decide) ?_
    have hq := Option.some.inj hf
    exact sg_iret hx hb hr hP hD hS dX3_currentOfFault_33 hq rfl hlocks
  · have hf := sg_in c8 hf
    refine lv_iload hx hb dX3_currentOfFault_22 (lv_at hl 0 rfl) ?_
    refine lv_bipush (v := 10) hx hb dX3_currentOfFault_24 (by decide) ?_
    refine lv_imul hx hb dX3_currentOfFault_26 ?_
    refine lv_iload_n hx hb dX3_currentOfFault_27 rfl (lv_at hl 3 rfl) ?_
    obtain ⟨hg7, hf⟩ := sg_g_s hf
    refine lv_idiv hx hb dX3_currentOfFault_28 (of_decide_eq_true hg7) ?_
    refine lv_goto (tgt := 33) hx hb dX3_currentOfFault_29 (by decide) ?_
    have hq := Option.some.inj hf
    exact sg_iret hx hb hr hP hD hS dX3_currentOfFault_33 hq rfl hlocks
set_option maxRecDepth 100000 in
set_option maxHeartbeats 4000000 in
theorem c_X3_timeFor (l : Launch) (D : va_G) (cA : Nat → ClassId) (ad : Nat → Nat) (N : Nat) (u : sg_St) (p1 p2 : Int32) (r : Int32) (hf : fX3_timeFor N u p1 p2 = some r) : sg_CI l D cA (sg_WX cA ad) yX3_timeFor wsX3_timeFor ({ frames := 1, cells := 0, slots := 0, locals := 21 }) [.ref (ad 4), .int p1, .int p2] u r u := by
  intro sz
  refine Met.ofW (cc := cX3_timeFor) (maxL := 4) (ret := (some .int)) (by decide) rfl ?_
  intro p e s m args below meth c s₁ B hml hv
  obtain ⟨rfl, hsz, hP, hK, hD0⟩ := hv
  have hx := B.exec
  have hb := B.bytes
  have hr := B.returns
  have hts := atoms_spec (ws := wsX3_timeFor) B.pre
  have hown : s.vm.findClass RX3 = some m.cls := findClass_of_methodNamed B.named
  have hlocks := B.notSynchronized
  subst hsz
  have hD := hD0.self (sz := s.heap.size)
  generalize hAe : va_A (sg_WX cA ad u) s.heap.size = A at hD ⊢
  have hA : ∀ q : Nat, s.heap.size ≤ q → A q := fun q h => by rw [← hAe]; exact Or.inr h
  have hS : va_S A s.heap s.heap [] := va_S.rf
  have hl := lv_entry ([.ref (ad 4), .int p1, .int p2]) (n := 4) (Nat.le_of_ble_eq_true rfl)
  rw [lg_entry_eq]
  generalize (lg_sl ([.ref (ad 4), .int p1, .int p2]) ++ List.replicate (4 - (lg_sl ([.ref (ad 4), .int p1, .int p2])).length) Slot.unset).toArray = ls at hl ⊢
  replace hl : lv_has ls 4 [(0, .ref (ad 4)), (1, .int p1), (2, .int p2)] := hl
  have hinX1 : ∀ w ∈ u_ws RX1 TX1 10, w ∈ wsX3_timeFor := by decide +kernel
  have hinX3 : ∀ w ∈ u_ws RX3 TX3 5, w ∈ wsX3_timeFor := by decide +kernel
  have hJ63 : ∀ (v1 v3 : Int32) (H : Heap) (locs : List Loc) (ls : Array Slot), fX3_timeFor_j63 N u v1 v3 = some r → va_P D vwCl (sg_WX cA ad u) H → va_D A (sg_WX cA ad u) → va_S A s.heap H locs → lv_has ls 4 [(0, .ref (ad 4)), (1, .int v1), (3, .int v3)] → W p l e (headSpec wsX3_timeFor ({ frames := 1, cells := 0, slots := 0, locals := 21 })).room s m ([.ref (ad 4), .int p1, .int p2] : List Value).toArray below meth c H locs 0 0 (MQ below (va_Qi (fun x y => x = r ∧ y = u) (sg_BX D (sg_WX cA ad) A) A) ([.ref (ad 4), .int p1, .int p2] : List Value).toArray s 0 0 A) (F0 m 63 ls []) := by
    intro v1 v3 H locs ls hf hP hD hS hl
    unfold fX3_timeFor_j63 at hf
    refine lv_aload_n hx hb dX3_timeFor_63 rfl (lv_at hl 0 rfl) ?_
    refine va_get (D := D) (ci := 5) (C := RX3) (T := TX3) (N := 5) hx hb hts hinX3 hown hK.1 hP 4 rfl rfl 3 (by decide) (hts (.fieldLink RX3 15 "Switchgear$Protection" "multiplier" "[I") (by decide +kernel)) (fun _ h9 => h9) rfl dX3_timeFor_64 ?_
    refine lv_iload_n hx hb dX3_timeFor_67 rfl (lv_at hl 1 rfl) ?_
    obtain ⟨hg1, hf⟩ := sg_g_s hf
    refine va_iald hx hb hK.1 hP 15 0 rfl rfl (sg_inb_s hg1) dX3_timeFor_68 ?_
    refine lv_aload_n hx hb dX3_timeFor_69 rfl (lv_at hl 0 rfl) ?_
    refine va_get (D := D) (ci := 5) (C := RX3) (T := TX3) (N := 5) hx hb hts hinX3 hown hK.1 hP 4 rfl rfl 2 (by decide) (hts (.fieldLink RX3 9 "Switchgear$Protection" "pickup" "[I") (by decide +kernel)) (fun _ h9 => h9) rfl dX3_timeFor_70 ?_
    refine lv_iload_n hx hb dX3_timeFor_73 rfl (lv_at hl 1 rfl) ?_
    obtain ⟨hg2, hf⟩ := sg_g_s hf
    refine va_iald hx hb hK.1 hP 14 0 rfl rfl (sg_inb_s hg2) dX3_timeFor_74 ?_
    refine lv_imul hx hb dX3_timeFor_75 ?_
    refine lv_bipush (v := 10) hx hb dX3_timeFor_76 (by decide) ?_
    refine lv_imul hx hb dX3_timeFor_78 ?_
    refine lv_iload_n hx hb dX3_timeFor_79 rfl (lv_at hl 2 rfl) ?_
    obtain ⟨hg3, hf⟩ := sg_g_s hf
    refine lv_idiv hx hb dX3_timeFor_80 (of_decide_eq_true hg3) ?_
    refine lv_iconst (v := 2) hx hb dX3_timeFor_81 (by decide) ?_
    refine lv_iadd hx hb dX3_timeFor_82 ?_
    have hq := Option.some.inj hf
    exact sg_iret hx hb hr hP hD hS dX3_timeFor_83 hq rfl hlocks
  unfold fX3_timeFor at hf
  refine lv_aload_n hx hb dX3_timeFor_0 rfl (lv_at hl 0 rfl) ?_
  refine va_get (D := D) (ci := 5) (C := RX3) (T := TX3) (N := 5) hx hb hts hinX3 hown hK.1 hP 4 rfl rfl 0 (by decide) (hts (.fieldLink RX3 21 "Switchgear$Protection" "grid" "LSwitchgear$Grid;") (by decide +kernel)) (fun _ h9 => h9) rfl dX3_timeFor_1 ?_
  refine lv_iload_n hx hb dX3_timeFor_4 rfl (lv_at hl 1 rfl) ?_
  obtain ⟨r2, hc1, hf⟩ := sg_b_s hf
  refine sg_ci (va_runV (As := [.int p1]) (rest := []) ⟨hx, hb, hml, hown, hts⟩ (c_X1_isLine l D cA ad N _ _ _ hc1 _) (cwV 1 hts gX3_timeFor_X1_isLine rfl rfl rfl (by decide +kernel) ⟨Nat.le_of_ble_eq_true rfl, Nat.le_of_ble_eq_true rfl⟩) (sg_pre hK hP hD (ci := 3) (q0 := 1) rfl rfl) rfl rfl hl.1 rfl (lv_room (Nat.le_of_ble_eq_true rfl)) dX3_timeFor_5 ⟨Nat.zero_le _, Nat.zero_le _⟩) hD hS hA (fun H locs hP hD hS => ?_)
  refine lv_if_eq (tgt := 25) hx hb dX3_timeFor_8 (by decide) (fun c14 => ?_) (fun c14 => ?_)
  · have hf := sg_ip c14 hf
    refine lv_iconst (v := (-1)) hx hb dX3_timeFor_25 (by decide) ?_
    have hq := Option.some.inj hf
    exact sg_iret hx hb hr hP hD hS dX3_timeFor_26 hq rfl hlocks
  · have hf := sg_in c14 hf
    refine lv_aload_n hx hb dX3_timeFor_11 rfl (lv_at hl 0 rfl) ?_
    refine va_get (D := D) (ci := 5) (C := RX3) (T := TX3) (N := 5) hx hb hts hinX3 hown hK.1 hP 4 rfl rfl 0 (by decide) (hts (.fieldLink RX3 21 "Switchgear$Protection" "grid" "LSwitchgear$Grid;") (by decide +kernel)) (fun _ h9 => h9) rfl dX3_timeFor_12 ?_
    refine va_getN (D := D) (ci := 3) (C := RX1) (T := TX1) (N := 10) (host := RX5) (ref := RX1) hx hb hts hinX1 hown hK.1 hP 1 rfl rfl 9 (by decide) (va_Nw.use rfl (hK.2 _ (List.mem_of_getElem? (i := 22) rfl))) (fun _ h9 => h9) rfl dX3_timeFor_15 ?_
    refine lv_iload_n hx hb dX3_timeFor_18 rfl (lv_at hl 1 rfl) ?_
    obtain ⟨r5, hc4, hf⟩ := sg_b_s hf
    refine sg_ci0 (va_runSN (As := [.int (u 3 0), .int p1]) (rest := []) ⟨hx, hb, hml, hown, hts⟩ (c_X5_has l D cA N _ _ _ hc4 _) ⟨va_cnB (host := RX5) 2 hts gX3_timeFor_X5_has_n39 rfl rfl rfl (hK.2 _ (List.mem_of_getElem? (i := 7) rfl)) (hts (.initialized RX5) (by decide +kernel)) (by decide +kernel) ⟨Nat.le_of_ble_eq_true rfl, Nat.le_of_ble_eq_true rfl⟩, hts (.static yX5_has) (by decide +kernel), trivial⟩ (sg_pre0 hK) rfl rfl hl.1 rfl (lv_room (Nat.le_of_ble_eq_true rfl)) dX3_timeFor_19 ⟨Nat.zero_le _, Nat.zero_le _⟩) hP hS hA (fun H locs hP hS => ?_)
    refine lv_if_ne (tgt := 27) hx hb dX3_timeFor_22 (by decide) (fun c13 => ?_) (fun c13 => ?_)
    · have hf := sg_in c13 hf
      refine lv_iload_n hx hb dX3_timeFor_27 rfl (lv_at hl 2 rfl) ?_
      refine lv_aload_n hx hb dX3_timeFor_28 rfl (lv_at hl 0 rfl) ?_
      refine va_get (D := D) (ci := 5) (C := RX3) (T := TX3) (N := 5) hx hb hts hinX3 hown hK.1 hP 4 rfl rfl 2 (by decide) (hts (.fieldLink RX3 9 "Switchgear$Protection" "pickup" "[I") (by decide +kernel)) (fun _ h9 => h9) rfl dX3_timeFor_29 ?_
      refine lv_iload_n hx hb dX3_timeFor_32 rfl (lv_at hl 1 rfl) ?_
      obtain ⟨hg7, hf⟩ := sg_g_s hf
      refine va_iald hx hb hK.1 hP 14 0 rfl rfl (sg_inb_s hg7) dX3_timeFor_33 ?_
      refine lv_isub hx hb dX3_timeFor_34 ?_
      refine lv_istore_n (lv' := [(3, .int (p2 - (u 19 (p1).toNatClampNeg))), (0, .ref (ad 4)), (1, .int p1), (2, .int p2)]) hx hb dX3_timeFor_35 rfl hl (by decide) rfl (fun ls hl => ?_)
      refine lv_iload_n hx hb dX3_timeFor_36 rfl (lv_at hl 0 rfl) ?_
      refine lv_if_gt (tgt := 42) hx hb dX3_timeFor_37 (by decide) (fun c12 => ?_) (fun c12 => ?_)
      · have hf := sg_ip c12 hf
        refine lv_aload_n hx hb dX3_timeFor_42 rfl (lv_at hl 1 rfl) ?_
        refine va_get (D := D) (ci := 5) (C := RX3) (T := TX3) (N := 5) hx hb hts hinX3 hown hK.1 hP 4 rfl rfl 4 (by decide) (hts (.fieldLink RX3 18 "Switchgear$Protection" "instant" "[I") (by decide +kernel)) (fun _ h9 => h9) rfl dX3_timeFor_43 ?_
        refine lv_iload_n hx hb dX3_timeFor_46 rfl (lv_at hl 2 rfl) ?_
        obtain ⟨hg8, hf⟩ := sg_g_s hf
        refine va_iald hx hb hK.1 hP 16 0 rfl rfl (sg_inb_s hg8) dX3_timeFor_47 ?_
        refine lv_if_eq (tgt := 63) hx hb dX3_timeFor_48 (by decide) (fun c11 => ?_) (fun c11 => ?_)
        · have hf := sg_ip c11 hf
          exact hJ63 _ _ _ _ _ hf hP hD hS (lv_sub hl [1, 2, 0] rfl)
        · have hf := sg_in c11 hf
          refine lv_aload_n hx hb dX3_timeFor_51 rfl (lv_at hl 1 rfl) ?_
          refine va_get (D := D) (ci := 5) (C := RX3) (T := TX3) (N := 5) hx hb hts hinX3 hown hK.1 hP 4 rfl rfl 4 (by decide) (hts (.fieldLink RX3 18 "Switchgear$Protection" "instant" "[I") (by decide +kernel)) (fun _ h9 => h9) rfl dX3_timeFor_52 ?_
          refine lv_iload_n hx hb dX3_timeFor_55 rfl (lv_at hl 2 rfl) ?_
          obtain ⟨hg9, hf⟩ := sg_g_s hf
          refine va_iald hx hb hK.1 hP 16 0 rfl rfl (sg_inb_s hg9) dX3_timeFor_56 ?_
          refine lv_iload_n hx hb dX3_timeFor_57 rfl (lv_at hl 3 rfl) ?_
          refine lv_icmp_gt (tgt := 63) hx hb dX3_timeFor_58 (by decide) (fun c10 => ?_) (fun c10 => ?_)
          · have hf := sg_ip c10 hf
            exact hJ63 _ _ _ _ _ hf hP hD hS (lv_sub hl [1, 2, 0] rfl)
          · have hf := sg_in c10 hf
            refine lv_iconst (v := 1) hx hb dX3_timeFor_61 (by decide) ?_
            have hq := Option.some.inj hf
            exact sg_iret hx hb hr hP hD hS dX3_timeFor_62 hq rfl hlocks
      · have hf := sg_in c12 hf
        refine lv_iconst (v := (-1)) hx hb dX3_timeFor_40 (by decide) ?_
        have hq := Option.some.inj hf
        exact sg_iret hx hb hr hP hD hS dX3_timeFor_41 hq rfl hlocks
    · have hf := sg_ip c13 hf
      refine lv_iconst (v := (-1)) hx hb dX3_timeFor_25 (by decide) ?_
      have hq := Option.some.inj hf
      exact sg_iret hx hb hr hP hD hS dX3_timeFor_26 hq rfl hlocks
set_option maxRecDepth 100000 in
set_option maxHeartbeats 4000000 in
theorem c_X3_firstOnPath (l : Launch) (D : va_G) (cA : Nat → ClassId) (ad : Nat → Nat) (N : Nat) (u : sg_St) (p1 p2 p3 : Int32) (r : Int32) (hf : fX3_firstOnPath N u p1 p2 p3 = some r) : sg_CI l D cA (sg_WX cA ad) yX3_firstOnPath wsX3_firstOnPath ({ frames := 2, cells := 0, slots := 0, locals := 44 }) [.ref (ad 4), .int p1, .int p2, .int p3] u r u := by
  intro sz
  refine Met.ofW (cc := cX3_firstOnPath) (maxL := 9) (ret := (some .int)) (by decide) rfl ?_
  intro p e s m args below meth c s₁ B hml hv
  obtain ⟨rfl, hsz, hP, hK, hD0⟩ := hv
  have hx := B.exec
  have hb := B.bytes
  have hr := B.returns
  have hts := atoms_spec (ws := wsX3_firstOnPath) B.pre
  have hown : s.vm.findClass RX3 = some m.cls := findClass_of_methodNamed B.named
  have hlocks := B.notSynchronized
  subst hsz
  have hD := hD0.self (sz := s.heap.size)
  generalize hAe : va_A (sg_WX cA ad u) s.heap.size = A at hD ⊢
  have hA : ∀ q : Nat, s.heap.size ≤ q → A q := fun q h => by rw [← hAe]; exact Or.inr h
  have hS : va_S A s.heap s.heap [] := va_S.rf
  have hl := lv_entry ([.ref (ad 4), .int p1, .int p2, .int p3]) (n := 9) (Nat.le_of_ble_eq_true rfl)
  rw [lg_entry_eq]
  generalize (lg_sl ([.ref (ad 4), .int p1, .int p2, .int p3]) ++ List.replicate (9 - (lg_sl ([.ref (ad 4), .int p1, .int p2, .int p3])).length) Slot.unset).toArray = ls at hl ⊢
  replace hl : lv_has ls 9 [(0, .ref (ad 4)), (1, .int p1), (2, .int p2), (3, .int p3)] := hl
  have hinX3 : ∀ w ∈ u_ws RX3 TX3 5, w ∈ wsX3_firstOnPath := by decide +kernel
  have hL9 : ∀ (v1 v2 v3 : Int32) (n : Nat) (x : Int32 × Int32 × Int32) (r9 : Int32), sg_it (fun x => fX3_firstOnPath_L9 N u v1 v2 v3 x.1 x.2.1 x.2.2) n x = some r9 → ∀ (H : Heap) (locs : List Loc) (ls : Array Slot), va_P D vwCl (sg_WX cA ad u) H → va_D A (sg_WX cA ad u) → va_S A s.heap H locs → lv_has ls 9 [(0, .ref (ad 4)), (1, .int v1), (2, .int v2), (3, .int v3), (4, .int x.1), (5, .int x.2.1), (6, .int x.2.2)] → (∀ (H : Heap) (locs : List Loc) (ls : Array Slot), va_P D vwCl (sg_WX cA ad u) H → va_D A (sg_WX cA ad u) → va_S A s.heap H locs → lv_has ls 9 [(0, .ref (ad 4)), (4, .int r9)] → W p l e (headSpec wsX3_firstOnPath ({ frames := 2, cells := 0, slots := 0, locals := 44 })).room s m ([.ref (ad 4), .int p1, .int p2, .int p3] : List Value).toArray below meth c H locs 0 0 (MQ below (va_Qi (fun x y => x = r ∧ y = u) (sg_BX D (sg_WX cA ad) A) A) ([.ref (ad 4), .int p1, .int p2, .int p3] : List Value).toArray s 0 0 A) (F0 m 78 ls [])) → W p l e (headSpec wsX3_firstOnPath ({ frames := 2, cells := 0, slots := 0, locals := 44 })).room s m ([.ref (ad 4), .int p1, .int p2, .int p3] : List Value).toArray below meth c H locs 0 0 (MQ below (va_Qi (fun x y => x = r ∧ y = u) (sg_BX D (sg_WX cA ad) A) A) ([.ref (ad 4), .int p1, .int p2, .int p3] : List Value).toArray s 0 0 A) (F0 m 9 ls []) := by
    intro v1 v2 v3
    refine sg_loop _ ?_
    intro x y r9 hf hI hy H locs ls hP hD hS hl hk
    replace hf : fX3_firstOnPath_L9 N u v1 v2 v3 x.1 x.2.1 x.2.2 = some y := hf
    have hJ64 : ∀ (v6 v7 v8 : Int32) (H : Heap) (locs : List Loc) (ls : Array Slot), fX3_firstOnPath_j64 N u v1 v2 v3 v6 v7 v8 = some y → va_P D vwCl (sg_WX cA ad u) H → va_D A (sg_WX cA ad u) → va_S A s.heap H locs → lv_has ls 9 [(0, .ref (ad 4)), (1, .int v1), (2, .int v2), (3, .int v3), (6, .int v6), (7, .int v7), (8, .int v8)] → W p l e (headSpec wsX3_firstOnPath ({ frames := 2, cells := 0, slots := 0, locals := 44 })).room s m ([.ref (ad 4), .int p1, .int p2, .int p3] : List Value).toArray below meth c H locs 0 0 (MQ below (va_Qi (fun x y => x = r ∧ y = u) (sg_BX D (sg_WX cA ad) A) A) ([.ref (ad 4), .int p1, .int p2, .int p3] : List Value).toArray s 0 0 A) (F0 m 64 ls []) := by
      intro v6 v7 v8 H locs ls hf hP hD hS hl
      unfold fX3_firstOnPath_j64 at hf
      refine lv_iload hx hb dX3_firstOnPath_64 (lv_at hl 5 rfl) ?_
      refine lv_istore (lv' := [(4, .int v7), (0, .ref (ad 4)), (1, .int v1), (2, .int v2), (3, .int v3), (6, .int v6), (7, .int v7), (8, .int v8)]) hx hb dX3_firstOnPath_66 hl (by decide) rfl (fun ls hl => ?_)
      refine lv_iload hx hb dX3_firstOnPath_68 (lv_at hl 7 rfl) ?_
      refine lv_istore (lv' := [(5, .int v8), (4, .int v7), (0, .ref (ad 4)), (1, .int v1), (2, .int v2), (3, .int v3), (6, .int v6), (7, .int v7), (8, .int v8)]) hx hb dX3_firstOnPath_70 hl (by decide) rfl (fun ls hl => ?_)
      refine lv_iinc (v := v6 + 1) (lv' := [(6, .int (v6 + 1)), (5, .int v8), (4, .int v7), (0, .ref (ad 4)), (1, .int v1), (2, .int v2), (3, .int v3), (7, .int v7), (8, .int v8)]) hx hb dX3_firstOnPath_72 hl (k := 6) rfl rfl (by decide) rfl (fun ls hl => ?_)
      refine lv_goto (tgt := 9) hx hb dX3_firstOnPath_75 (by decide) ?_
      exact hI _ (Option.some.inj hf).symm _ _ _ hP hD hS (lv_sub hl [3, 4, 5, 6, 2, 1, 0] rfl) hk
    have hJ43 : ∀ (v4 v5 v6 v7 k0 : Int32) (H : Heap) (locs : List Loc) (ls : Array Slot), fX3_firstOnPath_j43 N u v1 v2 v3 v4 v5 v6 v7 k0 = some y → va_P D vwCl (sg_WX cA ad u) H → va_D A (sg_WX cA ad u) → va_S A s.heap H locs → lv_has ls 9 [(0, .ref (ad 4)), (1, .int v1), (2, .int v2), (3, .int v3), (4, .int v4), (5, .int v5), (6, .int v6), (7, .int v7)] → W p l e (headSpec wsX3_firstOnPath ({ frames := 2, cells := 0, slots := 0, locals := 44 })).room s m ([.ref (ad 4), .int p1, .int p2, .int p3] : List Value).toArray below meth c H locs 0 0 (MQ below (va_Qi (fun x y => x = r ∧ y = u) (sg_BX D (sg_WX cA ad) A) A) ([.ref (ad 4), .int p1, .int p2, .int p3] : List Value).toArray s 0 0 A) (F0 m 43 ls [.int k0]) := by
      intro v4 v5 v6 v7 k0 H locs ls hf hP hD hS hl
      unfold fX3_firstOnPath_j43 at hf
      refine lv_istore (lv' := [(8, .int k0), (0, .ref (ad 4)), (1, .int v1), (2, .int v2), (3, .int v3), (4, .int v4), (5, .int v5), (6, .int v6), (7, .int v7)]) hx hb dX3_firstOnPath_43 hl (by decide) rfl (fun ls hl => ?_)
      refine lv_iload hx hb dX3_firstOnPath_45 (lv_at hl 0 rfl) ?_
      refine lv_iconst (v := (-1)) hx hb dX3_firstOnPath_47 (by decide) ?_
      refine lv_icmp_eq (tgt := 72) hx hb dX3_firstOnPath_48 (by decide) (fun c3 => ?_) (fun c3 => ?_)
      · have hf := sg_ip c3 hf
        refine lv_iinc (v := v6 + 1) (lv' := [(6, .int (v6 + 1)), (8, .int k0), (0, .ref (ad 4)), (1, .int v1), (2, .int v2), (3, .int v3), (4, .int v4), (5, .int v5), (7, .int v7)]) hx hb dX3_firstOnPath_72 hl (k := 7) rfl rfl (by decide) rfl (fun ls hl => ?_)
        refine lv_goto (tgt := 9) hx hb dX3_firstOnPath_75 (by decide) ?_
        exact hI _ (Option.some.inj hf).symm _ _ _ hP hD hS (lv_sub hl [2, 3, 4, 5, 6, 7, 0] rfl) hk
      · have hf := sg_in c3 hf
        refine lv_iload hx hb dX3_firstOnPath_51 (lv_at hl 5 rfl) ?_
        refine lv_iconst (v := (-1)) hx hb dX3_firstOnPath_53 (by decide) ?_
        refine lv_icmp_eq (tgt := 64) hx hb dX3_firstOnPath_54 (by decide) (fun c2 => ?_) (fun c2 => ?_)
        · have hf := sg_ip c2 hf
          exact hJ64 _ _ _ _ _ _ hf hP hD hS (lv_sub hl [1, 2, 3, 4, 7, 8, 0] rfl)
        · have hf := sg_in c2 hf
          refine lv_iload hx hb dX3_firstOnPath_57 (lv_at hl 0 rfl) ?_
          refine lv_iload hx hb dX3_firstOnPath_59 (lv_at hl 6 rfl) ?_
          refine lv_icmp_gt (tgt := 72) hx hb dX3_firstOnPath_61 (by decide) (fun c1 => ?_) (fun c1 => ?_)
          · have hf := sg_ip c1 hf
            refine lv_iinc (v := v6 + 1) (lv' := [(6, .int (v6 + 1)), (8, .int k0), (0, .ref (ad 4)), (1, .int v1), (2, .int v2), (3, .int v3), (4, .int v4), (5, .int v5), (7, .int v7)]) hx hb dX3_firstOnPath_72 hl (k := 7) rfl rfl (by decide) rfl (fun ls hl => ?_)
            refine lv_goto (tgt := 9) hx hb dX3_firstOnPath_75 (by decide) ?_
            exact hI _ (Option.some.inj hf).symm _ _ _ hP hD hS (lv_sub hl [2, 3, 4, 5, 6, 7, 0] rfl) hk
          · have hf := sg_in c1 hf
            exact hJ64 _ _ _ _ _ _ hf hP hD hS (lv_sub hl [1, 2, 3, 4, 7, 8, 0] rfl)
    unfold fX3_firstOnPath_L9 at hf
    refine lv_iload hx hb dX3_firstOnPath_9 (lv_at hl 6 rfl) ?_
    refine lv_iload_n hx hb dX3_firstOnPath_11 rfl (lv_at hl 1 rfl) ?_
    refine lv_icmp_ge (tgt := 78) hx hb dX3_firstOnPath_12 (by decide) (fun c8 => ?_) (fun c8 => ?_)
    · have hf := sg_ip c8 hf
      have hq := hy _ (Option.some.inj hf).symm
      subst hq
      exact hk _ _ _ hP hD hS (lv_sub hl [0, 4] rfl)
    · have hf := sg_in c8 hf
      refine lv_aload_n hx hb dX3_firstOnPath_15 rfl (lv_at hl 0 rfl) ?_
      refine va_get (D := D) (ci := 5) (C := RX3) (T := TX3) (N := 5) hx hb hts hinX3 hown hK.1 hP 4 rfl rfl 1 (by decide) (hts (.fieldLink RX3 25 "Switchgear$Protection" "feeder" "LSwitchgear$Feeder;") (by decide +kernel)) (fun _ h9 => h9) rfl dX3_firstOnPath_16 ?_
      refine lv_iload hx hb dX3_firstOnPath_19 (lv_at hl 6 rfl) ?_
      obtain ⟨r2, hc1, hf⟩ := sg_b_s hf
      refine sg_ci (va_runV (As := [.int x.2.2]) (rest := []) ⟨hx, hb, hml, hown, hts⟩ (c_X0_lineOnPath l D cA ad N _ _ _ hc1 _) (cwV 1 hts gX3_firstOnPath_X0_lineOnPath rfl rfl rfl (by decide +kernel) ⟨Nat.le_of_ble_eq_true rfl, Nat.le_of_ble_eq_true rfl⟩) (sg_pre hK hP hD (ci := 2) (q0 := 2) rfl rfl) rfl rfl hl.1 rfl (lv_room (Nat.le_of_ble_eq_true rfl)) dX3_firstOnPath_21 ⟨Nat.zero_le _, Nat.zero_le _⟩) hD hS hA (fun H locs hP hD hS => ?_)
      refine lv_istore (lv' := [(7, .int r2), (0, .ref (ad 4)), (1, .int v1), (2, .int v2), (3, .int v3), (4, .int x.1), (5, .int x.2.1), (6, .int x.2.2)]) hx hb dX3_firstOnPath_24 hl (by decide) rfl (fun ls hl => ?_)
      refine lv_iload hx hb dX3_firstOnPath_26 (lv_at hl 0 rfl) ?_
      refine lv_iload_n hx hb dX3_firstOnPath_28 rfl (lv_at hl 4 rfl) ?_
      refine lv_icmp_ne (tgt := 36) hx hb dX3_firstOnPath_29 (by decide) (fun c7 => ?_) (fun c7 => ?_)
      · have hf := sg_in c7 hf
        refine lv_aload_n hx hb dX3_firstOnPath_36 rfl (lv_at hl 1 rfl) ?_
        refine lv_iload hx hb dX3_firstOnPath_37 (lv_at hl 0 rfl) ?_
        refine lv_iload_n hx hb dX3_firstOnPath_39 rfl (lv_at hl 3 rfl) ?_
        obtain ⟨r5, hc4, hf⟩ := sg_b_s hf
        refine sg_ci (va_runV (As := [.int r2, .int v2]) (rest := []) ⟨hx, hb, hml, hown, hts⟩ (c_X3_timeFor l D cA ad N _ _ _ _ hc4 _) (cwV 2 hts gX3_firstOnPath_X3_timeFor rfl rfl rfl (by decide +kernel) ⟨Nat.le_of_ble_eq_true rfl, Nat.le_of_ble_eq_true rfl⟩) (sg_pre hK hP hD (ci := 5) (q0 := 4) rfl rfl) rfl rfl hl.1 rfl (lv_room (Nat.le_of_ble_eq_true rfl)) dX3_firstOnPath_40 ⟨Nat.zero_le _, Nat.zero_le _⟩) hD hS hA (fun H locs hP hD hS => ?_)
        exact hJ43 _ _ _ _ _ _ _ _ hf hP hD hS (lv_sub hl [1, 2, 3, 4, 5, 6, 7, 0] rfl)
      · have hf := sg_ip c7 hf
        refine lv_iconst (v := (-1)) hx hb dX3_firstOnPath_32 (by decide) ?_
        refine lv_goto (tgt := 43) hx hb dX3_firstOnPath_33 (by decide) ?_
        exact hJ43 _ _ _ _ _ _ _ _ hf hP hD hS (lv_sub hl [1, 2, 3, 4, 5, 6, 7, 0] rfl)
  unfold fX3_firstOnPath at hf
  refine lv_iconst (v := (-1)) hx hb dX3_firstOnPath_0 (by decide) ?_
  refine lv_istore (lv' := [(4, .int ((-1))), (0, .ref (ad 4)), (1, .int p1), (2, .int p2), (3, .int p3)]) hx hb dX3_firstOnPath_1 hl (by decide) rfl (fun ls hl => ?_)
  refine lv_iconst (v := 0) hx hb dX3_firstOnPath_3 (by decide) ?_
  refine lv_istore (lv' := [(5, .int 0), (4, .int ((-1))), (0, .ref (ad 4)), (1, .int p1), (2, .int p2), (3, .int p3)]) hx hb dX3_firstOnPath_4 hl (by decide) rfl (fun ls hl => ?_)
  refine lv_iconst (v := 0) hx hb dX3_firstOnPath_6 (by decide) ?_
  refine lv_istore (lv' := [(6, .int 0), (5, .int 0), (4, .int ((-1))), (0, .ref (ad 4)), (1, .int p1), (2, .int p2), (3, .int p3)]) hx hb dX3_firstOnPath_7 hl (by decide) rfl (fun ls hl => ?_)
  obtain ⟨e1, hc2, hf⟩ := sg_b_s hf
  refine hL9 _ _ _ _ _ e1 hc2 _ _ _ hP hD hS (lv_sub hl [3, 4, 5, 6, 2, 1, 0] rfl) (fun H locs ls hP hD hS hl => ?_)
  refine lv_iload hx hb dX3_firstOnPath_78 (lv_at hl 1 rfl) ?_
  have hq := Option.some.inj hf
  exact sg_iret hx hb hr hP hD hS dX3_firstOnPath_80 hq rfl hlocks
set_option maxRecDepth 100000 in
set_option maxHeartbeats 4000000 in
theorem c_X3_answerTo (l : Launch) (D : va_G) (cA : Nat → ClassId) (ad : Nat → Nat) (N : Nat) (u : sg_St) (p1 p2 : Int32) (r : Int32) (u' : sg_St) (hf : fX3_answerTo N u p1 p2 = some (r, u')) : sg_CI l D cA (sg_WX cA ad) yX3_answerTo wsX3_answerTo ({ frames := 16, cells := 0, slots := 0, locals := 438 }) [.ref (ad 4), .int p1, .int p2] u r u' := by
  intro sz
  refine Met.ofW (cc := cX3_answerTo) (maxL := 5) (ret := (some .int)) (by decide) rfl ?_
  intro p e s m args below meth c s₁ B hml hv
  obtain ⟨rfl, hsz, hP, hK, hD0⟩ := hv
  have hx := B.exec
  have hb := B.bytes
  have hr := B.returns
  have hts := atoms_spec (ws := wsX3_answerTo) B.pre
  have hown : s.vm.findClass RX3 = some m.cls := findClass_of_methodNamed B.named
  have hlocks := B.notSynchronized
  subst hsz
  have hD := hD0.self (sz := s.heap.size)
  generalize hAe : va_A (sg_WX cA ad u) s.heap.size = A at hD ⊢
  have hA : ∀ q : Nat, s.heap.size ≤ q → A q := fun q h => by rw [← hAe]; exact Or.inr h
  have hS : va_S A s.heap s.heap [] := va_S.rf
  have hl := lv_entry ([.ref (ad 4), .int p1, .int p2]) (n := 5) (Nat.le_of_ble_eq_true rfl)
  rw [lg_entry_eq]
  generalize (lg_sl ([.ref (ad 4), .int p1, .int p2]) ++ List.replicate (5 - (lg_sl ([.ref (ad 4), .int p1, .int p2])).length) Slot.unset).toArray = ls at hl ⊢
  replace hl : lv_has ls 5 [(0, .ref (ad 4)), (1, .int p1), (2, .int p2)] := hl
  have hinX3 : ∀ w ∈ u_ws RX3 TX3 5, w ∈ wsX3_answerTo := by decide +kernel
  unfold fX3_answerTo at hf
  refine lv_aload_n hx hb dX3_answerTo_0 rfl (lv_at hl 0 rfl) ?_
  refine va_get (D := D) (ci := 5) (C := RX3) (T := TX3) (N := 5) hx hb hts hinX3 hown hK.1 hP 4 rfl rfl 1 (by decide) (hts (.fieldLink RX3 25 "Switchgear$Protection" "feeder" "LSwitchgear$Feeder;") (by decide +kernel)) (fun _ h9 => h9) rfl dX3_answerTo_1 ?_
  refine lv_iload_n hx hb dX3_answerTo_4 rfl (lv_at hl 1 rfl) ?_
  refine lv_iload_n hx hb dX3_answerTo_5 rfl (lv_at hl 2 rfl) ?_
  obtain ⟨r2, u3, hc1, hf⟩ := sg_b2_s hf
  refine sg_ci (va_runV (As := [.int p1, .int p2]) (rest := []) ⟨hx, hb, hml, hown, hts⟩ (c_X0_layPath l D cA ad N _ _ _ _ _ hc1 _) (cwV 2 hts gX3_answerTo_X0_layPath rfl rfl rfl (by decide +kernel) ⟨Nat.le_of_ble_eq_true rfl, Nat.le_of_ble_eq_true rfl⟩) (sg_pre hK hP hD (ci := 2) (q0 := 2) rfl rfl) rfl rfl hl.1 rfl (lv_room (Nat.le_of_ble_eq_true rfl)) dX3_answerTo_6 ⟨Nat.zero_le _, Nat.zero_le _⟩) hD hS hA (fun H locs hP hD hS => ?_)
  refine lv_istore_n (lv' := [(3, .int r2), (0, .ref (ad 4)), (1, .int p1), (2, .int p2)]) hx hb dX3_answerTo_9 rfl hl (by decide) rfl (fun ls hl => ?_)
  refine lv_iload_n hx hb dX3_answerTo_10 rfl (lv_at hl 0 rfl) ?_
  refine lv_if_ne (tgt := 16) hx hb dX3_answerTo_11 (by decide) (fun c11 => ?_) (fun c11 => ?_)
  · have hf := sg_in c11 hf
    refine lv_aload_n hx hb dX3_answerTo_16 rfl (lv_at hl 1 rfl) ?_
    refine lv_iload_n hx hb dX3_answerTo_17 rfl (lv_at hl 0 rfl) ?_
    refine lv_aload_n hx hb dX3_answerTo_18 rfl (lv_at hl 1 rfl) ?_
    refine lv_iload_n hx hb dX3_answerTo_19 rfl (lv_at hl 2 rfl) ?_
    refine lv_iload_n hx hb dX3_answerTo_20 rfl (lv_at hl 0 rfl) ?_
    refine lv_iload_n hx hb dX3_answerTo_21 rfl (lv_at hl 3 rfl) ?_
    obtain ⟨r5, hc4, hf⟩ := sg_b_s hf
    refine sg_ci (va_runV (As := [.int p1, .int r2, .int p2]) (rest := [.int r2, .ref (ad 4)]) ⟨hx, hb, hml, hown, hts⟩ (c_X3_currentOfFault l D cA ad N _ _ _ _ _ hc4 _) (cwV 3 hts gX3_answerTo_X3_currentOfFault rfl rfl rfl (by decide +kernel) ⟨Nat.le_of_ble_eq_true rfl, Nat.le_of_ble_eq_true rfl⟩) (sg_pre hK hP hD (ci := 5) (q0 := 4) rfl rfl) rfl rfl hl.1 rfl (lv_room (Nat.le_of_ble_eq_true rfl)) dX3_answerTo_22 ⟨Nat.zero_le _, Nat.zero_le _⟩) hD hS hA (fun H locs hP hD hS => ?_)
    refine lv_iconst (v := (-1)) hx hb dX3_answerTo_25 (by decide) ?_
    obtain ⟨r8, hc7, hf⟩ := sg_b_s hf
    refine sg_ci (va_runV (As := [.int r2, .int r5, .int ((-1))]) (rest := []) ⟨hx, hb, hml, hown, hts⟩ (c_X3_firstOnPath l D cA ad N _ _ _ _ _ hc7 _) (cwV 3 hts gX3_answerTo_X3_firstOnPath rfl rfl rfl (by decide +kernel) ⟨Nat.le_of_ble_eq_true rfl, Nat.le_of_ble_eq_true rfl⟩) (sg_pre hK hP hD (ci := 5) (q0 := 4) rfl rfl) rfl rfl hl.1 rfl (lv_room (Nat.le_of_ble_eq_true rfl)) dX3_answerTo_26 ⟨Nat.zero_le _, Nat.zero_le _⟩) hD hS hA (fun H locs hP hD hS => ?_)
    refine lv_istore (lv' := [(4, .int r8), (3, .int r2), (0, .ref (ad 4)), (1, .int p1), (2, .int p2)]) hx hb dX3_answerTo_29 hl (by decide) rfl (fun ls hl => ?_)
    refine lv_iload hx hb dX3_answerTo_31 (lv_at hl 0 rfl) ?_
    refine lv_iconst (v := (-1)) hx hb dX3_answerTo_33 (by decide) ?_
    refine lv_icmp_ne (tgt := 42) hx hb dX3_answerTo_34 (by decide) (fun c10 => ?_) (fun c10 => ?_)
    · have hf := sg_in c10 hf
      refine lv_iload hx hb dX3_answerTo_42 (lv_at hl 0 rfl) ?_
      have hq := Option.some.inj hf
      exact sg_iret hx hb hr hP hD hS dX3_answerTo_44 (congrArg Prod.fst hq) (congrArg Prod.snd hq) hlocks
    · have hf := sg_ip c10 hf
      refine lv_bipush (v := (-2)) hx hb dX3_answerTo_37 (by decide) ?_
      refine lv_goto (tgt := 44) hx hb dX3_answerTo_39 (by decide) ?_
      have hq := Option.some.inj hf
      exact sg_iret hx hb hr hP hD hS dX3_answerTo_44 (congrArg Prod.fst hq) (congrArg Prod.snd hq) hlocks
  · have hf := sg_ip c11 hf
    refine lv_iconst (v := (-1)) hx hb dX3_answerTo_14 (by decide) ?_
    have hq := Option.some.inj hf
    exact sg_iret hx hb hr hP hD hS dX3_answerTo_15 (congrArg Prod.fst hq) (congrArg Prod.snd hq) hlocks
set_option maxRecDepth 100000 in
set_option maxHeartbeats 4000000 in
theorem c_X3_leadOf (l : Launch) (D : va_G) (cA : Nat → ClassId) (ad : Nat → Nat) (N : Nat) (u : sg_St) (p1 p2 : Int32) (r : Int32) (u' : sg_St) (hf : fX3_leadOf N u p1 p2 = some (r, u')) : sg_CI l D cA (sg_WX cA ad) yX3_leadOf wsX3_leadOf ({ frames := 16, cells := 0, slots := 0, locals := 438 }) [.ref (ad 4), .int p1, .int p2] u r u' := by
  intro sz
  refine Met.ofW (cc := cX3_leadOf) (maxL := 6) (ret := (some .int)) (by decide) rfl ?_
  intro p e s m args below meth c s₁ B hml hv
  obtain ⟨rfl, hsz, hP, hK, hD0⟩ := hv
  have hx := B.exec
  have hb := B.bytes
  have hr := B.returns
  have hts := atoms_spec (ws := wsX3_leadOf) B.pre
  have hown : s.vm.findClass RX3 = some m.cls := findClass_of_methodNamed B.named
  have hlocks := B.notSynchronized
  subst hsz
  have hD := hD0.self (sz := s.heap.size)
  generalize hAe : va_A (sg_WX cA ad u) s.heap.size = A at hD ⊢
  have hA : ∀ q : Nat, s.heap.size ≤ q → A q := fun q h => by rw [← hAe]; exact Or.inr h
  have hS : va_S A s.heap s.heap [] := va_S.rf
  have hl := lv_entry ([.ref (ad 4), .int p1, .int p2]) (n := 6) (Nat.le_of_ble_eq_true rfl)
  rw [lg_entry_eq]
  generalize (lg_sl ([.ref (ad 4), .int p1, .int p2]) ++ List.replicate (6 - (lg_sl ([.ref (ad 4), .int p1, .int p2])).length) Slot.unset).toArray = ls at hl ⊢
  replace hl : lv_has ls 6 [(0, .ref (ad 4)), (1, .int p1), (2, .int p2)] := hl
  have hinX3 : ∀ w ∈ u_ws RX3 TX3 5, w ∈ wsX3_leadOf := by decide +kernel
  unfold fX3_leadOf at hf
  refine lv_aload_n hx hb dX3_leadOf_0 rfl (lv_at hl 0 rfl) ?_
  refine va_get (D := D) (ci := 5) (C := RX3) (T := TX3) (N := 5) hx hb hts hinX3 hown hK.1 hP 4 rfl rfl 1 (by decide) (hts (.fieldLink RX3 25 "Switchgear$Protection" "feeder" "LSwitchgear$Feeder;") (by decide +kernel)) (fun _ h9 => h9) rfl dX3_leadOf_1 ?_
  refine lv_iload_n hx hb dX3_leadOf_4 rfl (lv_at hl 1 rfl) ?_
  refine lv_iload_n hx hb dX3_leadOf_5 rfl (lv_at hl 2 rfl) ?_
  obtain ⟨r2, u3, hc1, hf⟩ := sg_b2_s hf
  refine sg_ci (va_runV (As := [.int p1, .int p2]) (rest := []) ⟨hx, hb, hml, hown, hts⟩ (c_X0_layPath l D cA ad N _ _ _ _ _ hc1 _) (cwV 2 hts gX3_leadOf_X0_layPath rfl rfl rfl (by decide +kernel) ⟨Nat.le_of_ble_eq_true rfl, Nat.le_of_ble_eq_true rfl⟩) (sg_pre hK hP hD (ci := 2) (q0 := 2) rfl rfl) rfl rfl hl.1 rfl (lv_room (Nat.le_of_ble_eq_true rfl)) dX3_leadOf_6 ⟨Nat.zero_le _, Nat.zero_le _⟩) hD hS hA (fun H locs hP hD hS => ?_)
  refine lv_istore_n (lv' := [(3, .int r2), (0, .ref (ad 4)), (1, .int p1), (2, .int p2)]) hx hb dX3_leadOf_9 rfl hl (by decide) rfl (fun ls hl => ?_)
  refine lv_aload_n hx hb dX3_leadOf_10 rfl (lv_at hl 1 rfl) ?_
  refine lv_iload_n hx hb dX3_leadOf_11 rfl (lv_at hl 2 rfl) ?_
  refine lv_iload_n hx hb dX3_leadOf_12 rfl (lv_at hl 0 rfl) ?_
  refine lv_iload_n hx hb dX3_leadOf_13 rfl (lv_at hl 3 rfl) ?_
  obtain ⟨r5, hc4, hf⟩ := sg_b_s hf
  refine sg_ci (va_runV (As := [.int p1, .int r2, .int p2]) (rest := []) ⟨hx, hb, hml, hown, hts⟩ (c_X3_currentOfFault l D cA ad N _ _ _ _ _ hc4 _) (cwV 3 hts gX3_leadOf_X3_currentOfFault rfl rfl rfl (by decide +kernel) ⟨Nat.le_of_ble_eq_true rfl, Nat.le_of_ble_eq_true rfl⟩) (sg_pre hK hP hD (ci := 5) (q0 := 4) rfl rfl) rfl rfl hl.1 rfl (lv_room (Nat.le_of_ble_eq_true rfl)) dX3_leadOf_14 ⟨Nat.zero_le _, Nat.zero_le _⟩) hD hS hA (fun H locs hP hD hS => ?_)
  refine lv_istore (lv' := [(4, .int r5), (3, .int r2), (0, .ref (ad 4)), (1, .int p1), (2, .int p2)]) hx hb dX3_leadOf_17 hl (by decide) rfl (fun ls hl => ?_)
  refine lv_aload_n hx hb dX3_leadOf_19 rfl (lv_at hl 2 rfl) ?_
  refine lv_iload_n hx hb dX3_leadOf_20 rfl (lv_at hl 1 rfl) ?_
  refine lv_iload hx hb dX3_leadOf_21 (lv_at hl 0 rfl) ?_
  refine lv_iload_n hx hb dX3_leadOf_23 rfl (lv_at hl 3 rfl) ?_
  obtain ⟨r8, hc7, hf⟩ := sg_b_s hf
  refine sg_ci (va_runV (As := [.int r2, .int r5, .int p1]) (rest := []) ⟨hx, hb, hml, hown, hts⟩ (c_X3_firstOnPath l D cA ad N _ _ _ _ _ hc7 _) (cwV 3 hts gX3_leadOf_X3_firstOnPath rfl rfl rfl (by decide +kernel) ⟨Nat.le_of_ble_eq_true rfl, Nat.le_of_ble_eq_true rfl⟩) (sg_pre hK hP hD (ci := 5) (q0 := 4) rfl rfl) rfl rfl hl.1 rfl (lv_room (Nat.le_of_ble_eq_true rfl)) dX3_leadOf_24 ⟨Nat.zero_le _, Nat.zero_le _⟩) hD hS hA (fun H locs hP hD hS => ?_)
  refine lv_istore (lv' := [(5, .int r8), (4, .int r5), (3, .int r2), (0, .ref (ad 4)), (1, .int p1), (2, .int p2)]) hx hb dX3_leadOf_27 hl (by decide) rfl (fun ls hl => ?_)
  refine lv_iload hx hb dX3_leadOf_29 (lv_at hl 0 rfl) ?_
  refine lv_iconst (v := (-1)) hx hb dX3_leadOf_31 (by decide) ?_
  refine lv_icmp_ne (tgt := 39) hx hb dX3_leadOf_32 (by decide) (fun c16 => ?_) (fun c16 => ?_)
  · have hf := sg_in c16 hf
    refine lv_aload_n hx hb dX3_leadOf_39 rfl (lv_at hl 3 rfl) ?_
    refine lv_iload hx hb dX3_leadOf_40 (lv_at hl 0 rfl) ?_
    refine lv_iload hx hb dX3_leadOf_42 (lv_at hl 1 rfl) ?_
    obtain ⟨r11, hc10, hf⟩ := sg_b_s hf
    refine sg_ci (va_runV (As := [.int r8, .int r5]) (rest := []) ⟨hx, hb, hml, hown, hts⟩ (c_X3_timeFor l D cA ad N _ _ _ _ hc10 _) (cwV 2 hts gX3_leadOf_X3_timeFor rfl rfl rfl (by decide +kernel) ⟨Nat.le_of_ble_eq_true rfl, Nat.le_of_ble_eq_true rfl⟩) (sg_pre hK hP hD (ci := 5) (q0 := 4) rfl rfl) rfl rfl hl.1 rfl (lv_room (Nat.le_of_ble_eq_true rfl)) dX3_leadOf_44 ⟨Nat.zero_le _, Nat.zero_le _⟩) hD hS hA (fun H locs hP hD hS => ?_)
    refine lv_aload_n hx hb dX3_leadOf_47 rfl (lv_at hl 3 rfl) ?_
    refine lv_iload_n hx hb dX3_leadOf_48 rfl (lv_at hl 4 rfl) ?_
    refine lv_iload hx hb dX3_leadOf_49 (lv_at hl 1 rfl) ?_
    obtain ⟨r14, hc13, hf⟩ := sg_b_s hf
    refine sg_ci (va_runV (As := [.int p1, .int r5]) (rest := [.int r11]) ⟨hx, hb, hml, hown, hts⟩ (c_X3_timeFor l D cA ad N _ _ _ _ hc13 _) (cwV 2 hts gX3_leadOf_X3_timeFor rfl rfl rfl (by decide +kernel) ⟨Nat.le_of_ble_eq_true rfl, Nat.le_of_ble_eq_true rfl⟩) (sg_pre hK hP hD (ci := 5) (q0 := 4) rfl rfl) rfl rfl hl.1 rfl (lv_room (Nat.le_of_ble_eq_true rfl)) dX3_leadOf_51 ⟨Nat.zero_le _, Nat.zero_le _⟩) hD hS hA (fun H locs hP hD hS => ?_)
    refine lv_isub hx hb dX3_leadOf_54 ?_
    have hq := Option.some.inj hf
    exact sg_iret hx hb hr hP hD hS dX3_leadOf_55 (congrArg Prod.fst hq) (congrArg Prod.snd hq) hlocks
  · have hf := sg_ip c16 hf
    refine lv_iconst (v := (-1)) hx hb dX3_leadOf_35 (by decide) ?_
    refine lv_goto (tgt := 55) hx hb dX3_leadOf_36 (by decide) ?_
    have hq := Option.some.inj hf
    exact sg_iret hx hb hr hP hD hS dX3_leadOf_55 (congrArg Prod.fst hq) (congrArg Prod.snd hq) hlocks
set_option maxRecDepth 100000 in
set_option maxHeartbeats 4000000 in
theorem c_X3_pickupAt (l : Launch) (D : va_G) (cA : Nat → ClassId) (ad : Nat → Nat) (N : Nat) (u : sg_St) (p1 : Int32) (r : Int32) (hf : fX3_pickupAt N u p1 = some r) : sg_CI l D cA (sg_WX cA ad) yX3_pickupAt wsX3_pickupAt ({ frames := 1, cells := 0, slots := 0, locals := 21 }) [.ref (ad 4), .int p1] u r u := by
  intro sz
  refine Met.ofW (cc := cX3_pickupAt) (maxL := 2) (ret := (some .int)) (by decide) rfl ?_
  intro p e s m args below meth c s₁ B hml hv
  obtain ⟨rfl, hsz, hP, hK, hD0⟩ := hv
  have hx := B.exec
  have hb := B.bytes
  have hr := B.returns
  have hts := atoms_spec (ws := wsX3_pickupAt) B.pre
  have hown : s.vm.findClass RX3 = some m.cls := findClass_of_methodNamed B.named
  have hlocks := B.notSynchronized
  subst hsz
  have hD := hD0.self (sz := s.heap.size)
  generalize hAe : va_A (sg_WX cA ad u) s.heap.size = A at hD ⊢
  have hA : ∀ q : Nat, s.heap.size ≤ q → A q := fun q h => by rw [← hAe]; exact Or.inr h
  have hS : va_S A s.heap s.heap [] := va_S.rf
  have hl := lv_entry ([.ref (ad 4), .int p1]) (n := 2) (Nat.le_of_ble_eq_true rfl)
  rw [lg_entry_eq]
  generalize (lg_sl ([.ref (ad 4), .int p1]) ++ List.replicate (2 - (lg_sl ([.ref (ad 4), .int p1])).length) Slot.unset).toArray = ls at hl ⊢
  replace hl : lv_has ls 2 [(0, .ref (ad 4)), (1, .int p1)] := hl
  have hinX3 : ∀ w ∈ u_ws RX3 TX3 5, w ∈ wsX3_pickupAt := by decide +kernel
  unfold fX3_pickupAt at hf
  refine lv_aload_n hx hb dX3_pickupAt_0 rfl (lv_at hl 0 rfl) ?_
  refine va_get (D := D) (ci := 5) (C := RX3) (T := TX3) (N := 5) hx hb hts hinX3 hown hK.1 hP 4 rfl rfl 0 (by decide) (hts (.fieldLink RX3 21 "Switchgear$Protection" "grid" "LSwitchgear$Grid;") (by decide +kernel)) (fun _ h9 => h9) rfl dX3_pickupAt_1 ?_
  refine lv_iload_n hx hb dX3_pickupAt_4 rfl (lv_at hl 1 rfl) ?_
  obtain ⟨r2, hc1, hf⟩ := sg_b_s hf
  refine sg_ci (va_runV (As := [.int p1]) (rest := []) ⟨hx, hb, hml, hown, hts⟩ (c_X1_isLine l D cA ad N _ _ _ hc1 _) (cwV 1 hts gX3_pickupAt_X1_isLine rfl rfl rfl (by decide +kernel) ⟨Nat.le_of_ble_eq_true rfl, Nat.le_of_ble_eq_true rfl⟩) (sg_pre hK hP hD (ci := 3) (q0 := 1) rfl rfl) rfl rfl hl.1 rfl (lv_room (Nat.le_of_ble_eq_true rfl)) dX3_pickupAt_5 ⟨Nat.zero_le _, Nat.zero_le _⟩) hD hS hA (fun H locs hP hD hS => ?_)
  refine lv_if_eq (tgt := 20) hx hb dX3_pickupAt_8 (by decide) (fun c5 => ?_) (fun c5 => ?_)
  · have hf := sg_ip c5 hf
    refine lv_iconst (v := 0) hx hb dX3_pickupAt_20 (by decide) ?_
    have hq := Option.some.inj hf
    exact sg_iret hx hb hr hP hD hS dX3_pickupAt_21 hq rfl hlocks
  · have hf := sg_in c5 hf
    refine lv_aload_n hx hb dX3_pickupAt_11 rfl (lv_at hl 0 rfl) ?_
    refine va_get (D := D) (ci := 5) (C := RX3) (T := TX3) (N := 5) hx hb hts hinX3 hown hK.1 hP 4 rfl rfl 2 (by decide) (hts (.fieldLink RX3 9 "Switchgear$Protection" "pickup" "[I") (by decide +kernel)) (fun _ h9 => h9) rfl dX3_pickupAt_12 ?_
    refine lv_iload_n hx hb dX3_pickupAt_15 rfl (lv_at hl 1 rfl) ?_
    obtain ⟨hg4, hf⟩ := sg_g_s hf
    refine va_iald hx hb hK.1 hP 14 0 rfl rfl (sg_inb_s hg4) dX3_pickupAt_16 ?_
    refine lv_goto (tgt := 21) hx hb dX3_pickupAt_17 (by decide) ?_
    have hq := Option.some.inj hf
    exact sg_iret hx hb hr hP hD hS dX3_pickupAt_21 hq rfl hlocks
set_option maxRecDepth 100000 in
set_option maxHeartbeats 4000000 in
theorem c_X3_setUp (l : Launch) (D : va_G) (cA : Nat → ClassId) (ad : Nat → Nat) (N : Nat) (u : sg_St) (p1 p2 p3 p4 : Int32) (u' : sg_St) (hf : fX3_setUp N u p1 p2 p3 p4 = some u') : sg_CV l D cA (sg_WX cA ad) yX3_setUp wsX3_setUp ({ frames := 1, cells := 0, slots := 0, locals := 21 }) [.ref (ad 4), .int p1, .int p2, .int p3, .int p4] u u' := by
  intro sz
  refine Met.ofW (cc := cX3_setUp) (maxL := 5) (ret := none) (by decide) rfl ?_
  intro p e s m args below meth c s₁ B hml hv
  obtain ⟨rfl, hsz, hP, hK, hD0⟩ := hv
  have hx := B.exec
  have hb := B.bytes
  have hr := B.returns
  have hts := atoms_spec (ws := wsX3_setUp) B.pre
  have hown : s.vm.findClass RX3 = some m.cls := findClass_of_methodNamed B.named
  have hlocks := B.notSynchronized
  subst hsz
  have hD := hD0.self (sz := s.heap.size)
  generalize hAe : va_A (sg_WX cA ad u) s.heap.size = A at hD ⊢
  have hA : ∀ q : Nat, s.heap.size ≤ q → A q := fun q h => by rw [← hAe]; exact Or.inr h
  have hS : va_S A s.heap s.heap [] := va_S.rf
  have hl := lv_entry ([.ref (ad 4), .int p1, .int p2, .int p3, .int p4]) (n := 5) (Nat.le_of_ble_eq_true rfl)
  rw [lg_entry_eq]
  generalize (lg_sl ([.ref (ad 4), .int p1, .int p2, .int p3, .int p4]) ++ List.replicate (5 - (lg_sl ([.ref (ad 4), .int p1, .int p2, .int p3, .int p4])).length) Slot.unset).toArray = ls at hl ⊢
  replace hl : lv_has ls 5 [(0, .ref (ad 4)), (1, .int p1), (2, .int p2), (3, .int p3), (4, .int p4)] := hl
  have hinX3 : ∀ w ∈ u_ws RX3 TX3 5, w ∈ wsX3_setUp := by decide +kernel
  unfold fX3_setUp at hf
  refine lv_aload_n hx hb dX3_setUp_0 rfl (lv_at hl 0 rfl) ?_
  refine va_get (D := D) (ci := 5) (C := RX3) (T := TX3) (N := 5) hx hb hts hinX3 hown hK.1 hP 4 rfl rfl 0 (by decide) (hts (.fieldLink RX3 21 "Switchgear$Protection" "grid" "LSwitchgear$Grid;") (by decide +kernel)) (fun _ h9 => h9) rfl dX3_setUp_1 ?_
  refine lv_iload_n hx hb dX3_setUp_4 rfl (lv_at hl 1 rfl) ?_
  obtain ⟨r2, hc1, hf⟩ := sg_b_s hf
  refine sg_ci (va_runV (As := [.int p1]) (rest := []) ⟨hx, hb, hml, hown, hts⟩ (c_X1_isLine l D cA ad N _ _ _ hc1 _) (cwV 1 hts gX3_setUp_X1_isLine rfl rfl rfl (by decide +kernel) ⟨Nat.le_of_ble_eq_true rfl, Nat.le_of_ble_eq_true rfl⟩) (sg_pre hK hP hD (ci := 3) (q0 := 1) rfl rfl) rfl rfl hl.1 rfl (lv_room (Nat.le_of_ble_eq_true rfl)) dX3_setUp_5 ⟨Nat.zero_le _, Nat.zero_le _⟩) hD hS hA (fun H locs hP hD hS => ?_)
  refine lv_if_eq (tgt := 33) hx hb dX3_setUp_8 (by decide) (fun c7 => ?_) (fun c7 => ?_)
  · have hf := sg_ip c7 hf
    have hq := Option.some.inj hf
    exact sg_vret hx hb hr hP hD hS dX3_setUp_33 hq hlocks
  · have hf := sg_in c7 hf
    refine lv_aload_n hx hb dX3_setUp_11 rfl (lv_at hl 0 rfl) ?_
    refine va_get (D := D) (ci := 5) (C := RX3) (T := TX3) (N := 5) hx hb hts hinX3 hown hK.1 hP 4 rfl rfl 2 (by decide) (hts (.fieldLink RX3 9 "Switchgear$Protection" "pickup" "[I") (by decide +kernel)) (fun _ h9 => h9) rfl dX3_setUp_12 ?_
    refine lv_iload_n hx hb dX3_setUp_15 rfl (lv_at hl 1 rfl) ?_
    refine lv_iload_n hx hb dX3_setUp_16 rfl (lv_at hl 2 rfl) ?_
    obtain ⟨hg4, hf⟩ := sg_g_s hf
    refine va_iast hx hb hK.1 hP hD hS 14 0 rfl rfl (sg_inb_s hg4) dX3_setUp_17 (fun H locs hP hD hS => ?_)
    replace hP : va_P D vwCl (sg_WX cA ad (sg_set u 19 (p1).toNatClampNeg p2)) H := by rw [← sg_WX_19]; exact hP
    replace hD : va_D A (sg_WX cA ad (sg_set u 19 (p1).toNatClampNeg p2)) := by rw [← sg_WX_19]; exact hD
    refine lv_aload_n hx hb dX3_setUp_18 rfl (lv_at hl 0 rfl) ?_
    refine va_get (D := D) (ci := 5) (C := RX3) (T := TX3) (N := 5) hx hb hts hinX3 hown hK.1 hP 4 rfl rfl 3 (by decide) (hts (.fieldLink RX3 15 "Switchgear$Protection" "multiplier" "[I") (by decide +kernel)) (fun _ h9 => h9) rfl dX3_setUp_19 ?_
    refine lv_iload_n hx hb dX3_setUp_22 rfl (lv_at hl 1 rfl) ?_
    refine lv_iload_n hx hb dX3_setUp_23 rfl (lv_at hl 3 rfl) ?_
    obtain ⟨hg5, hf⟩ := sg_g_s hf
    refine va_iast hx hb hK.1 hP hD hS 15 0 rfl rfl (sg_inb_s hg5) dX3_setUp_24 (fun H locs hP hD hS => ?_)
    replace hP : va_P D vwCl (sg_WX cA ad (sg_set (sg_set u 19 (p1).toNatClampNeg p2) 20 (p1).toNatClampNeg p3)) H := by rw [← sg_WX_20]; exact hP
    replace hD : va_D A (sg_WX cA ad (sg_set (sg_set u 19 (p1).toNatClampNeg p2) 20 (p1).toNatClampNeg p3)) := by rw [← sg_WX_20]; exact hD
    refine lv_aload_n hx hb dX3_setUp_25 rfl (lv_at hl 0 rfl) ?_
    refine va_get (D := D) (ci := 5) (C := RX3) (T := TX3) (N := 5) hx hb hts hinX3 hown hK.1 hP 4 rfl rfl 4 (by decide) (hts (.fieldLink RX3 18 "Switchgear$Protection" "instant" "[I") (by decide +kernel)) (fun _ h9 => h9) rfl dX3_setUp_26 ?_
    refine lv_iload_n hx hb dX3_setUp_29 rfl (lv_at hl 1 rfl) ?_
    refine lv_iload hx hb dX3_setUp_30 (lv_at hl 4 rfl) ?_
    obtain ⟨hg6, hf⟩ := sg_g_s hf
    refine va_iast hx hb hK.1 hP hD hS 16 0 rfl rfl (sg_inb_s hg6) dX3_setUp_32 (fun H locs hP hD hS => ?_)
    replace hP : va_P D vwCl (sg_WX cA ad (sg_set (sg_set (sg_set u 19 (p1).toNatClampNeg p2) 20 (p1).toNatClampNeg p3) 21 (p1).toNatClampNeg p4)) H := by rw [← sg_WX_21]; exact hP
    replace hD : va_D A (sg_WX cA ad (sg_set (sg_set (sg_set u 19 (p1).toNatClampNeg p2) 20 (p1).toNatClampNeg p3) 21 (p1).toNatClampNeg p4)) := by rw [← sg_WX_21]; exact hD
    have hq := Option.some.inj hf
    exact sg_vret hx hb hr hP hD hS dX3_setUp_33 hq hlocks
set_option maxRecDepth 100000 in
set_option maxHeartbeats 4000000 in
theorem c_X4_closeAll (l : Launch) (D : va_G) (cA : Nat → ClassId) (ad : Nat → Nat) (N : Nat) (u : sg_St) (p1 : Int32) (u' : sg_St) (hf : fX4_closeAll N u p1 = some u') : sg_CV l D cA (sg_WX cA ad) yX4_closeAll wsX4_closeAll ({ frames := 0, cells := 0, slots := 0, locals := 0 }) [.ref (ad 3), .int p1] u u' := by
  intro sz
  refine Met.ofW (cc := cX4_closeAll) (maxL := 2) (ret := none) (by decide) rfl ?_
  intro p e s m args below meth c s₁ B hml hv
  obtain ⟨rfl, hsz, hP, hK, hD0⟩ := hv
  have hx := B.exec
  have hb := B.bytes
  have hr := B.returns
  have hts := atoms_spec (ws := wsX4_closeAll) B.pre
  have hown : s.vm.findClass RX4 = some m.cls := findClass_of_methodNamed B.named
  have hlocks := B.notSynchronized
  subst hsz
  have hD := hD0.self (sz := s.heap.size)
  generalize hAe : va_A (sg_WX cA ad u) s.heap.size = A at hD ⊢
  have hA : ∀ q : Nat, s.heap.size ≤ q → A q := fun q h => by rw [← hAe]; exact Or.inr h
  have hS : va_S A s.heap s.heap [] := va_S.rf
  have hl := lv_entry ([.ref (ad 3), .int p1]) (n := 2) (Nat.le_of_ble_eq_true rfl)
  rw [lg_entry_eq]
  generalize (lg_sl ([.ref (ad 3), .int p1]) ++ List.replicate (2 - (lg_sl ([.ref (ad 3), .int p1])).length) Slot.unset).toArray = ls at hl ⊢
  replace hl : lv_has ls 2 [(0, .ref (ad 3)), (1, .int p1)] := hl
  have hinX4 : ∀ w ∈ u_ws RX4 TX4 5, w ∈ wsX4_closeAll := by decide +kernel
  unfold fX4_closeAll at hf
  refine lv_aload_n hx hb dX4_closeAll_0 rfl (lv_at hl 0 rfl) ?_
  refine lv_dup hx hb dX4_closeAll_1 rfl ?_
  refine va_get (D := D) (ci := 6) (C := RX4) (T := TX4) (N := 5) hx hb hts hinX4 hown hK.1 hP 3 rfl rfl 2 (by decide) (hts (.fieldLink RX4 19 "Switchgear$Switches" "closed" "I") (by decide +kernel)) (fun _ h9 => h9) rfl dX4_closeAll_2 ?_
  refine lv_iload_n hx hb dX4_closeAll_5 rfl (lv_at hl 1 rfl) ?_
  refine lv_ior hx hb dX4_closeAll_6 ?_
  refine va_put (D := D) (ci := 6) (v := .int ((u 4 0) ||| p1)) (ty := .int) (C := RX4) (T := TX4) (N := 5) hx hb hts hinX4 tyX4 tyX4_ok nmX4 hown hK.1 hP hD hS 3 rfl rfl 2 (by decide) (hts (.fieldLink RX4 19 "Switchgear$Switches" "closed" "I") (by decide +kernel)) (fun _ h9 => h9) rfl (by decide +kernel) rfl rfl (Nat.le_of_ble_eq_true rfl) dX4_closeAll_7 (fun H locs hP hD hS => ?_)
  replace hP : va_P D vwCl (sg_WX cA ad (sg_set u 4 0 ((u 4 0) ||| p1))) H := by rw [← sg_WX_4]; exact hP
  replace hD : va_D A (sg_WX cA ad (sg_set u 4 0 ((u 4 0) ||| p1))) := by rw [← sg_WX_4]; exact hD
  have hq := Option.some.inj hf
  exact sg_vret hx hb hr hP hD hS dX4_closeAll_10 hq hlocks
set_option maxRecDepth 100000 in
set_option maxHeartbeats 4000000 in
theorem c_X4_keepLimits (l : Launch) (D : va_G) (cA : Nat → ClassId) (ad : Nat → Nat) (N : Nat) (u : sg_St) (r : Int32) (u' : sg_St) (hf : fX4_keepLimits N u = some (r, u')) : sg_CI l D cA (sg_WX cA ad) yX4_keepLimits wsX4_keepLimits ({ frames := 17, cells := 0, slots := 0, locals := 444 }) [.ref (ad 3)] u r u' := by
  intro sz
  refine Met.ofW (cc := cX4_keepLimits) (maxL := 2) (ret := (some .boolean)) (by decide) rfl ?_
  intro p e s m args below meth c s₁ B hml hv
  obtain ⟨rfl, hsz, hP, hK, hD0⟩ := hv
  have hx := B.exec
  have hb := B.bytes
  have hr := B.returns
  have hts := atoms_spec (ws := wsX4_keepLimits) B.pre
  have hown : s.vm.findClass RX4 = some m.cls := findClass_of_methodNamed B.named
  have hlocks := B.notSynchronized
  subst hsz
  have hD := hD0.self (sz := s.heap.size)
  generalize hAe : va_A (sg_WX cA ad u) s.heap.size = A at hD ⊢
  have hA : ∀ q : Nat, s.heap.size ≤ q → A q := fun q h => by rw [← hAe]; exact Or.inr h
  have hS : va_S A s.heap s.heap [] := va_S.rf
  have hl := lv_entry ([.ref (ad 3)]) (n := 2) (Nat.le_of_ble_eq_true rfl)
  rw [lg_entry_eq]
  generalize (lg_sl ([.ref (ad 3)]) ++ List.replicate (2 - (lg_sl ([.ref (ad 3)])).length) Slot.unset).toArray = ls at hl ⊢
  replace hl : lv_has ls 2 [(0, .ref (ad 3))] := hl
  have hinX1 : ∀ w ∈ u_ws RX1 TX1 10, w ∈ wsX4_keepLimits := by decide +kernel
  have hinX4 : ∀ w ∈ u_ws RX4 TX4 5, w ∈ wsX4_keepLimits := by decide +kernel
  have hL2 : ∀ (u : sg_St) (n : Nat) (x : Int32) (r9 : (Int32 × sg_St)), sg_it (fun x => fX4_keepLimits_L2 N u x) n x = some r9 → r9 = (r, u') → ∀ (H : Heap) (locs : List Loc) (ls : Array Slot), va_P D vwCl (sg_WX cA ad u) H → va_D A (sg_WX cA ad u) → va_S A s.heap H locs → lv_has ls 2 [(0, .ref (ad 3)), (1, .int x)] → W p l e (headSpec wsX4_keepLimits ({ frames := 17, cells := 0, slots := 0, locals := 444 })).room s m ([.ref (ad 3)] : List Value).toArray below meth c H locs 0 0 (MQ below (va_Qi (fun x y => x = r ∧ y = u') (sg_BX D (sg_WX cA ad) A) A) ([.ref (ad 3)] : List Value).toArray s 0 0 A) (F0 m 2 ls []) := by
    intro u
    refine sg_loop _ ?_
    intro x y r9 hf hI hy hr9 H locs ls hP hD hS hl
    replace hf : fX4_keepLimits_L2 N u x = some y := hf
    unfold fX4_keepLimits_L2 at hf
    refine lv_iload_n hx hb dX4_keepLimits_2 rfl (lv_at hl 1 rfl) ?_
    refine lv_aload_n hx hb dX4_keepLimits_3 rfl (lv_at hl 0 rfl) ?_
    refine va_get (D := D) (ci := 6) (C := RX4) (T := TX4) (N := 5) hx hb hts hinX4 hown hK.1 hP 3 rfl rfl 0 (by decide) (hts (.fieldLink RX4 9 "Switchgear$Switches" "grid" "LSwitchgear$Grid;") (by decide +kernel)) (fun _ h9 => h9) rfl dX4_keepLimits_4 ?_
    refine va_getN (D := D) (ci := 3) (C := RX1) (T := TX1) (N := 10) (host := RX5) (ref := RX1) hx hb hts hinX1 hown hK.1 hP 1 rfl rfl 6 (by decide) (va_Nw.use rfl (hK.2 _ (List.mem_of_getElem? (i := 24) rfl))) (fun _ h9 => h9) rfl dX4_keepLimits_7 ?_
    refine lv_icmp_ge (tgt := 57) hx hb dX4_keepLimits_10 (by decide) (fun c16 => ?_) (fun c16 => ?_)
    · have hf := sg_ip c16 hf
      refine lv_aload_n hx hb dX4_keepLimits_57 rfl (lv_at hl 0 rfl) ?_
      refine va_get (D := D) (ci := 6) (C := RX4) (T := TX4) (N := 5) hx hb hts hinX4 hown hK.1 hP 3 rfl rfl 1 (by decide) (hts (.fieldLink RX4 15 "Switchgear$Switches" "feeder" "LSwitchgear$Feeder;") (by decide +kernel)) (fun _ h9 => h9) rfl dX4_keepLimits_58 ?_
      refine lv_aload_n hx hb dX4_keepLimits_61 rfl (lv_at hl 0 rfl) ?_
      refine va_get (D := D) (ci := 6) (C := RX4) (T := TX4) (N := 5) hx hb hts hinX4 hown hK.1 hP 3 rfl rfl 2 (by decide) (hts (.fieldLink RX4 19 "Switchgear$Switches" "closed" "I") (by decide +kernel)) (fun _ h9 => h9) rfl dX4_keepLimits_62 ?_
      obtain ⟨r2, u3, hc1, hf⟩ := sg_b2_s hf
      refine sg_ci (va_runV (As := [.int (u 4 0)]) (rest := []) ⟨hx, hb, hml, hown, hts⟩ (c_X0_firstOverloaded l D cA ad N _ _ _ _ hc1 _) (cwV 1 hts gX4_keepLimits_X0_firstOverloaded rfl rfl rfl (by decide +kernel) ⟨Nat.le_of_ble_eq_true rfl, Nat.le_of_ble_eq_true rfl⟩) (sg_pre hK hP hD (ci := 2) (q0 := 2) rfl rfl) rfl rfl hl.1 rfl (lv_room (Nat.le_of_ble_eq_true rfl)) dX4_keepLimits_65 ⟨Nat.zero_le _, Nat.zero_le _⟩) hD hS hA (fun H locs hP hD hS => ?_)
      refine lv_iconst (v := (-1)) hx hb dX4_keepLimits_68 (by decide) ?_
      refine lv_icmp_ne (tgt := 76) hx hb dX4_keepLimits_69 (by decide) (fun c4 => ?_) (fun c4 => ?_)
      · have hf := sg_in c4 hf
        refine lv_iconst (v := 0) hx hb dX4_keepLimits_76 (by decide) ?_
        have hq := (hy _ (Option.some.inj hf).symm).trans hr9
        exact sg_zret hx hb hr rfl hP hD hS dX4_keepLimits_77 (congrArg Prod.fst hq) (congrArg Prod.snd hq) hlocks
      · have hf := sg_ip c4 hf
        refine lv_iconst (v := 1) hx hb dX4_keepLimits_72 (by decide) ?_
        refine lv_goto (tgt := 77) hx hb dX4_keepLimits_73 (by decide) ?_
        have hq := (hy _ (Option.some.inj hf).symm).trans hr9
        exact sg_zret hx hb hr rfl hP hD hS dX4_keepLimits_77 (congrArg Prod.fst hq) (congrArg Prod.snd hq) hlocks
    · have hf := sg_in c16 hf
      refine lv_aload_n hx hb dX4_keepLimits_13 rfl (lv_at hl 0 rfl) ?_
      refine va_get (D := D) (ci := 6) (C := RX4) (T := TX4) (N := 5) hx hb hts hinX4 hown hK.1 hP 3 rfl rfl 0 (by decide) (hts (.fieldLink RX4 9 "Switchgear$Switches" "grid" "LSwitchgear$Grid;") (by decide +kernel)) (fun _ h9 => h9) rfl dX4_keepLimits_14 ?_
      refine va_getN (D := D) (ci := 3) (C := RX1) (T := TX1) (N := 10) (host := RX5) (ref := RX1) hx hb hts hinX1 hown hK.1 hP 1 rfl rfl 8 (by decide) (va_Nw.use rfl (hK.2 _ (List.mem_of_getElem? (i := 25) rfl))) (fun _ h9 => h9) rfl dX4_keepLimits_17 ?_
      refine lv_iload_n hx hb dX4_keepLimits_20 rfl (lv_at hl 1 rfl) ?_
      obtain ⟨r6, hc5, hf⟩ := sg_b_s hf
      refine sg_ci0 (va_runSN (As := [.int (u 2 0), .int x]) (rest := []) ⟨hx, hb, hml, hown, hts⟩ (c_X5_has l D cA N _ _ _ hc5 _) ⟨va_cnB (host := RX5) 2 hts gX4_keepLimits_X5_has_n34 rfl rfl rfl (hK.2 _ (List.mem_of_getElem? (i := 8) rfl)) (hts (.initialized RX5) (by decide +kernel)) (by decide +kernel) ⟨Nat.le_of_ble_eq_true rfl, Nat.le_of_ble_eq_true rfl⟩, hts (.static yX5_has) (by decide +kernel), trivial⟩ (sg_pre0 hK) rfl rfl hl.1 rfl (lv_room (Nat.le_of_ble_eq_true rfl)) dX4_keepLimits_21 ⟨Nat.zero_le _, Nat.zero_le _⟩) hP hS hA (fun H locs hP hS => ?_)
      refine lv_if_eq (tgt := 51) hx hb dX4_keepLimits_24 (by decide) (fun c15 => ?_) (fun c15 => ?_)
      · have hf := sg_ip c15 hf
        refine lv_iinc (v := x + 1) (lv' := [(1, .int (x + 1)), (0, .ref (ad 3))]) hx hb dX4_keepLimits_51 hl (k := 1) rfl rfl (by decide) rfl (fun ls hl => ?_)
        refine lv_goto (tgt := 2) hx hb dX4_keepLimits_54 (by decide) ?_
        exact hI _ (Option.some.inj hf).symm hr9 _ _ _ hP hD hS (lv_sub hl [1, 0] rfl)
      · have hf := sg_in c15 hf
        refine lv_aload_n hx hb dX4_keepLimits_27 rfl (lv_at hl 0 rfl) ?_
        refine va_get (D := D) (ci := 6) (C := RX4) (T := TX4) (N := 5) hx hb hts hinX4 hown hK.1 hP 3 rfl rfl 0 (by decide) (hts (.fieldLink RX4 9 "Switchgear$Switches" "grid" "LSwitchgear$Grid;") (by decide +kernel)) (fun _ h9 => h9) rfl dX4_keepLimits_28 ?_
        refine lv_aload_n hx hb dX4_keepLimits_31 rfl (lv_at hl 0 rfl) ?_
        refine va_get (D := D) (ci := 6) (C := RX4) (T := TX4) (N := 5) hx hb hts hinX4 hown hK.1 hP 3 rfl rfl 0 (by decide) (hts (.fieldLink RX4 9 "Switchgear$Switches" "grid" "LSwitchgear$Grid;") (by decide +kernel)) (fun _ h9 => h9) rfl dX4_keepLimits_32 ?_
        refine lv_iload_n hx hb dX4_keepLimits_35 rfl (lv_at hl 1 rfl) ?_
        refine lv_aload_n hx hb dX4_keepLimits_36 rfl (lv_at hl 0 rfl) ?_
        refine va_get (D := D) (ci := 6) (C := RX4) (T := TX4) (N := 5) hx hb hts hinX4 hown hK.1 hP 3 rfl rfl 2 (by decide) (hts (.fieldLink RX4 19 "Switchgear$Switches" "closed" "I") (by decide +kernel)) (fun _ h9 => h9) rfl dX4_keepLimits_37 ?_
        obtain ⟨r9, hc8, hf⟩ := sg_b_s hf
        refine sg_ci (va_runV (As := [.int x, .int (u 4 0)]) (rest := [.ref (ad 1)]) ⟨hx, hb, hml, hown, hts⟩ (c_X1_islandAround l D cA ad N _ _ _ _ hc8 _) (cwV 2 hts gX4_keepLimits_X1_islandAround rfl rfl rfl (by decide +kernel) ⟨Nat.le_of_ble_eq_true rfl, Nat.le_of_ble_eq_true rfl⟩) (sg_pre hK hP hD (ci := 3) (q0 := 1) rfl rfl) rfl rfl hl.1 rfl (lv_room (Nat.le_of_ble_eq_true rfl)) dX4_keepLimits_40 ⟨Nat.zero_le _, Nat.zero_le _⟩) hD hS hA (fun H locs hP hD hS => ?_)
        obtain ⟨r12, hc11, hf⟩ := sg_b_s hf
        refine sg_ci (va_runV (As := [.int r9]) (rest := []) ⟨hx, hb, hml, hown, hts⟩ (c_X1_asksTooMuch l D cA ad N _ _ _ hc11 _) (cwV 1 hts gX4_keepLimits_X1_asksTooMuch rfl rfl rfl (by decide +kernel) ⟨Nat.le_of_ble_eq_true rfl, Nat.le_of_ble_eq_true rfl⟩) (sg_pre hK hP hD (ci := 3) (q0 := 1) rfl rfl) rfl rfl hl.1 rfl (lv_room (Nat.le_of_ble_eq_true rfl)) dX4_keepLimits_43 ⟨Nat.zero_le _, Nat.zero_le _⟩) hD hS hA (fun H locs hP hD hS => ?_)
        refine lv_if_eq (tgt := 51) hx hb dX4_keepLimits_46 (by decide) (fun c14 => ?_) (fun c14 => ?_)
        · have hf := sg_ip c14 hf
          refine lv_iinc (v := x + 1) (lv' := [(1, .int (x + 1)), (0, .ref (ad 3))]) hx hb dX4_keepLimits_51 hl (k := 1) rfl rfl (by decide) rfl (fun ls hl => ?_)
          refine lv_goto (tgt := 2) hx hb dX4_keepLimits_54 (by decide) ?_
          exact hI _ (Option.some.inj hf).symm hr9 _ _ _ hP hD hS (lv_sub hl [1, 0] rfl)
        · have hf := sg_in c14 hf
          refine lv_iconst (v := 0) hx hb dX4_keepLimits_49 (by decide) ?_
          have hq := (hy _ (Option.some.inj hf).symm).trans hr9
          exact sg_zret hx hb hr rfl hP hD hS dX4_keepLimits_50 (congrArg Prod.fst hq) (congrArg Prod.snd hq) hlocks
  unfold fX4_keepLimits at hf
  refine lv_iconst (v := 0) hx hb dX4_keepLimits_0 (by decide) ?_
  refine lv_istore_n (lv' := [(1, .int 0), (0, .ref (ad 3))]) hx hb dX4_keepLimits_1 rfl hl (by decide) rfl (fun ls hl => ?_)
  exact hL2 _ _ _ _ hf rfl _ _ _ hP hD hS (lv_sub hl [1, 0] rfl)
set_option maxRecDepth 100000 in
set_option maxHeartbeats 4000000 in
theorem c_X4_lockOut (l : Launch) (D : va_G) (cA : Nat → ClassId) (ad : Nat → Nat) (N : Nat) (u : sg_St) (p1 : Int32) (u' : sg_St) (hf : fX4_lockOut N u p1 = some u') : sg_CV l D cA (sg_WX cA ad) yX4_lockOut wsX4_lockOut ({ frames := 0, cells := 0, slots := 0, locals := 0 }) [.ref (ad 3), .int p1] u u' := by
  intro sz
  refine Met.ofW (cc := cX4_lockOut) (maxL := 2) (ret := none) (by decide) rfl ?_
  intro p e s m args below meth c s₁ B hml hv
  obtain ⟨rfl, hsz, hP, hK, hD0⟩ := hv
  have hx := B.exec
  have hb := B.bytes
  have hr := B.returns
  have hts := atoms_spec (ws := wsX4_lockOut) B.pre
  have hown : s.vm.findClass RX4 = some m.cls := findClass_of_methodNamed B.named
  have hlocks := B.notSynchronized
  subst hsz
  have hD := hD0.self (sz := s.heap.size)
  generalize hAe : va_A (sg_WX cA ad u) s.heap.size = A at hD ⊢
  have hA : ∀ q : Nat, s.heap.size ≤ q → A q := fun q h => by rw [← hAe]; exact Or.inr h
  have hS : va_S A s.heap s.heap [] := va_S.rf
  have hl := lv_entry ([.ref (ad 3), .int p1]) (n := 2) (Nat.le_of_ble_eq_true rfl)
  rw [lg_entry_eq]
  generalize (lg_sl ([.ref (ad 3), .int p1]) ++ List.replicate (2 - (lg_sl ([.ref (ad 3), .int p1])).length) Slot.unset).toArray = ls at hl ⊢
  replace hl : lv_has ls 2 [(0, .ref (ad 3)), (1, .int p1)] := hl
  have hinX4 : ∀ w ∈ u_ws RX4 TX4 5, w ∈ wsX4_lockOut := by decide +kernel
  unfold fX4_lockOut at hf
  refine lv_aload_n hx hb dX4_lockOut_0 rfl (lv_at hl 0 rfl) ?_
  refine lv_dup hx hb dX4_lockOut_1 rfl ?_
  refine va_get (D := D) (ci := 6) (C := RX4) (T := TX4) (N := 5) hx hb hts hinX4 hown hK.1 hP 3 rfl rfl 2 (by decide) (hts (.fieldLink RX4 19 "Switchgear$Switches" "closed" "I") (by decide +kernel)) (fun _ h9 => h9) rfl dX4_lockOut_2 ?_
  refine lv_iload_n hx hb dX4_lockOut_5 rfl (lv_at hl 1 rfl) ?_
  refine lv_iconst (v := (-1)) hx hb dX4_lockOut_6 (by decide) ?_
  refine lv_ixor hx hb dX4_lockOut_7 ?_
  refine lv_iand hx hb dX4_lockOut_8 ?_
  refine va_put (D := D) (ci := 6) (v := .int ((u 4 0) &&& (p1 ^^^ ((-1))))) (ty := .int) (C := RX4) (T := TX4) (N := 5) hx hb hts hinX4 tyX4 tyX4_ok nmX4 hown hK.1 hP hD hS 3 rfl rfl 2 (by decide) (hts (.fieldLink RX4 19 "Switchgear$Switches" "closed" "I") (by decide +kernel)) (fun _ h9 => h9) rfl (by decide +kernel) rfl rfl (Nat.le_of_ble_eq_true rfl) dX4_lockOut_9 (fun H locs hP hD hS => ?_)
  replace hP : va_P D vwCl (sg_WX cA ad (sg_set u 4 0 ((u 4 0) &&& (p1 ^^^ ((-1)))))) H := by rw [← sg_WX_4]; exact hP
  replace hD : va_D A (sg_WX cA ad (sg_set u 4 0 ((u 4 0) &&& (p1 ^^^ ((-1)))))) := by rw [← sg_WX_4]; exact hD
  refine lv_aload_n hx hb dX4_lockOut_12 rfl (lv_at hl 0 rfl) ?_
  refine lv_dup hx hb dX4_lockOut_13 rfl ?_
  refine va_get (D := D) (ci := 6) (C := RX4) (T := TX4) (N := 5) hx hb hts hinX4 hown hK.1 hP 3 rfl rfl 3 (by decide) (hts (.fieldLink RX4 23 "Switchgear$Switches" "locked" "I") (by decide +kernel)) (fun _ h9 => h9) rfl dX4_lockOut_14 ?_
  refine lv_iload_n hx hb dX4_lockOut_17 rfl (lv_at hl 1 rfl) ?_
  refine lv_ior hx hb dX4_lockOut_18 ?_
  refine lv_topi (fun x1 ex1 => ?_)
  have hf := sg_l_s ex1 hf
  refine va_put (D := D) (ci := 6) (v := .int x1) (ty := .int) (C := RX4) (T := TX4) (N := 5) hx hb hts hinX4 tyX4 tyX4_ok nmX4 hown hK.1 hP hD hS 3 rfl rfl 3 (by decide) (hts (.fieldLink RX4 23 "Switchgear$Switches" "locked" "I") (by decide +kernel)) (fun _ h9 => h9) rfl (by decide +kernel) rfl rfl (Nat.le_of_ble_eq_true rfl) dX4_lockOut_19 (fun H locs hP hD hS => ?_)
  replace hP : va_P D vwCl (sg_WX cA ad (sg_set (sg_set u 4 0 ((u 4 0) &&& (p1 ^^^ ((-1))))) 5 0 x1)) H := by rw [← sg_WX_5]; exact hP
  replace hD : va_D A (sg_WX cA ad (sg_set (sg_set u 4 0 ((u 4 0) &&& (p1 ^^^ ((-1))))) 5 0 x1)) := by rw [← sg_WX_5]; exact hD
  have hq := Option.some.inj hf
  exact sg_vret hx hb hr hP hD hS dX4_lockOut_22 hq hlocks
set_option maxRecDepth 100000 in
set_option maxHeartbeats 4000000 in
theorem c_X4_openAll (l : Launch) (D : va_G) (cA : Nat → ClassId) (ad : Nat → Nat) (N : Nat) (u : sg_St) (p1 : Int32) (u' : sg_St) (hf : fX4_openAll N u p1 = some u') : sg_CV l D cA (sg_WX cA ad) yX4_openAll wsX4_openAll ({ frames := 0, cells := 0, slots := 0, locals := 0 }) [.ref (ad 3), .int p1] u u' := by
  intro sz
  refine Met.ofW (cc := cX4_openAll) (maxL := 2) (ret := none) (by decide) rfl ?_
  intro p e s m args below meth c s₁ B hml hv
  obtain ⟨rfl, hsz, hP, hK, hD0⟩ := hv
  have hx := B.exec
  have hb := B.bytes
  have hr := B.returns
  have hts := atoms_spec (ws := wsX4_openAll) B.pre
  have hown : s.vm.findClass RX4 = some m.cls := findClass_of_methodNamed B.named
  have hlocks := B.notSynchronized
  subst hsz
  have hD := hD0.self (sz := s.heap.size)
  generalize hAe : va_A (sg_WX cA ad u) s.heap.size = A at hD ⊢
  have hA : ∀ q : Nat, s.heap.size ≤ q → A q := fun q h => by rw [← hAe]; exact Or.inr h
  have hS : va_S A s.heap s.heap [] := va_S.rf
  have hl := lv_entry ([.ref (ad 3), .int p1]) (n := 2) (Nat.le_of_ble_eq_true rfl)
  rw [lg_entry_eq]
  generalize (lg_sl ([.ref (ad 3), .int p1]) ++ List.replicate (2 - (lg_sl ([.ref (ad 3), .int p1])).length) Slot.unset).toArray = ls at hl ⊢
  replace hl : lv_has ls 2 [(0, .ref (ad 3)), (1, .int p1)] := hl
  have hinX4 : ∀ w ∈ u_ws RX4 TX4 5, w ∈ wsX4_openAll := by decide +kernel
  unfold fX4_openAll at hf
  refine lv_aload_n hx hb dX4_openAll_0 rfl (lv_at hl 0 rfl) ?_
  refine lv_dup hx hb dX4_openAll_1 rfl ?_
  refine va_get (D := D) (ci := 6) (C := RX4) (T := TX4) (N := 5) hx hb hts hinX4 hown hK.1 hP 3 rfl rfl 2 (by decide) (hts (.fieldLink RX4 19 "Switchgear$Switches" "closed" "I") (by decide +kernel)) (fun _ h9 => h9) rfl dX4_openAll_2 ?_
  refine lv_iload_n hx hb dX4_openAll_5 rfl (lv_at hl 1 rfl) ?_
  refine lv_iconst (v := (-1)) hx hb dX4_openAll_6 (by decide) ?_
  refine lv_ixor hx hb dX4_openAll_7 ?_
  refine lv_iand hx hb dX4_openAll_8 ?_
  refine va_put (D := D) (ci := 6) (v := .int ((u 4 0) &&& (p1 ^^^ ((-1))))) (ty := .int) (C := RX4) (T := TX4) (N := 5) hx hb hts hinX4 tyX4 tyX4_ok nmX4 hown hK.1 hP hD hS 3 rfl rfl 2 (by decide) (hts (.fieldLink RX4 19 "Switchgear$Switches" "closed" "I") (by decide +kernel)) (fun _ h9 => h9) rfl (by decide +kernel) rfl rfl (Nat.le_of_ble_eq_true rfl) dX4_openAll_9 (fun H locs hP hD hS => ?_)
  replace hP : va_P D vwCl (sg_WX cA ad (sg_set u 4 0 ((u 4 0) &&& (p1 ^^^ ((-1)))))) H := by rw [← sg_WX_4]; exact hP
  replace hD : va_D A (sg_WX cA ad (sg_set u 4 0 ((u 4 0) &&& (p1 ^^^ ((-1)))))) := by rw [← sg_WX_4]; exact hD
  have hq := Option.some.inj hf
  exact sg_vret hx hb hr hP hD hS dX4_openAll_12 hq hlocks
set_option maxRecDepth 100000 in
set_option maxHeartbeats 4000000 in
theorem c_X4_openReason (l : Launch) (D : va_G) (cA : Nat → ClassId) (ad : Nat → Nat) (N : Nat) (u : sg_St) (p1 : Int32) (r : Int32) (u' : sg_St) (hf : fX4_openReason N u p1 = some (r, u')) : sg_CI l D cA (sg_WX cA ad) yX4_openReason wsX4_openReason ({ frames := 17, cells := 0, slots := 0, locals := 444 }) [.ref (ad 3), .int p1] u r u' := by
  intro sz
  refine Met.ofW (cc := cX4_openReason) (maxL := 2) (ret := (some .char)) (by decide) rfl ?_
  intro p e s m args below meth c s₁ B hml hv
  obtain ⟨rfl, hsz, hP, hK, hD0⟩ := hv
  have hx := B.exec
  have hb := B.bytes
  have hr := B.returns
  have hts := atoms_spec (ws := wsX4_openReason) B.pre
  have hown : s.vm.findClass RX4 = some m.cls := findClass_of_methodNamed B.named
  have hlocks := B.notSynchronized
  subst hsz
  have hD := hD0.self (sz := s.heap.size)
  generalize hAe : va_A (sg_WX cA ad u) s.heap.size = A at hD ⊢
  have hA : ∀ q : Nat, s.heap.size ≤ q → A q := fun q h => by rw [← hAe]; exact Or.inr h
  have hS : va_S A s.heap s.heap [] := va_S.rf
  have hl := lv_entry ([.ref (ad 3), .int p1]) (n := 2) (Nat.le_of_ble_eq_true rfl)
  rw [lg_entry_eq]
  generalize (lg_sl ([.ref (ad 3), .int p1]) ++ List.replicate (2 - (lg_sl ([.ref (ad 3), .int p1])).length) Slot.unset).toArray = ls at hl ⊢
  replace hl : lv_has ls 2 [(0, .ref (ad 3)), (1, .int p1)] := hl
  have hinX1 : ∀ w ∈ u_ws RX1 TX1 10, w ∈ wsX4_openReason := by decide +kernel
  have hinX4 : ∀ w ∈ u_ws RX4 TX4 5, w ∈ wsX4_openReason := by decide +kernel
  unfold fX4_openReason at hf
  refine lv_aload_n hx hb dX4_openReason_0 rfl (lv_at hl 0 rfl) ?_
  refine va_get (D := D) (ci := 6) (C := RX4) (T := TX4) (N := 5) hx hb hts hinX4 hown hK.1 hP 3 rfl rfl 2 (by decide) (hts (.fieldLink RX4 19 "Switchgear$Switches" "closed" "I") (by decide +kernel)) (fun _ h9 => h9) rfl dX4_openReason_1 ?_
  refine lv_iload_n hx hb dX4_openReason_4 rfl (lv_at hl 1 rfl) ?_
  obtain ⟨r2, hc1, hf⟩ := sg_b_s hf
  refine sg_ci0 (va_runSN (As := [.int (u 4 0), .int p1]) (rest := []) ⟨hx, hb, hml, hown, hts⟩ (c_X5_has l D cA N _ _ _ hc1 _) ⟨va_cnB (host := RX5) 2 hts gX4_openReason_X5_has_n34 rfl rfl rfl (hK.2 _ (List.mem_of_getElem? (i := 8) rfl)) (hts (.initialized RX5) (by decide +kernel)) (by decide +kernel) ⟨Nat.le_of_ble_eq_true rfl, Nat.le_of_ble_eq_true rfl⟩, hts (.static yX5_has) (by decide +kernel), trivial⟩ (sg_pre0 hK) rfl rfl hl.1 rfl (lv_room (Nat.le_of_ble_eq_true rfl)) dX4_openReason_5 ⟨Nat.zero_le _, Nat.zero_le _⟩) hP hS hA (fun H locs hP hS => ?_)
  refine lv_if_ne (tgt := 14) hx hb dX4_openReason_8 (by decide) (fun c12 => ?_) (fun c12 => ?_)
  · have hf := sg_in c12 hf
    refine lv_aload_n hx hb dX4_openReason_14 rfl (lv_at hl 0 rfl) ?_
    refine va_get (D := D) (ci := 6) (C := RX4) (T := TX4) (N := 5) hx hb hts hinX4 hown hK.1 hP 3 rfl rfl 0 (by decide) (hts (.fieldLink RX4 9 "Switchgear$Switches" "grid" "LSwitchgear$Grid;") (by decide +kernel)) (fun _ h9 => h9) rfl dX4_openReason_15 ?_
    refine va_getN (D := D) (ci := 3) (C := RX1) (T := TX1) (N := 10) (host := RX5) (ref := RX1) hx hb hts hinX1 hown hK.1 hP 1 rfl rfl 9 (by decide) (va_Nw.use rfl (hK.2 _ (List.mem_of_getElem? (i := 23) rfl))) (fun _ h9 => h9) rfl dX4_openReason_18 ?_
    refine lv_iload_n hx hb dX4_openReason_21 rfl (lv_at hl 1 rfl) ?_
    obtain ⟨r5, hc4, hf⟩ := sg_b_s hf
    refine sg_ci0 (va_runSN (As := [.int (u 3 0), .int p1]) (rest := []) ⟨hx, hb, hml, hown, hts⟩ (c_X5_has l D cA N _ _ _ hc4 _) ⟨va_cnB (host := RX5) 2 hts gX4_openReason_X5_has_n34 rfl rfl rfl (hK.2 _ (List.mem_of_getElem? (i := 8) rfl)) (hts (.initialized RX5) (by decide +kernel)) (by decide +kernel) ⟨Nat.le_of_ble_eq_true rfl, Nat.le_of_ble_eq_true rfl⟩, hts (.static yX5_has) (by decide +kernel), trivial⟩ (sg_pre0 hK) rfl rfl hl.1 rfl (lv_room (Nat.le_of_ble_eq_true rfl)) dX4_openReason_22 ⟨Nat.zero_le _, Nat.zero_le _⟩) hP hS hA (fun H locs hP hS => ?_)
    refine lv_if_ne (tgt := 43) hx hb dX4_openReason_25 (by decide) (fun c11 => ?_) (fun c11 => ?_)
    · have hf := sg_in c11 hf
      refine lv_bipush (v := 110) hx hb dX4_openReason_43 (by decide) ?_
      refine lv_goto (tgt := 50) hx hb dX4_openReason_45 (by decide) ?_
      have hq := Option.some.inj hf
      exact sg_zret hx hb hr rfl hP hD hS dX4_openReason_50 (congrArg Prod.fst hq) (congrArg Prod.snd hq) hlocks
    · have hf := sg_ip c11 hf
      refine lv_aload_n hx hb dX4_openReason_28 rfl (lv_at hl 0 rfl) ?_
      refine va_get (D := D) (ci := 6) (C := RX4) (T := TX4) (N := 5) hx hb hts hinX4 hown hK.1 hP 3 rfl rfl 1 (by decide) (hts (.fieldLink RX4 15 "Switchgear$Switches" "feeder" "LSwitchgear$Feeder;") (by decide +kernel)) (fun _ h9 => h9) rfl dX4_openReason_29 ?_
      refine lv_iload_n hx hb dX4_openReason_32 rfl (lv_at hl 1 rfl) ?_
      refine lv_aload_n hx hb dX4_openReason_33 rfl (lv_at hl 0 rfl) ?_
      refine va_get (D := D) (ci := 6) (C := RX4) (T := TX4) (N := 5) hx hb hts hinX4 hown hK.1 hP 3 rfl rfl 2 (by decide) (hts (.fieldLink RX4 19 "Switchgear$Switches" "closed" "I") (by decide +kernel)) (fun _ h9 => h9) rfl dX4_openReason_34 ?_
      obtain ⟨r8, u9, hc7, hf⟩ := sg_b2_s hf
      refine sg_ci (va_runV (As := [.int p1, .int (u 4 0)]) (rest := []) ⟨hx, hb, hml, hown, hts⟩ (c_X0_currentIn l D cA ad N _ _ _ _ _ hc7 _) (cwV 2 hts gX4_openReason_X0_currentIn rfl rfl rfl (by decide +kernel) ⟨Nat.le_of_ble_eq_true rfl, Nat.le_of_ble_eq_true rfl⟩) (sg_pre hK hP hD (ci := 2) (q0 := 2) rfl rfl) rfl rfl hl.1 rfl (lv_room (Nat.le_of_ble_eq_true rfl)) dX4_openReason_37 ⟨Nat.zero_le _, Nat.zero_le _⟩) hD hS hA (fun H locs hP hD hS => ?_)
      refine lv_if_ne (tgt := 48) hx hb dX4_openReason_40 (by decide) (fun c10 => ?_) (fun c10 => ?_)
      · have hf := sg_in c10 hf
        refine lv_bipush (v := 100) hx hb dX4_openReason_48 (by decide) ?_
        have hq := Option.some.inj hf
        exact sg_zret hx hb hr rfl hP hD hS dX4_openReason_50 (congrArg Prod.fst hq) (congrArg Prod.snd hq) hlocks
      · have hf := sg_ip c10 hf
        refine lv_bipush (v := 110) hx hb dX4_openReason_43 (by decide) ?_
        refine lv_goto (tgt := 50) hx hb dX4_openReason_45 (by decide) ?_
        have hq := Option.some.inj hf
        exact sg_zret hx hb hr rfl hP hD hS dX4_openReason_50 (congrArg Prod.fst hq) (congrArg Prod.snd hq) hlocks
  · have hf := sg_ip c12 hf
    refine lv_bipush (v := 99) hx hb dX4_openReason_11 (by decide) ?_
    have hq := Option.some.inj hf
    exact sg_zret hx hb hr rfl hP hD hS dX4_openReason_13 (congrArg Prod.fst hq) (congrArg Prod.snd hq) hlocks
