set_option maxHeartbeats 4000000 in
set_option maxRecDepth 100000 in
theorem k_X0_room (l : Launch) (D : va_G) (cy : Nat → ClassId) (N : Nat) (L : Nat → Nat) (F : Nat → va_E) (b : Nat) (h : HT) (hb : b < N)    : GM l D cy N L yX0_room wsX0_room ({ frames := 0, cells := 0, slots := 0, locals := 0 }) [.ref (L b)] (hW F b h) (some (.int (hH h - hT h))) (hW F b h) := by
  refine GM.ofW (cc := cX0_room) (maxL := 1) (ret := (some .int)) (by decide) rfl (Nat.le_of_ble_eq_true rfl) ?_
  intro p e s m below meth c ls hx hb hr hts hown hlocks hml hK hA hG hS hl
  have hl : lv_has ls 1 [(0, .ref (L b))] := hl
  have i_q0_0 : b < N := by omega
  have hf15 := hts (.fieldLink RX0 15 "SiloPads$Ship" "hold" "I") (by decide +kernel)
  have hinX0 : ∀ w ∈ u_ws RX0 TX0 2, w ∈ wsX0_room := by decide +kernel
  have hf9 := hts (.fieldLink RX0 9 "SiloPads$Ship" "tonnes" "I") (by decide +kernel)
  refine lv_aload_n hx hb dX0_room_0 rfl (lv_at hl 0 rfl) ?_
  refine g_get (ci := 0) (C := RX0) (T := TX0) (M := 2) hx hb hts hinX0 hown hK hG i_q0_0 hW_o rfl 1 (by decide) hf15 rfl rfl dX0_room_1 ?_
  refine lv_aload_n hx hb dX0_room_4 rfl (lv_at hl 0 rfl) ?_
  refine g_get (ci := 0) (C := RX0) (T := TX0) (M := 2) hx hb hts hinX0 hown hK hG i_q0_0 hW_o rfl 0 (by decide) hf9 rfl rfl dX0_room_5 ?_
  refine lv_isub hx hb dX0_room_8 ?_
  exact g_iret hx hb hr hlocks hK hG hS rfl dX0_room_9 ⟨(congrArg (fun z9 => some (Value.int z9)) (by rfl)), rfl⟩
set_option maxHeartbeats 4000000 in
set_option maxRecDepth 100000 in
theorem k_X0_becomeLike (l : Launch) (D : va_G) (cy : Nat → ClassId) (N : Nat) (L : Nat → Nat) (F : Nat → va_E) (b2 : Nat) (h2 : HT) (b : Nat) (h : HT) (hb : b < N) (hb2 : b2 < N) (hd : b2 ≠ b)    : GM l D cy N L yX0_becomeLike wsX0_becomeLike ({ frames := 0, cells := 0, slots := 0, locals := 0 }) [.ref (L b), .ref (L b2)] (hW (hW F b2 h2) b h) (none) (hW (hW F b2 h2) b (hT h2, hH h2)) := by
  refine GM.ofW (cc := cX0_becomeLike) (maxL := 2) (ret := none) (by decide) rfl (Nat.le_of_ble_eq_true rfl) ?_
  intro p e s m below meth c ls hx hb hr hts hown hlocks hml hK hA hG hS hl
  have hl : lv_has ls 2 [(0, .ref (L b)), (1, .ref (L b2))] := hl
  have i_q0_0 : b2 < N := by omega
  have i_q1_0 : b < N := by omega
  have hf9 := hts (.fieldLink RX0 9 "SiloPads$Ship" "tonnes" "I") (by decide +kernel)
  have hinX0 : ∀ w ∈ u_ws RX0 TX0 2, w ∈ wsX0_becomeLike := by decide +kernel
  have hf15 := hts (.fieldLink RX0 15 "SiloPads$Ship" "hold" "I") (by decide +kernel)
  refine lv_aload_n hx hb dX0_becomeLike_0 rfl (lv_at hl 0 rfl) ?_
  refine lv_aload_n hx hb dX0_becomeLike_1 rfl (lv_at hl 1 rfl) ?_
  refine g_get (ci := 0) (C := RX0) (T := TX0) (M := 2) hx hb hts hinX0 hown hK hG i_q0_0 (by rw [hW_n (by omega)]; exact hW_o) rfl 0 (by decide) hf9 rfl rfl dX0_becomeLike_2 ?_
  refine g_put (ci := 0) (C := RX0) (T := TX0) (M := 2) (ty := .int) hx hb hts hinX0 tyX0 tyX0_ok nmX0 hown hK hG hS i_q1_0 hW_o rfl 0 (by decide) hf9 rfl rfl rfl rfl rfl (Nat.le_of_ble_eq_true rfl) dX0_becomeLike_5 rfl (fun H locs hG hS => ?_)
  have hG : GW D N L (gA N L s.heap.size) (hW (hW F b2 h2) b (hT h2, hH h)) H := hG.to hW_uo
  refine lv_aload_n hx hb dX0_becomeLike_8 rfl (lv_at hl 0 rfl) ?_
  refine lv_aload_n hx hb dX0_becomeLike_9 rfl (lv_at hl 1 rfl) ?_
  refine g_get (ci := 0) (C := RX0) (T := TX0) (M := 2) hx hb hts hinX0 hown hK hG i_q0_0 (by rw [hW_n (by omega)]; exact hW_o) rfl 1 (by decide) hf15 rfl rfl dX0_becomeLike_10 ?_
  refine g_put (ci := 0) (C := RX0) (T := TX0) (M := 2) (ty := .int) hx hb hts hinX0 tyX0 tyX0_ok nmX0 hown hK hG hS i_q1_0 hW_o rfl 1 (by decide) hf15 rfl rfl rfl rfl rfl (Nat.le_of_ble_eq_true rfl) dX0_becomeLike_13 rfl (fun H locs hG hS => ?_)
  have hG : GW D N L (gA N L s.heap.size) (hW (hW F b2 h2) b (hT h2, hH h2)) H := hG.to hW_uo
  exact g_vret hx hb hr hlocks hK hG hS dX0_becomeLike_16 ⟨rfl, rfl⟩
set_option maxHeartbeats 4000000 in
set_option maxRecDepth 100000 in
theorem k_X1_totalFrom (l : Launch) (D : va_G) (cy : Nat → ClassId) (N : Nat) (L : Nat → Nat) (F : Nat → va_E) (b : Nat) (v : ST) (hb : b + 3 ≤ N)  (j : Nat) (hn : sN v ≤ 10) (hj : j ≤ sN v) : GM l D cy N L yX1_totalFrom wsX1_totalFrom ({ frames := 0, cells := 0, slots := 0, locals := 0 }) [.ref (L b), .int (nI j)] (sW cy L F b v) (some (.int (s_sum (sT v) j (sN v - j)))) (sW cy L F b v) := by
  refine GM.ofW (cc := cX1_totalFrom) (maxL := 4) (ret := (some .int)) (by decide) rfl (Nat.le_of_ble_eq_true rfl) ?_
  intro p e s m below meth c ls hx hb hr hts hown hlocks hml hK hA hG hS hl
  have hl : lv_has ls 4 [(0, .ref (L b)), (1, .int (nI j))] := hl
  have i_q0_0 : b < N := by omega
  have i_q0_1 : b + 1 < N := by omega
  have i_q0_2 : b + 2 < N := by omega
  have hf18 := hts (.fieldLink RX1 18 "SiloPads$Silo" "layers" "I") (by decide +kernel)
  have hinX1 : ∀ w ∈ u_ws RX1 TX1 6, w ∈ wsX1_totalFrom := by decide +kernel
  have hf9 := hts (.fieldLink RX1 9 "SiloPads$Silo" "tonnes" "[I") (by decide +kernel)
  refine lv_iconst (v := 0) hx hb dX1_totalFrom_0 (by decide) ?_
  refine lv_istore_n (lv' := [(2, .int 0), (0, .ref (L b)), (1, .int (nI j))]) hx hb dX1_totalFrom_1 rfl hl (by decide) rfl (fun ls hl => ?_)
  refine lv_iload_n hx hb dX1_totalFrom_2 rfl (lv_at hl 2 rfl) ?_
  refine lv_istore_n (lv' := [(3, .int (nI j)), (2, .int 0), (0, .ref (L b)), (1, .int (nI j))]) hx hb dX1_totalFrom_3 rfl hl (by decide) rfl (fun ls hl => ?_)
  refine W.loop (σ := Nat) (fun d H locs ls => (j + d ≤ sN v) ∧ GW D N L (gA N L s.heap.size) (sW cy L F b v) H ∧ va_S (gA N L s.heap.size) s.heap H locs ∧ lv_has ls 4 [(2, .int (s_sum (sT v) j d)), (3, .int (nI (j + d))), (0, .ref (L b)), (1, .int (nI j))]) (fun d => sN v - (j + d)) 0 ⟨by omega, hG.to (rfl), hS, lv_to (lv_sub hl [1, 0, 2, 3] rfl) (rfl)⟩ ?_
  intro d H locs ls hP9 ih4
  obtain ⟨hd9, hG, hS, hl⟩ := hP9
  refine lv_iload_n hx hb dX1_totalFrom_4 rfl (lv_at hl 1 rfl) ?_
  refine lv_aload_n hx hb dX1_totalFrom_5 rfl (lv_at hl 2 rfl) ?_
  refine g_get (ci := 1) (C := RX1) (T := TX1) (M := 6) hx hb hts hinX1 hown hK hG i_q0_0 sW_o rfl 2 (by decide) hf18 rfl rfl dX1_totalFrom_6 ?_
  refine lv_icmp_ge (tgt := 27) hx hb dX1_totalFrom_9 (by decide) (fun c_9 => ?_) (fun c_9 => ?_)
  · skip
    have c_9 : (sN v) ≤ (j + d) := (nI_leI (a := sN v) (b := j + d) (by omega) (by omega)).mp c_9
    refine lv_iload_n hx hb dX1_totalFrom_27 rfl (lv_at hl 0 rfl) ?_
    exact g_iret hx hb hr hlocks hK hG hS rfl dX1_totalFrom_28 ⟨(congrArg (fun z9 => some (Value.int z9)) (by rw [show d = sN v - j by omega])), rfl⟩
  · skip
    have c_9 : ¬ (sN v) ≤ (j + d) := fun h9 => c_9 ((nI_leI (a := sN v) (b := j + d) (by omega) (by omega)).mpr h9)
    refine lv_iload_n hx hb dX1_totalFrom_12 rfl (lv_at hl 0 rfl) ?_
    refine lv_aload_n hx hb dX1_totalFrom_13 rfl (lv_at hl 2 rfl) ?_
    refine g_get (ci := 1) (C := RX1) (T := TX1) (M := 6) hx hb hts hinX1 hown hK hG i_q0_0 sW_o rfl 0 (by decide) hf9 rfl rfl dX1_totalFrom_14 ?_
    refine lv_iload_n hx hb dX1_totalFrom_17 rfl (lv_at hl 1 rfl) ?_
    refine g_iald hx hb hK hG i_q0_1 sW_t (k := j + d) rfl (by omega) (by decide) dX1_totalFrom_18 ?_
    refine lv_iadd hx hb dX1_totalFrom_19 ?_
    refine lv_istore_n (lv' := [(2, .int ((s_sum (sT v) j d) + ((sT v) (j + d)))), (3, .int (nI (j + d))), (0, .ref (L b)), (1, .int (nI j))]) hx hb dX1_totalFrom_20 rfl hl (by decide) rfl (fun ls hl => ?_)
    refine lv_iinc (v := nI ((j + d) + 1)) (lv' := [(3, .int (nI ((j + d) + 1))), (2, .int ((s_sum (sT v) j d) + ((sT v) (j + d)))), (0, .ref (L b)), (1, .int (nI j))]) hx hb dX1_totalFrom_21 hl (k := 1) rfl (nI_add (j + d) 1) (by decide) rfl (fun ls hl => ?_)
    refine lv_goto (tgt := 4) hx hb dX1_totalFrom_24 (by decide) ?_
    have hl : lv_has ls 4 [(2, .int ((s_sum (sT v) j d) + ((sT v) (j + d)))), (3, .int (nI ((j + d) + 1))), (0, .ref (L b)), (1, .int (nI j))] := lv_sub hl [1, 0, 2, 3] rfl
    exact ih4 (d + 1) _ _ _ (by omega) ⟨by omega, hG.to (rfl), hS, lv_to hl (rfl)⟩
set_option maxHeartbeats 4000000 in
set_option maxRecDepth 100000 in
theorem k_X1_total (l : Launch) (D : va_G) (cy : Nat → ClassId) (N : Nat) (L : Nat → Nat) (F : Nat → va_E) (b : Nat) (v : ST) (hb : b + 3 ≤ N)   (hn : sN v ≤ 10) : GM l D cy N L yX1_total wsX1_total ({ frames := 1, cells := 0, slots := 0, locals := 23 }) [.ref (L b)] (sW cy L F b v) (some (.int (s_total v))) (sW cy L F b v) := by
  refine GM.ofW (cc := cX1_total) (maxL := 1) (ret := (some .int)) (by decide) rfl (Nat.le_of_ble_eq_true rfl) ?_
  intro p e s m below meth c ls hx hb hr hts hown hlocks hml hK hA hG hS hl
  have hl : lv_has ls 1 [(0, .ref (L b))] := hl
  have i_q0_0 : b < N := by omega
  have i_q0_1 : b + 1 < N := by omega
  have i_q0_2 : b + 2 < N := by omega
  refine lv_aload_n hx hb dX1_total_0 rfl (lv_at hl 0 rfl) ?_
  refine lv_iconst (v := 0) hx hb dX1_total_1 (by decide) ?_
  refine g_cVi (As := [.int 0]) (rest := []) hx hb hml hown hts hK hA hG hS (k_X1_totalFrom l D cy N L _ _ _ (by omega) 0 (by omega) (by omega)) (cwV 1 hts gX1_total_X1_totalFrom rfl rfl rfl (by decide +kernel) ⟨Nat.le_of_ble_eq_true rfl, Nat.le_of_ble_eq_true rfl⟩) i_q0_0 sW_o (ci := 1) rfl rfl rfl rfl hl.1 (Nat.le_of_ble_eq_true rfl) dX1_total_2 ⟨Nat.zero_le _, Nat.zero_le _⟩ (fun H locs hG hS => ?_)
  exact g_iret hx hb hr hlocks hK hG hS rfl dX1_total_5 ⟨(congrArg (fun z9 => some (Value.int z9)) (rfl)), rfl⟩
set_option maxHeartbeats 4000000 in
set_option maxRecDepth 100000 in
theorem k_X1_tonnesHeld (l : Launch) (D : va_G) (cy : Nat → ClassId) (N : Nat) (L : Nat → Nat) (F : Nat → va_E) (b : Nat) (v : ST) (hb : b + 3 ≤ N)   (hn : sN v ≤ 10) (hn1 : 1 ≤ sN v ∨ sC v = 2) : GM l D cy N L yX1_tonnesHeld wsX1_tonnesHeld ({ frames := 1, cells := 0, slots := 0, locals := 23 }) [.ref (L b)] (sW cy L F b v) (some (.int (s_held v))) (sW cy L F b v) := by
  refine GM.ofW (cc := cX1_tonnesHeld) (maxL := 1) (ret := (some .int)) (by decide) rfl (Nat.le_of_ble_eq_true rfl) ?_
  intro p e s m below meth c ls hx hb hr hts hown hlocks hml hK hA hG hS hl
  have hl : lv_has ls 1 [(0, .ref (L b))] := hl
  have i_q0_0 : b < N := by omega
  have i_q0_1 : b + 1 < N := by omega
  have i_q0_2 : b + 2 < N := by omega
  have hf25 := hts (.fieldLink RX1 25 "SiloPads$Silo" "arch" "I") (by decide +kernel)
  have hinX1 : ∀ w ∈ u_ws RX1 TX1 6, w ∈ wsX1_tonnesHeld := by decide +kernel
  refine lv_aload_n hx hb dX1_tonnesHeld_0 rfl (lv_at hl 0 rfl) ?_
  refine lv_aload_n hx hb dX1_tonnesHeld_1 rfl (lv_at hl 0 rfl) ?_
  refine g_get (ci := 1) (C := RX1) (T := TX1) (M := 6) hx hb hts hinX1 hown hK hG i_q0_0 sW_o rfl 4 (by decide) hf25 rfl rfl dX1_tonnesHeld_2 ?_
  refine lv_iconst (v := 2) hx hb dX1_tonnesHeld_5 (by decide) ?_
  refine lv_icmp_ne (tgt := 13) hx hb dX1_tonnesHeld_6 (by decide) (fun c_6 => ?_) (fun c_6 => ?_)
  · skip
    refine lv_iconst (v := 1) hx hb dX1_tonnesHeld_13 (by decide) ?_
    refine g_cVi (As := [.int 1]) (rest := []) hx hb hml hown hts hK hA hG hS (k_X1_totalFrom l D cy N L _ _ _ (by omega) 1 (hn) (by first | omega | (rcases hn1 with h9 | h9 <;> first | omega | (exact absurd h9 c_6)))) (cwV 1 hts gX1_tonnesHeld_X1_totalFrom rfl rfl rfl (by decide +kernel) ⟨Nat.le_of_ble_eq_true rfl, Nat.le_of_ble_eq_true rfl⟩) i_q0_0 sW_o (ci := 1) rfl rfl rfl rfl hl.1 (Nat.le_of_ble_eq_true rfl) dX1_tonnesHeld_14 ⟨Nat.zero_le _, Nat.zero_le _⟩ (fun H locs hG hS => ?_)
    exact g_iret hx hb hr hlocks hK hG hS rfl dX1_tonnesHeld_17 ⟨(congrArg (fun z9 => some (Value.int z9)) (by first | (simp only [s_held, c_6, if_true, if_false, not_true_eq_false, not_false_eq_true]; done) | (simp [s_held, c_6]; done) | rfl)), rfl⟩
  · skip
    refine lv_iconst (v := 0) hx hb dX1_tonnesHeld_9 (by decide) ?_
    refine lv_goto (tgt := 14) hx hb dX1_tonnesHeld_10 (by decide) ?_
    refine g_cVi (As := [.int 0]) (rest := []) hx hb hml hown hts hK hA hG hS (k_X1_totalFrom l D cy N L _ _ _ (by omega) 0 (hn) (by first | omega | (rcases hn1 with h9 | h9 <;> first | omega | (exact absurd h9 c_6)))) (cwV 1 hts gX1_tonnesHeld_X1_totalFrom rfl rfl rfl (by decide +kernel) ⟨Nat.le_of_ble_eq_true rfl, Nat.le_of_ble_eq_true rfl⟩) i_q0_0 sW_o (ci := 1) rfl rfl rfl rfl hl.1 (Nat.le_of_ble_eq_true rfl) dX1_tonnesHeld_14 ⟨Nat.zero_le _, Nat.zero_le _⟩ (fun H locs hG hS => ?_)
    exact g_iret hx hb hr hlocks hK hG hS rfl dX1_tonnesHeld_17 ⟨(congrArg (fun z9 => some (Value.int z9)) (by first | (simp only [s_held, eq_true c_6, if_true, if_false, not_true_eq_false, not_false_eq_true]; done) | (simp [s_held, eq_true c_6]; done) | rfl)), rfl⟩
set_option maxHeartbeats 4000000 in
set_option maxRecDepth 100000 in
theorem k_X1_canGetArch (l : Launch) (D : va_G) (cy : Nat → ClassId) (N : Nat) (L : Nat → Nat) (F : Nat → va_E) (b : Nat) (v : ST) (hb : b + 3 ≤ N)   (hn : sN v ≤ 10) : GM l D cy N L yX1_canGetArch wsX1_canGetArch ({ frames := 0, cells := 0, slots := 0, locals := 0 }) [.ref (L b)] (sW cy L F b v) (some (.int (s_can v))) (sW cy L F b v) := by
  refine GM.ofW (cc := cX1_canGetArch) (maxL := 1) (ret := (some .boolean)) (by decide) rfl (Nat.le_of_ble_eq_true rfl) ?_
  intro p e s m below meth c ls hx hb hr hts hown hlocks hml hK hA hG hS hl
  have hl : lv_has ls 1 [(0, .ref (L b))] := hl
  have i_q0_0 : b < N := by omega
  have i_q0_1 : b + 1 < N := by omega
  have i_q0_2 : b + 2 < N := by omega
  have hf18 := hts (.fieldLink RX1 18 "SiloPads$Silo" "layers" "I") (by decide +kernel)
  have hinX1 : ∀ w ∈ u_ws RX1 TX1 6, w ∈ wsX1_canGetArch := by decide +kernel
  have hf25 := hts (.fieldLink RX1 25 "SiloPads$Silo" "arch" "I") (by decide +kernel)
  refine lv_aload_n hx hb dX1_canGetArch_0 rfl (lv_at hl 0 rfl) ?_
  refine g_get (ci := 1) (C := RX1) (T := TX1) (M := 6) hx hb hts hinX1 hown hK hG i_q0_0 sW_o rfl 2 (by decide) hf18 rfl rfl dX1_canGetArch_1 ?_
  refine lv_iconst (v := 2) hx hb dX1_canGetArch_4 (by decide) ?_
  refine lv_icmp_lt (tgt := 19) hx hb dX1_canGetArch_5 (by decide) (fun c_5 => ?_) (fun c_5 => ?_)
  · skip
    have c_5 : (sN v) < 2 := (nI_ltI (a := sN v) (b := 2) (by omega) (by omega)).mp c_5
    refine lv_iconst (v := 0) hx hb dX1_canGetArch_19 (by decide) ?_
    exact g_iret hx hb hr hlocks hK hG hS rfl dX1_canGetArch_20 ⟨(congrArg (fun z9 => some (Value.int z9)) (by first | (simp only [s_can, c_5, if_true, if_false, not_true_eq_false, not_false_eq_true]; done) | (simp [s_can, c_5]; done) | rfl)), rfl⟩
  · skip
    have c_5 : ¬ (sN v) < 2 := fun h9 => c_5 ((nI_ltI (a := sN v) (b := 2) (by omega) (by omega)).mpr h9)
    refine lv_aload_n hx hb dX1_canGetArch_8 rfl (lv_at hl 0 rfl) ?_
    refine g_get (ci := 1) (C := RX1) (T := TX1) (M := 6) hx hb hts hinX1 hown hK hG i_q0_0 sW_o rfl 4 (by decide) hf25 rfl rfl dX1_canGetArch_9 ?_
    refine lv_if_ne (tgt := 19) hx hb dX1_canGetArch_12 (by decide) (fun c_12 => ?_) (fun c_12 => ?_)
    · skip
      refine lv_iconst (v := 0) hx hb dX1_canGetArch_19 (by decide) ?_
      exact g_iret hx hb hr hlocks hK hG hS rfl dX1_canGetArch_20 ⟨(congrArg (fun z9 => some (Value.int z9)) (by first | (simp only [s_can, c_5, c_12, if_true, if_false, not_true_eq_false, not_false_eq_true]; done) | (simp [s_can, c_5, c_12]; done) | rfl)), rfl⟩
    · skip
      refine lv_iconst (v := 1) hx hb dX1_canGetArch_15 (by decide) ?_
      refine lv_goto (tgt := 20) hx hb dX1_canGetArch_16 (by decide) ?_
      exact g_iret hx hb hr hlocks hK hG hS rfl dX1_canGetArch_20 ⟨(congrArg (fun z9 => some (Value.int z9)) (by first | (simp only [s_can, c_5, eq_true c_12, if_true, if_false, not_true_eq_false, not_false_eq_true]; done) | (simp [s_can, c_5, eq_true c_12]; done) | rfl)), rfl⟩
set_option maxHeartbeats 4000000 in
set_option maxRecDepth 100000 in
theorem k_X1_placeOnTop (l : Launch) (D : va_G) (cy : Nat → ClassId) (N : Nat) (L : Nat → Nat) (F : Nat → va_E) (b : Nat) (v : ST) (hb : b + 3 ≤ N)   (hn : sN v ≤ 10) : GM l D cy N L yX1_placeOnTop wsX1_placeOnTop ({ frames := 0, cells := 0, slots := 0, locals := 0 }) [.ref (L b)] (sW cy L F b v) (some (.int (s_onTop v))) (sW cy L F b v) := by
  refine GM.ofW (cc := cX1_placeOnTop) (maxL := 1) (ret := (some .int)) (by decide) rfl (Nat.le_of_ble_eq_true rfl) ?_
  intro p e s m below meth c ls hx hb hr hts hown hlocks hml hK hA hG hS hl
  have hl : lv_has ls 1 [(0, .ref (L b))] := hl
  have i_q0_0 : b < N := by omega
  have i_q0_1 : b + 1 < N := by omega
  have i_q0_2 : b + 2 < N := by omega
  have hf18 := hts (.fieldLink RX1 18 "SiloPads$Silo" "layers" "I") (by decide +kernel)
  have hinX1 : ∀ w ∈ u_ws RX1 TX1 6, w ∈ wsX1_placeOnTop := by decide +kernel
  have hf15 := hts (.fieldLink RX1 15 "SiloPads$Silo" "ages" "[I") (by decide +kernel)
  have hf9 := hts (.fieldLink RX1 9 "SiloPads$Silo" "tonnes" "[I") (by decide +kernel)
  refine lv_aload_n hx hb dX1_placeOnTop_0 rfl (lv_at hl 0 rfl) ?_
  refine g_get (ci := 1) (C := RX1) (T := TX1) (M := 6) hx hb hts hinX1 hown hK hG i_q0_0 sW_o rfl 2 (by decide) hf18 rfl rfl dX1_placeOnTop_1 ?_
  refine lv_if_eq (tgt := 21) hx hb dX1_placeOnTop_4 (by decide) (fun c_4 => ?_) (fun c_4 => ?_)
  · skip
    have c_4 : (sN v) = 0 := (nI_eq (a := sN v) (b := 0) (by omega) (by omega)).mp c_4
    refine lv_iconst (v := 0) hx hb dX1_placeOnTop_21 (by decide) ?_
    exact g_iret hx hb hr hlocks hK hG hS rfl dX1_placeOnTop_22 ⟨(congrArg (fun z9 => some (Value.int z9)) (by first | (simp only [s_onTop, eq_true c_4, if_true, if_false, not_true_eq_false, not_false_eq_true]; done) | (simp [s_onTop, eq_true c_4]; done) | rfl)), rfl⟩
  · skip
    have c_4 : ¬ (sN v) = 0 := fun h9 => c_4 ((nI_eq (a := sN v) (b := 0) (by omega) (by omega)).mpr h9)
    refine lv_aload_n hx hb dX1_placeOnTop_7 rfl (lv_at hl 0 rfl) ?_
    refine g_get (ci := 1) (C := RX1) (T := TX1) (M := 6) hx hb hts hinX1 hown hK hG i_q0_0 sW_o rfl 1 (by decide) hf15 rfl rfl dX1_placeOnTop_8 ?_
    refine lv_aload_n hx hb dX1_placeOnTop_11 rfl (lv_at hl 0 rfl) ?_
    refine g_get (ci := 1) (C := RX1) (T := TX1) (M := 6) hx hb hts hinX1 hown hK hG i_q0_0 sW_o rfl 2 (by decide) hf18 rfl rfl dX1_placeOnTop_12 ?_
    refine lv_iconst (v := 1) hx hb dX1_placeOnTop_15 (by decide) ?_
    refine lv_isub hx hb dX1_placeOnTop_16 ?_
    refine lv_toN (k := (sN v) - 1) (pk_sub (a := sN v) (b := 1) (by omega)) ?_
    refine g_iald hx hb hK hG i_q0_2 sW_a (k := (sN v) - 1) rfl (by omega) (by decide) dX1_placeOnTop_17 ?_
    refine lv_if_eq (tgt := 23) hx hb dX1_placeOnTop_18 (by decide) (fun c_18 => ?_) (fun c_18 => ?_)
    · skip
      refine lv_sipush (v := 500) hx hb dX1_placeOnTop_23 (by decide) ?_
      refine lv_aload_n hx hb dX1_placeOnTop_26 rfl (lv_at hl 0 rfl) ?_
      refine g_get (ci := 1) (C := RX1) (T := TX1) (M := 6) hx hb hts hinX1 hown hK hG i_q0_0 sW_o rfl 0 (by decide) hf9 rfl rfl dX1_placeOnTop_27 ?_
      refine lv_aload_n hx hb dX1_placeOnTop_30 rfl (lv_at hl 0 rfl) ?_
      refine g_get (ci := 1) (C := RX1) (T := TX1) (M := 6) hx hb hts hinX1 hown hK hG i_q0_0 sW_o rfl 2 (by decide) hf18 rfl rfl dX1_placeOnTop_31 ?_
      refine lv_iconst (v := 1) hx hb dX1_placeOnTop_34 (by decide) ?_
      refine lv_isub hx hb dX1_placeOnTop_35 ?_
      refine lv_toN (k := (sN v) - 1) (pk_sub (a := sN v) (b := 1) (by omega)) ?_
      refine g_iald hx hb hK hG i_q0_1 sW_t (k := (sN v) - 1) rfl (by omega) (by decide) dX1_placeOnTop_36 ?_
      refine lv_isub hx hb dX1_placeOnTop_37 ?_
      exact g_iret hx hb hr hlocks hK hG hS rfl dX1_placeOnTop_38 ⟨(congrArg (fun z9 => some (Value.int z9)) (by first | (simp only [s_onTop, c_4, eq_true c_18, if_true, if_false, not_true_eq_false, not_false_eq_true]; done) | (simp [s_onTop, c_4, eq_true c_18]; done) | rfl)), rfl⟩
    · skip
      refine lv_iconst (v := 0) hx hb dX1_placeOnTop_21 (by decide) ?_
      exact g_iret hx hb hr hlocks hK hG hS rfl dX1_placeOnTop_22 ⟨(congrArg (fun z9 => some (Value.int z9)) (by first | (simp only [s_onTop, c_4, c_18, if_true, if_false, not_true_eq_false, not_false_eq_true]; done) | (simp [s_onTop, c_4, c_18]; done) | rfl)), rfl⟩
set_option maxHeartbeats 4000000 in
set_option maxRecDepth 100000 in
theorem k_X1_place (l : Launch) (D : va_G) (cy : Nat → ClassId) (N : Nat) (L : Nat → Nat) (F : Nat → va_E) (b : Nat) (v : ST) (hb : b + 3 ≤ N)   (hn : sN v ≤ 10) : GM l D cy N L yX1_place wsX1_place ({ frames := 2, cells := 0, slots := 0, locals := 43 }) [.ref (L b)] (sW cy L F b v) (some (.int (s_place v))) (sW cy L F b v) := by
  refine GM.ofW (cc := cX1_place) (maxL := 2) (ret := (some .int)) (by decide) rfl (Nat.le_of_ble_eq_true rfl) ?_
  intro p e s m below meth c ls hx hb hr hts hown hlocks hml hK hA hG hS hl
  have hl : lv_has ls 2 [(0, .ref (L b))] := hl
  have i_q0_0 : b < N := by omega
  have i_q0_1 : b + 1 < N := by omega
  have i_q0_2 : b + 2 < N := by omega
  have hf18 := hts (.fieldLink RX1 18 "SiloPads$Silo" "layers" "I") (by decide +kernel)
  have hinX1 : ∀ w ∈ u_ws RX1 TX1 6, w ∈ wsX1_place := by decide +kernel
  have hm42 := hts (.methodLink RX1 42 Lib.Math.min.name) (by decide +kernel)
  have hmsmin := hts (.static Lib.Math.min.name) (by decide +kernel)
  have hmcmin := hts (.code Lib.Math.min.name Lib.Math.min.code 2 (some .int)) (by decide +kernel)
  have hmi := hts (.initialized "java/lang/Math") (by decide +kernel)
  refine lv_aload_n hx hb dX1_place_0 rfl (lv_at hl 0 rfl) ?_
  refine g_get (ci := 1) (C := RX1) (T := TX1) (M := 6) hx hb hts hinX1 hown hK hG i_q0_0 sW_o rfl 2 (by decide) hf18 rfl rfl dX1_place_1 ?_
  refine lv_bipush (v := 10) hx hb dX1_place_4 (by decide) ?_
  refine lv_icmp_ge (tgt := 15) hx hb dX1_place_6 (by decide) (fun c_6 => ?_) (fun c_6 => ?_)
  · skip
    have c_6 : 10 ≤ (sN v) := (nI_leI (a := 10) (b := sN v) (by omega) (by omega)).mp c_6
    refine lv_iconst (v := 0) hx hb dX1_place_15 (by decide) ?_
    refine lv_istore_n (lv' := [(1, .int 0), (0, .ref (L b))]) hx hb dX1_place_16 rfl hl (by decide) rfl (fun ls hl => ?_)
    refine lv_sipush (v := 1200) hx hb dX1_place_17 (by decide) ?_
    refine lv_aload_n hx hb dX1_place_20 rfl (lv_at hl 1 rfl) ?_
    refine g_cVi (As := []) (rest := [.int 1200]) hx hb hml hown hts hK hA hG hS (k_X1_total l D cy N L _ _ _ (by omega)  (hn)) (cwV 0 hts gX1_place_X1_total rfl rfl rfl (by decide +kernel) ⟨Nat.le_of_ble_eq_true rfl, Nat.le_of_ble_eq_true rfl⟩) i_q0_0 sW_o (ci := 1) rfl rfl rfl rfl hl.1 (Nat.le_of_ble_eq_true rfl) dX1_place_21 ⟨Nat.zero_le _, Nat.zero_le _⟩ (fun H locs hG hS => ?_)
    refine lv_isub hx hb dX1_place_24 ?_
    refine lv_aload_n hx hb dX1_place_25 rfl (lv_at hl 1 rfl) ?_
    refine g_cVi (As := []) (rest := [.int (1200 - (s_total v))]) hx hb hml hown hts hK hA hG hS (k_X1_placeOnTop l D cy N L _ _ _ (by omega)  (hn)) (cwV 0 hts gX1_place_X1_placeOnTop rfl rfl rfl (by decide +kernel) ⟨Nat.le_of_ble_eq_true rfl, Nat.le_of_ble_eq_true rfl⟩) i_q0_0 sW_o (ci := 1) rfl rfl rfl rfl hl.1 (Nat.le_of_ble_eq_true rfl) dX1_place_26 ⟨Nat.zero_le _, Nat.zero_le _⟩ (fun H locs hG hS => ?_)
    refine lv_iload_n hx hb dX1_place_29 rfl (lv_at hl 0 rfl) ?_
    refine lv_iadd hx hb dX1_place_30 ?_
    refine va_mmin hx hb (hml.trans hl.1.symm) hown hm42 hmsmin hmi hmcmin (Nat.le_of_ble_eq_true rfl) (Nat.le_of_ble_eq_true rfl) (Nat.zero_le _) (Nat.zero_le _) dX1_place_31 ?_
    exact g_iret hx hb hr hlocks hK hG hS rfl dX1_place_34 ⟨(congrArg (fun z9 => some (Value.int z9)) (by first | (simp only [s_place, c_6, if_true, if_false, not_true_eq_false, not_false_eq_true]; done) | (simp [s_place, c_6]; done) | rfl)), rfl⟩
  · skip
    have c_6 : ¬ 10 ≤ (sN v) := fun h9 => c_6 ((nI_leI (a := 10) (b := sN v) (by omega) (by omega)).mpr h9)
    refine lv_sipush (v := 500) hx hb dX1_place_9 (by decide) ?_
    refine lv_goto (tgt := 16) hx hb dX1_place_12 (by decide) ?_
    refine lv_istore_n (lv' := [(1, .int 500), (0, .ref (L b))]) hx hb dX1_place_16 rfl hl (by decide) rfl (fun ls hl => ?_)
    refine lv_sipush (v := 1200) hx hb dX1_place_17 (by decide) ?_
    refine lv_aload_n hx hb dX1_place_20 rfl (lv_at hl 1 rfl) ?_
    refine g_cVi (As := []) (rest := [.int 1200]) hx hb hml hown hts hK hA hG hS (k_X1_total l D cy N L _ _ _ (by omega)  (hn)) (cwV 0 hts gX1_place_X1_total rfl rfl rfl (by decide +kernel) ⟨Nat.le_of_ble_eq_true rfl, Nat.le_of_ble_eq_true rfl⟩) i_q0_0 sW_o (ci := 1) rfl rfl rfl rfl hl.1 (Nat.le_of_ble_eq_true rfl) dX1_place_21 ⟨Nat.zero_le _, Nat.zero_le _⟩ (fun H locs hG hS => ?_)
    refine lv_isub hx hb dX1_place_24 ?_
    refine lv_aload_n hx hb dX1_place_25 rfl (lv_at hl 1 rfl) ?_
    refine g_cVi (As := []) (rest := [.int (1200 - (s_total v))]) hx hb hml hown hts hK hA hG hS (k_X1_placeOnTop l D cy N L _ _ _ (by omega)  (hn)) (cwV 0 hts gX1_place_X1_placeOnTop rfl rfl rfl (by decide +kernel) ⟨Nat.le_of_ble_eq_true rfl, Nat.le_of_ble_eq_true rfl⟩) i_q0_0 sW_o (ci := 1) rfl rfl rfl rfl hl.1 (Nat.le_of_ble_eq_true rfl) dX1_place_26 ⟨Nat.zero_le _, Nat.zero_le _⟩ (fun H locs hG hS => ?_)
    refine lv_iload_n hx hb dX1_place_29 rfl (lv_at hl 0 rfl) ?_
    refine lv_iadd hx hb dX1_place_30 ?_
    refine va_mmin hx hb (hml.trans hl.1.symm) hown hm42 hmsmin hmi hmcmin (Nat.le_of_ble_eq_true rfl) (Nat.le_of_ble_eq_true rfl) (Nat.zero_le _) (Nat.zero_le _) dX1_place_31 ?_
    exact g_iret hx hb hr hlocks hK hG hS rfl dX1_place_34 ⟨(congrArg (fun z9 => some (Value.int z9)) (by first | (simp only [s_place, c_6, if_true, if_false, not_true_eq_false, not_false_eq_true]; done) | (simp [s_place, c_6]; done) | rfl)), rfl⟩
set_option maxHeartbeats 4000000 in
set_option maxRecDepth 100000 in
theorem k_X1_fill (l : Launch) (D : va_G) (cy : Nat → ClassId) (N : Nat) (L : Nat → Nat) (F : Nat → va_E) (b : Nat) (v : ST) (hb : b + 3 ≤ N)  (a : Int32) (hn : sN v ≤ 10) : GM l D cy N L yX1_fill wsX1_fill ({ frames := 1, cells := 0, slots := 0, locals := 21 }) [.ref (L b), .int a] (sW cy L F b v) (none) (sW cy L F b (s_fill v a)) := by
  refine GM.ofW (cc := cX1_fill) (maxL := 4) (ret := none) (by decide) rfl (Nat.le_of_ble_eq_true rfl) ?_
  intro p e s m below meth c ls hx hb hr hts hown hlocks hml hK hA hG hS hl
  have hl : lv_has ls 4 [(0, .ref (L b)), (1, .int a)] := hl
  have i_q0_0 : b < N := by omega
  have i_q0_1 : b + 1 < N := by omega
  have i_q0_2 : b + 2 < N := by omega
  have hm42 := hts (.methodLink RX1 42 Lib.Math.min.name) (by decide +kernel)
  have hmsmin := hts (.static Lib.Math.min.name) (by decide +kernel)
  have hmcmin := hts (.code Lib.Math.min.name Lib.Math.min.code 2 (some .int)) (by decide +kernel)
  have hmi := hts (.initialized "java/lang/Math") (by decide +kernel)
  have hf18 := hts (.fieldLink RX1 18 "SiloPads$Silo" "layers" "I") (by decide +kernel)
  have hinX1 : ∀ w ∈ u_ws RX1 TX1 6, w ∈ wsX1_fill := by decide +kernel
  have hf9 := hts (.fieldLink RX1 9 "SiloPads$Silo" "tonnes" "[I") (by decide +kernel)
  have hf15 := hts (.fieldLink RX1 15 "SiloPads$Silo" "ages" "[I") (by decide +kernel)
  have hf28 := hts (.fieldLink RX1 28 "SiloPads$Silo" "shakes" "I") (by decide +kernel)
  refine lv_iload_n hx hb dX1_fill_0 rfl (lv_at hl 1 rfl) ?_
  refine lv_aload_n hx hb dX1_fill_1 rfl (lv_at hl 0 rfl) ?_
  refine g_cVi (As := []) (rest := [.int a]) hx hb hml hown hts hK hA hG hS (k_X1_placeOnTop l D cy N L _ _ _ (by omega)  (hn)) (cwV 0 hts gX1_fill_X1_placeOnTop rfl rfl rfl (by decide +kernel) ⟨Nat.le_of_ble_eq_true rfl, Nat.le_of_ble_eq_true rfl⟩) i_q0_0 sW_o (ci := 1) rfl rfl rfl rfl hl.1 (Nat.le_of_ble_eq_true rfl) dX1_fill_2 ⟨Nat.zero_le _, Nat.zero_le _⟩ (fun H locs hG hS => ?_)
  refine va_mmin hx hb (hml.trans hl.1.symm) hown hm42 hmsmin hmi hmcmin (Nat.le_of_ble_eq_true rfl) (Nat.le_of_ble_eq_true rfl) (Nat.zero_le _) (Nat.zero_le _) dX1_fill_5 ?_
  refine lv_toI (y := s_top v a) (rfl) ?_
  refine lv_istore_n (lv' := [(2, .int (s_top v a)), (0, .ref (L b)), (1, .int a)]) hx hb dX1_fill_8 rfl hl (by decide) rfl (fun ls hl => ?_)
  refine lv_iload_n hx hb dX1_fill_9 rfl (lv_at hl 0 rfl) ?_
  refine lv_if_le (tgt := 35) hx hb dX1_fill_10 (by decide) (fun c_10 => ?_) (fun c_10 => ?_)
  · skip
    refine lv_iload_n hx hb dX1_fill_35 rfl (lv_at hl 2 rfl) ?_
    refine lv_iload_n hx hb dX1_fill_36 rfl (lv_at hl 0 rfl) ?_
    refine lv_isub hx hb dX1_fill_37 ?_
    refine lv_istore_n (lv' := [(3, .int (a - (s_top v a))), (2, .int (s_top v a)), (0, .ref (L b)), (1, .int a)]) hx hb dX1_fill_38 rfl hl (by decide) rfl (fun ls hl => ?_)
    refine lv_iload_n hx hb dX1_fill_39 rfl (lv_at hl 0 rfl) ?_
    refine lv_if_le (tgt := 87) hx hb dX1_fill_40 (by decide) (fun c_40 => ?_) (fun c_40 => ?_)
    · skip
      exact g_vret hx hb hr hlocks hK hG hS dX1_fill_87 ⟨rfl, (by first | (simp only [s_fill, s_fillT, s_rest, c_10, c_40, if_true, if_false, not_true_eq_false, not_false_eq_true]; done) | (simp [s_fill, s_fillT, s_rest, c_10, c_40]; done) | rfl)⟩
    · skip
      refine lv_aload_n hx hb dX1_fill_43 rfl (lv_at hl 2 rfl) ?_
      refine g_get (ci := 1) (C := RX1) (T := TX1) (M := 6) hx hb hts hinX1 hown hK hG i_q0_0 sW_o rfl 2 (by decide) hf18 rfl rfl dX1_fill_44 ?_
      refine lv_bipush (v := 10) hx hb dX1_fill_47 (by decide) ?_
      refine lv_icmp_ge (tgt := 87) hx hb dX1_fill_49 (by decide) (fun c_49 => ?_) (fun c_49 => ?_)
      · skip
        have c_49 : 10 ≤ (sN v) := (nI_leI (a := 10) (b := sN v) (by omega) (by omega)).mp c_49
        exact g_vret hx hb hr hlocks hK hG hS dX1_fill_87 ⟨rfl, (by first | (simp only [s_fill, s_fillT, s_rest, c_10, c_40, c_49, if_true, if_false, not_true_eq_false, not_false_eq_true]; done) | (simp [s_fill, s_fillT, s_rest, c_10, c_40, c_49]; done) | rfl)⟩
      · skip
        have c_49 : ¬ 10 ≤ (sN v) := fun h9 => c_49 ((nI_leI (a := 10) (b := sN v) (by omega) (by omega)).mpr h9)
        refine lv_aload_n hx hb dX1_fill_52 rfl (lv_at hl 2 rfl) ?_
        refine g_get (ci := 1) (C := RX1) (T := TX1) (M := 6) hx hb hts hinX1 hown hK hG i_q0_0 sW_o rfl 0 (by decide) hf9 rfl rfl dX1_fill_53 ?_
        refine lv_aload_n hx hb dX1_fill_56 rfl (lv_at hl 2 rfl) ?_
        refine g_get (ci := 1) (C := RX1) (T := TX1) (M := 6) hx hb hts hinX1 hown hK hG i_q0_0 sW_o rfl 2 (by decide) hf18 rfl rfl dX1_fill_57 ?_
        refine lv_iload_n hx hb dX1_fill_60 rfl (lv_at hl 0 rfl) ?_
        refine g_iast hx hb hK hG hS i_q0_1 sW_t (k := sN v) rfl (by omega) (by decide) dX1_fill_61 (fun H locs hG hS => ?_)
        have hG : GW D N L (gA N L s.heap.size) (sW cy L F b (upd (sT v) (sN v) (a - (s_top v a)), sA v, sN v, sP v, sC v, sK v)) H := hG.to sW_ut
        refine lv_aload_n hx hb dX1_fill_62 rfl (lv_at hl 2 rfl) ?_
        refine g_get (ci := 1) (C := RX1) (T := TX1) (M := 6) hx hb hts hinX1 hown hK hG i_q0_0 sW_o rfl 1 (by decide) hf15 rfl rfl dX1_fill_63 ?_
        refine lv_aload_n hx hb dX1_fill_66 rfl (lv_at hl 2 rfl) ?_
        refine g_get (ci := 1) (C := RX1) (T := TX1) (M := 6) hx hb hts hinX1 hown hK hG i_q0_0 sW_o rfl 2 (by decide) hf18 rfl rfl dX1_fill_67 ?_
        refine lv_iconst (v := 0) hx hb dX1_fill_70 (by decide) ?_
        refine g_iast hx hb hK hG hS i_q0_2 sW_a (k := sN v) rfl (by omega) (by decide) dX1_fill_71 (fun H locs hG hS => ?_)
        have hG : GW D N L (gA N L s.heap.size) (sW cy L F b (upd (sT v) (sN v) (a - (s_top v a)), upd (sA v) (sN v) 0, sN v, sP v, sC v, sK v)) H := hG.to sW_ua
        refine lv_aload_n hx hb dX1_fill_72 rfl (lv_at hl 2 rfl) ?_
        refine lv_dup hx hb dX1_fill_73 rfl ?_
        refine g_get (ci := 1) (C := RX1) (T := TX1) (M := 6) hx hb hts hinX1 hown hK hG i_q0_0 sW_o rfl 2 (by decide) hf18 rfl rfl dX1_fill_74 ?_
        refine lv_iconst (v := 1) hx hb dX1_fill_77 (by decide) ?_
        refine lv_iadd hx hb dX1_fill_78 ?_
        refine lv_toN (k := (sN v) + 1) (nI_add (sN v) 1) ?_
        refine g_put (ci := 1) (C := RX1) (T := TX1) (M := 6) (ty := .int) hx hb hts hinX1 tyX1 tyX1_ok nmX1 hown hK hG hS i_q0_0 sW_o rfl 2 (by decide) hf18 rfl rfl rfl rfl rfl (Nat.le_of_ble_eq_true rfl) dX1_fill_79 rfl (fun H locs hG hS => ?_)
        have hG : GW D N L (gA N L s.heap.size) (sW cy L F b (upd (sT v) (sN v) (a - (s_top v a)), upd (sA v) (sN v) 0, (sN v) + 1, sP v, sC v, sK v)) H := hG.to sW_uo
        refine lv_aload_n hx hb dX1_fill_82 rfl (lv_at hl 2 rfl) ?_
        refine lv_iconst (v := 0) hx hb dX1_fill_83 (by decide) ?_
        refine g_put (ci := 1) (C := RX1) (T := TX1) (M := 6) (ty := .int) hx hb hts hinX1 tyX1 tyX1_ok nmX1 hown hK hG hS i_q0_0 sW_o rfl 5 (by decide) hf28 rfl rfl rfl rfl rfl (Nat.le_of_ble_eq_true rfl) dX1_fill_84 rfl (fun H locs hG hS => ?_)
        have hG : GW D N L (gA N L s.heap.size) (sW cy L F b (upd (sT v) (sN v) (a - (s_top v a)), upd (sA v) (sN v) 0, (sN v) + 1, sP v, sC v, 0)) H := hG.to sW_uo
        exact g_vret hx hb hr hlocks hK hG hS dX1_fill_87 ⟨rfl, (by first | (simp only [s_fill, s_fillT, s_rest, c_10, c_40, c_49, if_true, if_false, not_true_eq_false, not_false_eq_true]; done) | (simp [s_fill, s_fillT, s_rest, c_10, c_40, c_49]; done) | rfl)⟩
  · skip
    refine lv_aload_n hx hb dX1_fill_13 rfl (lv_at hl 1 rfl) ?_
    refine g_get (ci := 1) (C := RX1) (T := TX1) (M := 6) hx hb hts hinX1 hown hK hG i_q0_0 sW_o rfl 2 (by decide) hf18 rfl rfl dX1_fill_14 ?_
    refine lv_if_le (tgt := 35) hx hb dX1_fill_17 (by decide) (fun c_17 => ?_) (fun c_17 => ?_)
    · skip
      have c_17 : (sN v) ≤ 0 := (nI_leI (a := sN v) (b := 0) (by omega) (by omega)).mp c_17
      refine lv_iload_n hx hb dX1_fill_35 rfl (lv_at hl 2 rfl) ?_
      refine lv_iload_n hx hb dX1_fill_36 rfl (lv_at hl 0 rfl) ?_
      refine lv_isub hx hb dX1_fill_37 ?_
      refine lv_istore_n (lv' := [(3, .int (a - (s_top v a))), (2, .int (s_top v a)), (0, .ref (L b)), (1, .int a)]) hx hb dX1_fill_38 rfl hl (by decide) rfl (fun ls hl => ?_)
      refine lv_iload_n hx hb dX1_fill_39 rfl (lv_at hl 0 rfl) ?_
      refine lv_if_le (tgt := 87) hx hb dX1_fill_40 (by decide) (fun c_40 => ?_) (fun c_40 => ?_)
      · skip
        exact g_vret hx hb hr hlocks hK hG hS dX1_fill_87 ⟨rfl, (by first | (simp only [s_fill, s_fillT, s_rest, c_10, c_17, c_40, if_true, if_false, not_true_eq_false, not_false_eq_true]; done) | (simp [s_fill, s_fillT, s_rest, c_10, c_17, c_40]; done) | rfl)⟩
      · skip
        refine lv_aload_n hx hb dX1_fill_43 rfl (lv_at hl 2 rfl) ?_
        refine g_get (ci := 1) (C := RX1) (T := TX1) (M := 6) hx hb hts hinX1 hown hK hG i_q0_0 sW_o rfl 2 (by decide) hf18 rfl rfl dX1_fill_44 ?_
        refine lv_bipush (v := 10) hx hb dX1_fill_47 (by decide) ?_
        refine lv_icmp_ge (tgt := 87) hx hb dX1_fill_49 (by decide) (fun c_49 => ?_) (fun c_49 => ?_)
        · skip
          have c_49 : 10 ≤ (sN v) := (nI_leI (a := 10) (b := sN v) (by omega) (by omega)).mp c_49
          exact g_vret hx hb hr hlocks hK hG hS dX1_fill_87 ⟨rfl, (by first | (simp only [s_fill, s_fillT, s_rest, c_10, c_17, c_40, c_49, if_true, if_false, not_true_eq_false, not_false_eq_true]; done) | (simp [s_fill, s_fillT, s_rest, c_10, c_17, c_40, c_49]; done) | rfl)⟩
        · skip
          have c_49 : ¬ 10 ≤ (sN v) := fun h9 => c_49 ((nI_leI (a := 10) (b := sN v) (by omega) (by omega)).mpr h9)
          refine lv_aload_n hx hb dX1_fill_52 rfl (lv_at hl 2 rfl) ?_
          refine g_get (ci := 1) (C := RX1) (T := TX1) (M := 6) hx hb hts hinX1 hown hK hG i_q0_0 sW_o rfl 0 (by decide) hf9 rfl rfl dX1_fill_53 ?_
          refine lv_aload_n hx hb dX1_fill_56 rfl (lv_at hl 2 rfl) ?_
          refine g_get (ci := 1) (C := RX1) (T := TX1) (M := 6) hx hb hts hinX1 hown hK hG i_q0_0 sW_o rfl 2 (by decide) hf18 rfl rfl dX1_fill_57 ?_
          refine lv_iload_n hx hb dX1_fill_60 rfl (lv_at hl 0 rfl) ?_
          refine g_iast hx hb hK hG hS i_q0_1 sW_t (k := sN v) rfl (by omega) (by decide) dX1_fill_61 (fun H locs hG hS => ?_)
          have hG : GW D N L (gA N L s.heap.size) (sW cy L F b (upd (sT v) (sN v) (a - (s_top v a)), sA v, sN v, sP v, sC v, sK v)) H := hG.to sW_ut
          refine lv_aload_n hx hb dX1_fill_62 rfl (lv_at hl 2 rfl) ?_
          refine g_get (ci := 1) (C := RX1) (T := TX1) (M := 6) hx hb hts hinX1 hown hK hG i_q0_0 sW_o rfl 1 (by decide) hf15 rfl rfl dX1_fill_63 ?_
          refine lv_aload_n hx hb dX1_fill_66 rfl (lv_at hl 2 rfl) ?_
          refine g_get (ci := 1) (C := RX1) (T := TX1) (M := 6) hx hb hts hinX1 hown hK hG i_q0_0 sW_o rfl 2 (by decide) hf18 rfl rfl dX1_fill_67 ?_
          refine lv_iconst (v := 0) hx hb dX1_fill_70 (by decide) ?_
          refine g_iast hx hb hK hG hS i_q0_2 sW_a (k := sN v) rfl (by omega) (by decide) dX1_fill_71 (fun H locs hG hS => ?_)
          have hG : GW D N L (gA N L s.heap.size) (sW cy L F b (upd (sT v) (sN v) (a - (s_top v a)), upd (sA v) (sN v) 0, sN v, sP v, sC v, sK v)) H := hG.to sW_ua
          refine lv_aload_n hx hb dX1_fill_72 rfl (lv_at hl 2 rfl) ?_
          refine lv_dup hx hb dX1_fill_73 rfl ?_
          refine g_get (ci := 1) (C := RX1) (T := TX1) (M := 6) hx hb hts hinX1 hown hK hG i_q0_0 sW_o rfl 2 (by decide) hf18 rfl rfl dX1_fill_74 ?_
          refine lv_iconst (v := 1) hx hb dX1_fill_77 (by decide) ?_
          refine lv_iadd hx hb dX1_fill_78 ?_
          refine lv_toN (k := (sN v) + 1) (nI_add (sN v) 1) ?_
          refine g_put (ci := 1) (C := RX1) (T := TX1) (M := 6) (ty := .int) hx hb hts hinX1 tyX1 tyX1_ok nmX1 hown hK hG hS i_q0_0 sW_o rfl 2 (by decide) hf18 rfl rfl rfl rfl rfl (Nat.le_of_ble_eq_true rfl) dX1_fill_79 rfl (fun H locs hG hS => ?_)
          have hG : GW D N L (gA N L s.heap.size) (sW cy L F b (upd (sT v) (sN v) (a - (s_top v a)), upd (sA v) (sN v) 0, (sN v) + 1, sP v, sC v, sK v)) H := hG.to sW_uo
          refine lv_aload_n hx hb dX1_fill_82 rfl (lv_at hl 2 rfl) ?_
          refine lv_iconst (v := 0) hx hb dX1_fill_83 (by decide) ?_
          refine g_put (ci := 1) (C := RX1) (T := TX1) (M := 6) (ty := .int) hx hb hts hinX1 tyX1 tyX1_ok nmX1 hown hK hG hS i_q0_0 sW_o rfl 5 (by decide) hf28 rfl rfl rfl rfl rfl (Nat.le_of_ble_eq_true rfl) dX1_fill_84 rfl (fun H locs hG hS => ?_)
          have hG : GW D N L (gA N L s.heap.size) (sW cy L F b (upd (sT v) (sN v) (a - (s_top v a)), upd (sA v) (sN v) 0, (sN v) + 1, sP v, sC v, 0)) H := hG.to sW_uo
          exact g_vret hx hb hr hlocks hK hG hS dX1_fill_87 ⟨rfl, (by first | (simp only [s_fill, s_fillT, s_rest, c_10, c_17, c_40, c_49, if_true, if_false, not_true_eq_false, not_false_eq_true]; done) | (simp [s_fill, s_fillT, s_rest, c_10, c_17, c_40, c_49]; done) | rfl)⟩
    · skip
      have c_17 : ¬ (sN v) ≤ 0 := fun h9 => c_17 ((nI_leI (a := sN v) (b := 0) (by omega) (by omega)).mpr h9)
      refine lv_aload_n hx hb dX1_fill_20 rfl (lv_at hl 1 rfl) ?_
      refine g_get (ci := 1) (C := RX1) (T := TX1) (M := 6) hx hb hts hinX1 hown hK hG i_q0_0 sW_o rfl 0 (by decide) hf9 rfl rfl dX1_fill_21 ?_
      refine lv_aload_n hx hb dX1_fill_24 rfl (lv_at hl 1 rfl) ?_
      refine g_get (ci := 1) (C := RX1) (T := TX1) (M := 6) hx hb hts hinX1 hown hK hG i_q0_0 sW_o rfl 2 (by decide) hf18 rfl rfl dX1_fill_25 ?_
      refine lv_iconst (v := 1) hx hb dX1_fill_28 (by decide) ?_
      refine lv_isub hx hb dX1_fill_29 ?_
      refine lv_toN (k := (sN v) - 1) (pk_sub (a := sN v) (b := 1) (by omega)) ?_
      refine lv_dup2_11 hx hb dX1_fill_30 rfl rfl ?_
      refine g_iald hx hb hK hG i_q0_1 sW_t (k := (sN v) - 1) rfl (by omega) (by decide) dX1_fill_31 ?_
      refine lv_iload_n hx hb dX1_fill_32 rfl (lv_at hl 0 rfl) ?_
      refine lv_iadd hx hb dX1_fill_33 ?_
      refine g_iast hx hb hK hG hS i_q0_1 sW_t (k := (sN v) - 1) rfl (by omega) (by decide) dX1_fill_34 (fun H locs hG hS => ?_)
      have hG : GW D N L (gA N L s.heap.size) (sW cy L F b (upd (sT v) ((sN v) - 1) (((sT v) ((sN v) - 1)) + (s_top v a)), sA v, sN v, sP v, sC v, sK v)) H := hG.to sW_ut
      refine lv_iload_n hx hb dX1_fill_35 rfl (lv_at hl 2 rfl) ?_
      refine lv_iload_n hx hb dX1_fill_36 rfl (lv_at hl 0 rfl) ?_
      refine lv_isub hx hb dX1_fill_37 ?_
      refine lv_istore_n (lv' := [(3, .int (a - (s_top v a))), (2, .int (s_top v a)), (0, .ref (L b)), (1, .int a)]) hx hb dX1_fill_38 rfl hl (by decide) rfl (fun ls hl => ?_)
      refine lv_iload_n hx hb dX1_fill_39 rfl (lv_at hl 0 rfl) ?_
      refine lv_if_le (tgt := 87) hx hb dX1_fill_40 (by decide) (fun c_40 => ?_) (fun c_40 => ?_)
      · skip
        exact g_vret hx hb hr hlocks hK hG hS dX1_fill_87 ⟨rfl, (by first | (simp only [s_fill, s_fillT, s_rest, c_10, c_17, c_40, if_true, if_false, not_true_eq_false, not_false_eq_true]; done) | (simp [s_fill, s_fillT, s_rest, c_10, c_17, c_40]; done) | rfl)⟩
      · skip
        refine lv_aload_n hx hb dX1_fill_43 rfl (lv_at hl 2 rfl) ?_
        refine g_get (ci := 1) (C := RX1) (T := TX1) (M := 6) hx hb hts hinX1 hown hK hG i_q0_0 sW_o rfl 2 (by decide) hf18 rfl rfl dX1_fill_44 ?_
        refine lv_bipush (v := 10) hx hb dX1_fill_47 (by decide) ?_
        refine lv_icmp_ge (tgt := 87) hx hb dX1_fill_49 (by decide) (fun c_49 => ?_) (fun c_49 => ?_)
        · skip
          have c_49 : 10 ≤ (sN v) := (nI_leI (a := 10) (b := sN v) (by omega) (by omega)).mp c_49
          exact g_vret hx hb hr hlocks hK hG hS dX1_fill_87 ⟨rfl, (by first | (simp only [s_fill, s_fillT, s_rest, c_10, c_17, c_40, c_49, if_true, if_false, not_true_eq_false, not_false_eq_true]; done) | (simp [s_fill, s_fillT, s_rest, c_10, c_17, c_40, c_49]; done) | rfl)⟩
        · skip
          have c_49 : ¬ 10 ≤ (sN v) := fun h9 => c_49 ((nI_leI (a := 10) (b := sN v) (by omega) (by omega)).mpr h9)
          refine lv_aload_n hx hb dX1_fill_52 rfl (lv_at hl 2 rfl) ?_
          refine g_get (ci := 1) (C := RX1) (T := TX1) (M := 6) hx hb hts hinX1 hown hK hG i_q0_0 sW_o rfl 0 (by decide) hf9 rfl rfl dX1_fill_53 ?_
          refine lv_aload_n hx hb dX1_fill_56 rfl (lv_at hl 2 rfl) ?_
          refine g_get (ci := 1) (C := RX1) (T := TX1) (M := 6) hx hb hts hinX1 hown hK hG i_q0_0 sW_o rfl 2 (by decide) hf18 rfl rfl dX1_fill_57 ?_
          refine lv_iload_n hx hb dX1_fill_60 rfl (lv_at hl 0 rfl) ?_
          refine g_iast hx hb hK hG hS i_q0_1 sW_t (k := sN v) rfl (by omega) (by decide) dX1_fill_61 (fun H locs hG hS => ?_)
          have hG : GW D N L (gA N L s.heap.size) (sW cy L F b (upd (upd (sT v) ((sN v) - 1) (((sT v) ((sN v) - 1)) + (s_top v a))) (sN v) (a - (s_top v a)), sA v, sN v, sP v, sC v, sK v)) H := hG.to sW_ut
          refine lv_aload_n hx hb dX1_fill_62 rfl (lv_at hl 2 rfl) ?_
          refine g_get (ci := 1) (C := RX1) (T := TX1) (M := 6) hx hb hts hinX1 hown hK hG i_q0_0 sW_o rfl 1 (by decide) hf15 rfl rfl dX1_fill_63 ?_
          refine lv_aload_n hx hb dX1_fill_66 rfl (lv_at hl 2 rfl) ?_
          refine g_get (ci := 1) (C := RX1) (T := TX1) (M := 6) hx hb hts hinX1 hown hK hG i_q0_0 sW_o rfl 2 (by decide) hf18 rfl rfl dX1_fill_67 ?_
          refine lv_iconst (v := 0) hx hb dX1_fill_70 (by decide) ?_
          refine g_iast hx hb hK hG hS i_q0_2 sW_a (k := sN v) rfl (by omega) (by decide) dX1_fill_71 (fun H locs hG hS => ?_)
          have hG : GW D N L (gA N L s.heap.size) (sW cy L F b (upd (upd (sT v) ((sN v) - 1) (((sT v) ((sN v) - 1)) + (s_top v a))) (sN v) (a - (s_top v a)), upd (sA v) (sN v) 0, sN v, sP v, sC v, sK v)) H := hG.to sW_ua
          refine lv_aload_n hx hb dX1_fill_72 rfl (lv_at hl 2 rfl) ?_
          refine lv_dup hx hb dX1_fill_73 rfl ?_
          refine g_get (ci := 1) (C := RX1) (T := TX1) (M := 6) hx hb hts hinX1 hown hK hG i_q0_0 sW_o rfl 2 (by decide) hf18 rfl rfl dX1_fill_74 ?_
          refine lv_iconst (v := 1) hx hb dX1_fill_77 (by decide) ?_
          refine lv_iadd hx hb dX1_fill_78 ?_
          refine lv_toN (k := (sN v) + 1) (nI_add (sN v) 1) ?_
          refine g_put (ci := 1) (C := RX1) (T := TX1) (M := 6) (ty := .int) hx hb hts hinX1 tyX1 tyX1_ok nmX1 hown hK hG hS i_q0_0 sW_o rfl 2 (by decide) hf18 rfl rfl rfl rfl rfl (Nat.le_of_ble_eq_true rfl) dX1_fill_79 rfl (fun H locs hG hS => ?_)
          have hG : GW D N L (gA N L s.heap.size) (sW cy L F b (upd (upd (sT v) ((sN v) - 1) (((sT v) ((sN v) - 1)) + (s_top v a))) (sN v) (a - (s_top v a)), upd (sA v) (sN v) 0, (sN v) + 1, sP v, sC v, sK v)) H := hG.to sW_uo
          refine lv_aload_n hx hb dX1_fill_82 rfl (lv_at hl 2 rfl) ?_
          refine lv_iconst (v := 0) hx hb dX1_fill_83 (by decide) ?_
          refine g_put (ci := 1) (C := RX1) (T := TX1) (M := 6) (ty := .int) hx hb hts hinX1 tyX1 tyX1_ok nmX1 hown hK hG hS i_q0_0 sW_o rfl 5 (by decide) hf28 rfl rfl rfl rfl rfl (Nat.le_of_ble_eq_true rfl) dX1_fill_84 rfl (fun H locs hG hS => ?_)
          have hG : GW D N L (gA N L s.heap.size) (sW cy L F b (upd (upd (sT v) ((sN v) - 1) (((sT v) ((sN v) - 1)) + (s_top v a))) (sN v) (a - (s_top v a)), upd (sA v) (sN v) 0, (sN v) + 1, sP v, sC v, 0)) H := hG.to sW_uo
          exact g_vret hx hb hr hlocks hK hG hS dX1_fill_87 ⟨rfl, (by first | (simp only [s_fill, s_fillT, s_rest, c_10, c_17, c_40, c_49, if_true, if_false, not_true_eq_false, not_false_eq_true]; done) | (simp [s_fill, s_fillT, s_rest, c_10, c_17, c_40, c_49]; done) | rfl)⟩
set_option maxHeartbeats 4000000 in
set_option maxRecDepth 100000 in
theorem k_X1_takeFromLowest (l : Launch) (D : va_G) (cy : Nat → ClassId) (N : Nat) (L : Nat → Nat) (F : Nat → va_E) (b : Nat) (v : ST) (hb : b + 3 ≤ N)  (o : Int32) (hn : sN v ≤ 10) (hn1 : 1 ≤ sN v) : GM l D cy N L yX1_takeFromLowest wsX1_takeFromLowest ({ frames := 0, cells := 0, slots := 0, locals := 0 }) [.ref (L b), .int o] (sW cy L F b v) (none) (sW cy L F b (s_take v o)) := by
  refine GM.ofW (cc := cX1_takeFromLowest) (maxL := 3) (ret := none) (by decide) rfl (Nat.le_of_ble_eq_true rfl) ?_
  intro p e s m below meth c ls hx hb hr hts hown hlocks hml hK hA hG hS hl
  have hl : lv_has ls 3 [(0, .ref (L b)), (1, .int o)] := hl
  have i_q0_0 : b < N := by omega
  have i_q0_1 : b + 1 < N := by omega
  have i_q0_2 : b + 2 < N := by omega
  have hf9 := hts (.fieldLink RX1 9 "SiloPads$Silo" "tonnes" "[I") (by decide +kernel)
  have hinX1 : ∀ w ∈ u_ws RX1 TX1 6, w ∈ wsX1_takeFromLowest := by decide +kernel
  have hf18 := hts (.fieldLink RX1 18 "SiloPads$Silo" "layers" "I") (by decide +kernel)
  have hf25 := hts (.fieldLink RX1 25 "SiloPads$Silo" "arch" "I") (by decide +kernel)
  have hf15 := hts (.fieldLink RX1 15 "SiloPads$Silo" "ages" "[I") (by decide +kernel)
  refine lv_aload_n hx hb dX1_takeFromLowest_0 rfl (lv_at hl 0 rfl) ?_
  refine g_get (ci := 1) (C := RX1) (T := TX1) (M := 6) hx hb hts hinX1 hown hK hG i_q0_0 sW_o rfl 0 (by decide) hf9 rfl rfl dX1_takeFromLowest_1 ?_
  refine lv_iconst (v := 0) hx hb dX1_takeFromLowest_4 (by decide) ?_
  refine lv_dup2_11 hx hb dX1_takeFromLowest_5 rfl rfl ?_
  refine g_iald hx hb hK hG i_q0_1 sW_t (k := 0) rfl (by omega) (by decide) dX1_takeFromLowest_6 ?_
  refine lv_iload_n hx hb dX1_takeFromLowest_7 rfl (lv_at hl 1 rfl) ?_
  refine lv_isub hx hb dX1_takeFromLowest_8 ?_
  refine g_iast hx hb hK hG hS i_q0_1 sW_t (k := 0) rfl (by omega) (by decide) dX1_takeFromLowest_9 (fun H locs hG hS => ?_)
  have hG : GW D N L (gA N L s.heap.size) (sW cy L F b (upd (sT v) 0 (((sT v) 0) - o), sA v, sN v, sP v, sC v, sK v)) H := hG.to sW_ut
  refine lv_aload_n hx hb dX1_takeFromLowest_10 rfl (lv_at hl 0 rfl) ?_
  refine g_get (ci := 1) (C := RX1) (T := TX1) (M := 6) hx hb hts hinX1 hown hK hG i_q0_0 sW_o rfl 0 (by decide) hf9 rfl rfl dX1_takeFromLowest_11 ?_
  refine lv_iconst (v := 0) hx hb dX1_takeFromLowest_14 (by decide) ?_
  refine g_iald hx hb hK hG i_q0_1 sW_t (k := 0) rfl (by omega) (by decide) dX1_takeFromLowest_15 ?_
  refine lv_if_le (tgt := 20) hx hb dX1_takeFromLowest_16 (by decide) (fun c_16 => ?_) (fun c_16 => ?_)
  · skip
    refine lv_iconst (v := 1) hx hb dX1_takeFromLowest_20 (by decide) ?_
    refine lv_istore_n (lv' := [(2, .int 1), (0, .ref (L b)), (1, .int o)]) hx hb dX1_takeFromLowest_21 rfl hl (by decide) rfl (fun ls hl => ?_)
    refine W.loop (σ := Nat) (fun i H locs ls => (1 ≤ i ∧ i ≤ sN v) ∧ GW D N L (gA N L s.heap.size) (sW cy L F b (cpN (upd (sT v) 0 (sT v 0 - o)) (upd (sT v) 0 (sT v 0 - o)) (0) (1) (i - 1), cpN (sA v) (sA v) (0) (1) (i - 1), sN v, sP v, sC v, sK v)) H ∧ va_S (gA N L s.heap.size) s.heap H locs ∧ lv_has ls 3 [(2, .int (nI i)), (0, .ref (L b)), (1, .int o)]) (fun i => sN v - i) 1 ⟨by omega, hG.to (by rw [cpN_0, cpN_0]), hS, lv_to (lv_sub hl [0, 1, 2] rfl) (rfl)⟩ ?_
    intro i H locs ls hP9 ih22
    obtain ⟨⟨hi8, hi9⟩, hG, hS, hl⟩ := hP9
    refine lv_iload_n hx hb dX1_takeFromLowest_22 rfl (lv_at hl 0 rfl) ?_
    refine lv_aload_n hx hb dX1_takeFromLowest_23 rfl (lv_at hl 1 rfl) ?_
    refine g_get (ci := 1) (C := RX1) (T := TX1) (M := 6) hx hb hts hinX1 hown hK hG i_q0_0 sW_o rfl 2 (by decide) hf18 rfl rfl dX1_takeFromLowest_24 ?_
    refine lv_icmp_ge (tgt := 64) hx hb dX1_takeFromLowest_27 (by decide) (fun c_27 => ?_) (fun c_27 => ?_)
    · skip
      have c_27 : (sN v) ≤ i := (nI_leI (a := sN v) (b := i) (by omega) (by omega)).mp c_27
      have hie : i = sN v := by omega
      refine lv_aload_n hx hb dX1_takeFromLowest_64 rfl (lv_at hl 1 rfl) ?_
      refine lv_dup hx hb dX1_takeFromLowest_65 rfl ?_
      refine g_get (ci := 1) (C := RX1) (T := TX1) (M := 6) hx hb hts hinX1 hown hK hG i_q0_0 sW_o rfl 2 (by decide) hf18 rfl rfl dX1_takeFromLowest_66 ?_
      refine lv_iconst (v := 1) hx hb dX1_takeFromLowest_69 (by decide) ?_
      refine lv_isub hx hb dX1_takeFromLowest_70 ?_
      refine lv_toN (k := (sN v) - 1) (pk_sub (a := sN v) (b := 1) (by omega)) ?_
      refine g_put (ci := 1) (C := RX1) (T := TX1) (M := 6) (ty := .int) hx hb hts hinX1 tyX1 tyX1_ok nmX1 hown hK hG hS i_q0_0 sW_o rfl 2 (by decide) hf18 rfl rfl rfl rfl rfl (Nat.le_of_ble_eq_true rfl) dX1_takeFromLowest_71 rfl (fun H locs hG hS => ?_)
      have hG : GW D N L (gA N L s.heap.size) (sW cy L F b (cpN (upd (sT v) 0 (sT v 0 - o)) (upd (sT v) 0 (sT v 0 - o)) (0) (1) (i - 1), cpN (sA v) (sA v) (0) (1) (i - 1), (sN v) - 1, sP v, sC v, sK v)) H := hG.to sW_uo
      refine lv_aload_n hx hb dX1_takeFromLowest_74 rfl (lv_at hl 1 rfl) ?_
      refine g_get (ci := 1) (C := RX1) (T := TX1) (M := 6) hx hb hts hinX1 hown hK hG i_q0_0 sW_o rfl 4 (by decide) hf25 rfl rfl dX1_takeFromLowest_75 ?_
      refine lv_iconst (v := 1) hx hb dX1_takeFromLowest_78 (by decide) ?_
      refine lv_icmp_ne (tgt := 87) hx hb dX1_takeFromLowest_79 (by decide) (fun c_79 => ?_) (fun c_79 => ?_)
      · skip
        exact g_vret hx hb hr hlocks hK hG hS dX1_takeFromLowest_87 ⟨rfl, (by first | (subst hie; simp only [s_take, s_gone, c_16, c_27, c_79, if_true, if_false]; done) | (simp only [s_take, c_16, c_27, c_79, if_true, if_false]; done))⟩
      · skip
        refine lv_aload_n hx hb dX1_takeFromLowest_82 rfl (lv_at hl 1 rfl) ?_
        refine lv_iconst (v := 2) hx hb dX1_takeFromLowest_83 (by decide) ?_
        refine g_put (ci := 1) (C := RX1) (T := TX1) (M := 6) (ty := .int) hx hb hts hinX1 tyX1 tyX1_ok nmX1 hown hK hG hS i_q0_0 sW_o rfl 4 (by decide) hf25 rfl rfl rfl rfl rfl (Nat.le_of_ble_eq_true rfl) dX1_takeFromLowest_84 rfl (fun H locs hG hS => ?_)
        have hG : GW D N L (gA N L s.heap.size) (sW cy L F b (cpN (upd (sT v) 0 (sT v 0 - o)) (upd (sT v) 0 (sT v 0 - o)) (0) (1) (i - 1), cpN (sA v) (sA v) (0) (1) (i - 1), (sN v) - 1, sP v, 2, sK v)) H := hG.to sW_uo
        exact g_vret hx hb hr hlocks hK hG hS dX1_takeFromLowest_87 ⟨rfl, (by first | (subst hie; simp only [s_take, s_gone, c_16, c_27, eq_true c_79, if_true, if_false]; done) | (simp only [s_take, c_16, c_27, eq_true c_79, if_true, if_false]; done))⟩
    · skip
      have c_27 : ¬ (sN v) ≤ i := fun h9 => c_27 ((nI_leI (a := sN v) (b := i) (by omega) (by omega)).mpr h9)
      refine lv_aload_n hx hb dX1_takeFromLowest_30 rfl (lv_at hl 1 rfl) ?_
      refine g_get (ci := 1) (C := RX1) (T := TX1) (M := 6) hx hb hts hinX1 hown hK hG i_q0_0 sW_o rfl 0 (by decide) hf9 rfl rfl dX1_takeFromLowest_31 ?_
      refine lv_iload_n hx hb dX1_takeFromLowest_34 rfl (lv_at hl 0 rfl) ?_
      refine lv_iconst (v := 1) hx hb dX1_takeFromLowest_35 (by decide) ?_
      refine lv_isub hx hb dX1_takeFromLowest_36 ?_
      refine lv_toN (k := i - 1) (pk_sub (a := i) (b := 1) (by omega)) ?_
      refine lv_aload_n hx hb dX1_takeFromLowest_37 rfl (lv_at hl 1 rfl) ?_
      refine g_get (ci := 1) (C := RX1) (T := TX1) (M := 6) hx hb hts hinX1 hown hK hG i_q0_0 sW_o rfl 0 (by decide) hf9 rfl rfl dX1_takeFromLowest_38 ?_
      refine lv_iload_n hx hb dX1_takeFromLowest_41 rfl (lv_at hl 0 rfl) ?_
      refine g_iald hx hb hK hG i_q0_1 sW_t (k := i) rfl (by omega) (by decide) dX1_takeFromLowest_42 ?_
      refine g_iast hx hb hK hG hS i_q0_1 sW_t (k := i - 1) rfl (by omega) (by decide) dX1_takeFromLowest_43 (fun H locs hG hS => ?_)
      have hG : GW D N L (gA N L s.heap.size) (sW cy L F b (upd (cpN (upd (sT v) 0 (sT v 0 - o)) (upd (sT v) 0 (sT v 0 - o)) (0) (1) (i - 1)) (i - 1) ((cpN (upd (sT v) 0 (sT v 0 - o)) (upd (sT v) 0 (sT v 0 - o)) (0) (1) (i - 1)) i), cpN (sA v) (sA v) (0) (1) (i - 1), sN v, sP v, sC v, sK v)) H := hG.to sW_ut
      refine lv_aload_n hx hb dX1_takeFromLowest_44 rfl (lv_at hl 1 rfl) ?_
      refine g_get (ci := 1) (C := RX1) (T := TX1) (M := 6) hx hb hts hinX1 hown hK hG i_q0_0 sW_o rfl 1 (by decide) hf15 rfl rfl dX1_takeFromLowest_45 ?_
      refine lv_iload_n hx hb dX1_takeFromLowest_48 rfl (lv_at hl 0 rfl) ?_
      refine lv_iconst (v := 1) hx hb dX1_takeFromLowest_49 (by decide) ?_
      refine lv_isub hx hb dX1_takeFromLowest_50 ?_
      refine lv_toN (k := i - 1) (pk_sub (a := i) (b := 1) (by omega)) ?_
      refine lv_aload_n hx hb dX1_takeFromLowest_51 rfl (lv_at hl 1 rfl) ?_
      refine g_get (ci := 1) (C := RX1) (T := TX1) (M := 6) hx hb hts hinX1 hown hK hG i_q0_0 sW_o rfl 1 (by decide) hf15 rfl rfl dX1_takeFromLowest_52 ?_
      refine lv_iload_n hx hb dX1_takeFromLowest_55 rfl (lv_at hl 0 rfl) ?_
      refine g_iald hx hb hK hG i_q0_2 sW_a (k := i) rfl (by omega) (by decide) dX1_takeFromLowest_56 ?_
      refine g_iast hx hb hK hG hS i_q0_2 sW_a (k := i - 1) rfl (by omega) (by decide) dX1_takeFromLowest_57 (fun H locs hG hS => ?_)
      have hG : GW D N L (gA N L s.heap.size) (sW cy L F b (upd (cpN (upd (sT v) 0 (sT v 0 - o)) (upd (sT v) 0 (sT v 0 - o)) (0) (1) (i - 1)) (i - 1) ((cpN (upd (sT v) 0 (sT v 0 - o)) (upd (sT v) 0 (sT v 0 - o)) (0) (1) (i - 1)) i), upd (cpN (sA v) (sA v) (0) (1) (i - 1)) (i - 1) ((cpN (sA v) (sA v) (0) (1) (i - 1)) i), sN v, sP v, sC v, sK v)) H := hG.to sW_ua
      refine lv_iinc (v := nI (i + 1)) (lv' := [(2, .int (nI (i + 1))), (0, .ref (L b)), (1, .int o)]) hx hb dX1_takeFromLowest_58 hl (k := 0) rfl (nI_add i 1) (by decide) rfl (fun ls hl => ?_)
      refine lv_goto (tgt := 22) hx hb dX1_takeFromLowest_61 (by decide) ?_
      have hl : lv_has ls 3 [(2, .int (nI (i + 1))), (0, .ref (L b)), (1, .int o)] := lv_sub hl [0, 1, 2] rfl
      exact ih22 (i + 1) _ _ _ (by omega) ⟨by omega, hG.to (by rw [cpN_own (by omega), cpN_own (by omega), s_take_step hi8, s_take_step hi8]), hS, lv_to hl (rfl)⟩
  · skip
    exact g_vret hx hb hr hlocks hK hG hS dX1_takeFromLowest_19 ⟨rfl, (by first | (subst hie; simp only [s_take, s_gone, c_16, if_true, if_false]; done) | (simp only [s_take, c_16, if_true, if_false]; done))⟩
set_option maxHeartbeats 4000000 in
set_option maxRecDepth 100000 in
theorem k_X1_makeOlder (l : Launch) (D : va_G) (cy : Nat → ClassId) (N : Nat) (L : Nat → Nat) (F : Nat → va_E) (b : Nat) (v : ST) (hb : b + 3 ≤ N)   (hn : sN v ≤ 10) : GM l D cy N L yX1_makeOlder wsX1_makeOlder ({ frames := 0, cells := 0, slots := 0, locals := 0 }) [.ref (L b)] (sW cy L F b v) (none) (sW cy L F b (sT v, s_old (sA v) (sN v), sN v, sP v, sC v, sK v)) := by
  refine GM.ofW (cc := cX1_makeOlder) (maxL := 2) (ret := none) (by decide) rfl (Nat.le_of_ble_eq_true rfl) ?_
  intro p e s m below meth c ls hx hb hr hts hown hlocks hml hK hA hG hS hl
  have hl : lv_has ls 2 [(0, .ref (L b))] := hl
  have i_q0_0 : b < N := by omega
  have i_q0_1 : b + 1 < N := by omega
  have i_q0_2 : b + 2 < N := by omega
  have hf18 := hts (.fieldLink RX1 18 "SiloPads$Silo" "layers" "I") (by decide +kernel)
  have hinX1 : ∀ w ∈ u_ws RX1 TX1 6, w ∈ wsX1_makeOlder := by decide +kernel
  have hf15 := hts (.fieldLink RX1 15 "SiloPads$Silo" "ages" "[I") (by decide +kernel)
  refine lv_iconst (v := 0) hx hb dX1_makeOlder_0 (by decide) ?_
  refine lv_istore_n (lv' := [(1, .int 0), (0, .ref (L b))]) hx hb dX1_makeOlder_1 rfl hl (by decide) rfl (fun ls hl => ?_)
  refine W.loop (σ := Nat) (fun i H locs ls => (i ≤ sN v) ∧ GW D N L (gA N L s.heap.size) (sW cy L F b (sT v, s_old (sA v) i, sN v, sP v, sC v, sK v)) H ∧ va_S (gA N L s.heap.size) s.heap H locs ∧ lv_has ls 2 [(1, .int (nI i)), (0, .ref (L b))]) (fun i => sN v - i) 0 ⟨by omega, hG.to (rfl), hS, lv_to (lv_sub hl [0, 1] rfl) (rfl)⟩ ?_
  intro i H locs ls hP9 ih2
  obtain ⟨hi9, hG, hS, hl⟩ := hP9
  refine lv_iload_n hx hb dX1_makeOlder_2 rfl (lv_at hl 0 rfl) ?_
  refine lv_aload_n hx hb dX1_makeOlder_3 rfl (lv_at hl 1 rfl) ?_
  refine g_get (ci := 1) (C := RX1) (T := TX1) (M := 6) hx hb hts hinX1 hown hK hG i_q0_0 sW_o rfl 2 (by decide) hf18 rfl rfl dX1_makeOlder_4 ?_
  refine lv_icmp_ge (tgt := 26) hx hb dX1_makeOlder_7 (by decide) (fun c_7 => ?_) (fun c_7 => ?_)
  · skip
    have c_7 : (sN v) ≤ i := (nI_leI (a := sN v) (b := i) (by omega) (by omega)).mp c_7
    exact g_vret hx hb hr hlocks hK hG hS dX1_makeOlder_26 ⟨rfl, (by rw [show i = sN v by omega])⟩
  · skip
    have c_7 : ¬ (sN v) ≤ i := fun h9 => c_7 ((nI_leI (a := sN v) (b := i) (by omega) (by omega)).mpr h9)
    refine lv_aload_n hx hb dX1_makeOlder_10 rfl (lv_at hl 1 rfl) ?_
    refine g_get (ci := 1) (C := RX1) (T := TX1) (M := 6) hx hb hts hinX1 hown hK hG i_q0_0 sW_o rfl 1 (by decide) hf15 rfl rfl dX1_makeOlder_11 ?_
    refine lv_iload_n hx hb dX1_makeOlder_14 rfl (lv_at hl 0 rfl) ?_
    refine lv_dup2_11 hx hb dX1_makeOlder_15 rfl rfl ?_
    refine g_iald hx hb hK hG i_q0_2 sW_a (k := i) rfl (by omega) (by decide) dX1_makeOlder_16 ?_
    refine lv_iconst (v := 1) hx hb dX1_makeOlder_17 (by decide) ?_
    refine lv_iadd hx hb dX1_makeOlder_18 ?_
    refine g_iast hx hb hK hG hS i_q0_2 sW_a (k := i) rfl (by omega) (by decide) dX1_makeOlder_19 (fun H locs hG hS => ?_)
    have hG : GW D N L (gA N L s.heap.size) (sW cy L F b (sT v, upd (s_old (sA v) i) i (((s_old (sA v) i) i) + 1), sN v, sP v, sC v, sK v)) H := hG.to sW_ua
    refine lv_iinc (v := nI (i + 1)) (lv' := [(1, .int (nI (i + 1))), (0, .ref (L b))]) hx hb dX1_makeOlder_20 hl (k := 0) rfl (nI_add i 1) (by decide) rfl (fun ls hl => ?_)
    refine lv_goto (tgt := 2) hx hb dX1_makeOlder_23 (by decide) ?_
    have hl : lv_has ls 2 [(1, .int (nI (i + 1))), (0, .ref (L b))] := lv_sub hl [0, 1] rfl
    exact ih2 (i + 1) _ _ _ (by omega) ⟨by omega, hG.to (rfl), hS, lv_to hl (rfl)⟩
set_option maxHeartbeats 4000000 in
set_option maxRecDepth 100000 in
theorem k_X1_makeLowestYounger (l : Launch) (D : va_G) (cy : Nat → ClassId) (N : Nat) (L : Nat → Nat) (F : Nat → va_E) (b : Nat) (v : ST) (hb : b + 3 ≤ N)    : GM l D cy N L yX1_makeLowestYounger wsX1_makeLowestYounger ({ frames := 1, cells := 0, slots := 0, locals := 21 }) [.ref (L b)] (sW cy L F b v) (none) (sW cy L F b (sT v, s_young (sA v), sN v, sP v, sC v, sK v)) := by
  refine GM.ofW (cc := cX1_makeLowestYounger) (maxL := 1) (ret := none) (by decide) rfl (Nat.le_of_ble_eq_true rfl) ?_
  intro p e s m below meth c ls hx hb hr hts hown hlocks hml hK hA hG hS hl
  have hl : lv_has ls 1 [(0, .ref (L b))] := hl
  have i_q0_0 : b < N := by omega
  have i_q0_1 : b + 1 < N := by omega
  have i_q0_2 : b + 2 < N := by omega
  have hf15 := hts (.fieldLink RX1 15 "SiloPads$Silo" "ages" "[I") (by decide +kernel)
  have hinX1 : ∀ w ∈ u_ws RX1 TX1 6, w ∈ wsX1_makeLowestYounger := by decide +kernel
  have hm48 := hts (.methodLink RX1 48 Lib.Math.max.name) (by decide +kernel)
  have hmsmax := hts (.static Lib.Math.max.name) (by decide +kernel)
  have hmcmax := hts (.code Lib.Math.max.name Lib.Math.max.code 2 (some .int)) (by decide +kernel)
  have hmi := hts (.initialized "java/lang/Math") (by decide +kernel)
  refine lv_aload_n hx hb dX1_makeLowestYounger_0 rfl (lv_at hl 0 rfl) ?_
  refine g_get (ci := 1) (C := RX1) (T := TX1) (M := 6) hx hb hts hinX1 hown hK hG i_q0_0 sW_o rfl 1 (by decide) hf15 rfl rfl dX1_makeLowestYounger_1 ?_
  refine lv_iconst (v := 0) hx hb dX1_makeLowestYounger_4 (by decide) ?_
  refine lv_iconst (v := 0) hx hb dX1_makeLowestYounger_5 (by decide) ?_
  refine lv_aload_n hx hb dX1_makeLowestYounger_6 rfl (lv_at hl 0 rfl) ?_
  refine g_get (ci := 1) (C := RX1) (T := TX1) (M := 6) hx hb hts hinX1 hown hK hG i_q0_0 sW_o rfl 1 (by decide) hf15 rfl rfl dX1_makeLowestYounger_7 ?_
  refine lv_iconst (v := 0) hx hb dX1_makeLowestYounger_10 (by decide) ?_
  refine g_iald hx hb hK hG i_q0_2 sW_a (k := 0) rfl (by omega) (by decide) dX1_makeLowestYounger_11 ?_
  refine lv_iconst (v := 1) hx hb dX1_makeLowestYounger_12 (by decide) ?_
  refine lv_isub hx hb dX1_makeLowestYounger_13 ?_
  refine va_mmax hx hb (hml.trans hl.1.symm) hown hm48 hmsmax hmi hmcmax (Nat.le_of_ble_eq_true rfl) (Nat.le_of_ble_eq_true rfl) (Nat.zero_le _) (Nat.zero_le _) dX1_makeLowestYounger_14 ?_
  refine g_iast hx hb hK hG hS i_q0_2 sW_a (k := 0) rfl (by omega) (by decide) dX1_makeLowestYounger_17 (fun H locs hG hS => ?_)
  have hG : GW D N L (gA N L s.heap.size) (sW cy L F b (sT v, upd (sA v) 0 (if 0 < ((sA v) 0) - 1 then ((sA v) 0) - 1 else 0), sN v, sP v, sC v, sK v)) H := hG.to sW_ua
  exact g_vret hx hb hr hlocks hK hG hS dX1_makeLowestYounger_18 ⟨rfl, (by rfl)⟩
set_option maxHeartbeats 4000000 in
set_option maxRecDepth 100000 in
theorem k_X1_becomeLike (l : Launch) (D : va_G) (cy : Nat → ClassId) (N : Nat) (L : Nat → Nat) (F : Nat → va_E) (b2 : Nat) (v2 : ST) (b : Nat) (v : ST) (hb : b + 3 ≤ N) (hb2 : b2 + 3 ≤ N) (hd : b2 + 3 ≤ b ∨ b + 3 ≤ b2)    : GM l D cy N L yX1_becomeLike wsX1_becomeLike ({ frames := 0, cells := 0, slots := 0, locals := 0 }) [.ref (L b), .ref (L b2)] (sW cy L (sW cy L F b2 v2) b v) (none) (sW cy L (sW cy L F b2 v2) b (cpN (sT v) (sT v2) (0) (0) 10, cpN (sA v) (sA v2) (0) (0) 10, sN v2, sP v2, sC v2, sK v2)) := by
  refine GM.ofW (cc := cX1_becomeLike) (maxL := 3) (ret := none) (by decide) rfl (Nat.le_of_ble_eq_true rfl) ?_
  intro p e s m below meth c ls hx hb hr hts hown hlocks hml hK hA hG hS hl
  have hl : lv_has ls 3 [(0, .ref (L b)), (1, .ref (L b2))] := hl
  have i_q0_0 : b2 < N := by omega
  have i_q0_1 : b2 + 1 < N := by omega
  have i_q0_2 : b2 + 2 < N := by omega
  have i_q1_0 : b < N := by omega
  have i_q1_1 : b + 1 < N := by omega
  have i_q1_2 : b + 2 < N := by omega
  have hf18 := hts (.fieldLink RX1 18 "SiloPads$Silo" "layers" "I") (by decide +kernel)
  have hinX1 : ∀ w ∈ u_ws RX1 TX1 6, w ∈ wsX1_becomeLike := by decide +kernel
  have hf22 := hts (.fieldLink RX1 22 "SiloPads$Silo" "padsOn" "I") (by decide +kernel)
  have hf25 := hts (.fieldLink RX1 25 "SiloPads$Silo" "arch" "I") (by decide +kernel)
  have hf28 := hts (.fieldLink RX1 28 "SiloPads$Silo" "shakes" "I") (by decide +kernel)
  have hf9 := hts (.fieldLink RX1 9 "SiloPads$Silo" "tonnes" "[I") (by decide +kernel)
  have hf15 := hts (.fieldLink RX1 15 "SiloPads$Silo" "ages" "[I") (by decide +kernel)
  refine lv_iconst (v := 0) hx hb dX1_becomeLike_0 (by decide) ?_
  refine lv_istore_n (lv' := [(2, .int 0), (0, .ref (L b)), (1, .ref (L b2))]) hx hb dX1_becomeLike_1 rfl hl (by decide) rfl (fun ls hl => ?_)
  refine W.loop (σ := Nat) (fun k H locs ls => (k ≤ 10) ∧ GW D N L (gA N L s.heap.size) (sW cy L (sW cy L F b2 v2) b (cpN (sT v) (sT v2) (0) (0) k, cpN (sA v) (sA v2) (0) (0) k, sN v, sP v, sC v, sK v)) H ∧ va_S (gA N L s.heap.size) s.heap H locs ∧ lv_has ls 3 [(2, .int (nI k)), (0, .ref (L b)), (1, .ref (L b2))]) (fun k => 10 - k) 0 ⟨by omega, hG.to (by rw [cpN_0, cpN_0]), hS, lv_to (lv_sub hl [0, 1, 2] rfl) (rfl)⟩ ?_
  intro k H locs ls hP9 ih2
  obtain ⟨hk9, hG, hS, hl⟩ := hP9
  refine lv_iload_n hx hb dX1_becomeLike_2 rfl (lv_at hl 0 rfl) ?_
  refine lv_bipush (v := 10) hx hb dX1_becomeLike_3 (by decide) ?_
  refine lv_icmp_ge (tgt := 38) hx hb dX1_becomeLike_5 (by decide) (fun c_5 => ?_) (fun c_5 => ?_)
  · skip
    have c_5 : 10 ≤ k := (nI_leI (a := 10) (b := k) (by omega) (by omega)).mp c_5
    refine lv_aload_n hx hb dX1_becomeLike_38 rfl (lv_at hl 1 rfl) ?_
    refine lv_aload_n hx hb dX1_becomeLike_39 rfl (lv_at hl 2 rfl) ?_
    refine g_get (ci := 1) (C := RX1) (T := TX1) (M := 6) hx hb hts hinX1 hown hK hG i_q0_0 (by rw [sW_n (by omega)]; exact sW_o) rfl 2 (by decide) hf18 rfl rfl dX1_becomeLike_40 ?_
    refine g_put (ci := 1) (C := RX1) (T := TX1) (M := 6) (ty := .int) hx hb hts hinX1 tyX1 tyX1_ok nmX1 hown hK hG hS i_q1_0 sW_o rfl 2 (by decide) hf18 rfl rfl rfl rfl rfl (Nat.le_of_ble_eq_true rfl) dX1_becomeLike_43 rfl (fun H locs hG hS => ?_)
    have hG : GW D N L (gA N L s.heap.size) (sW cy L (sW cy L F b2 v2) b (cpN (sT v) (sT v2) (0) (0) k, cpN (sA v) (sA v2) (0) (0) k, sN v2, sP v, sC v, sK v)) H := hG.to sW_uo
    refine lv_aload_n hx hb dX1_becomeLike_46 rfl (lv_at hl 1 rfl) ?_
    refine lv_aload_n hx hb dX1_becomeLike_47 rfl (lv_at hl 2 rfl) ?_
    refine g_get (ci := 1) (C := RX1) (T := TX1) (M := 6) hx hb hts hinX1 hown hK hG i_q0_0 (by rw [sW_n (by omega)]; exact sW_o) rfl 3 (by decide) hf22 rfl rfl dX1_becomeLike_48 ?_
    refine g_put (ci := 1) (C := RX1) (T := TX1) (M := 6) (ty := .int) hx hb hts hinX1 tyX1 tyX1_ok nmX1 hown hK hG hS i_q1_0 sW_o rfl 3 (by decide) hf22 rfl rfl rfl rfl rfl (Nat.le_of_ble_eq_true rfl) dX1_becomeLike_51 rfl (fun H locs hG hS => ?_)
    have hG : GW D N L (gA N L s.heap.size) (sW cy L (sW cy L F b2 v2) b (cpN (sT v) (sT v2) (0) (0) k, cpN (sA v) (sA v2) (0) (0) k, sN v2, sP v2, sC v, sK v)) H := hG.to sW_uo
    refine lv_aload_n hx hb dX1_becomeLike_54 rfl (lv_at hl 1 rfl) ?_
    refine lv_aload_n hx hb dX1_becomeLike_55 rfl (lv_at hl 2 rfl) ?_
    refine g_get (ci := 1) (C := RX1) (T := TX1) (M := 6) hx hb hts hinX1 hown hK hG i_q0_0 (by rw [sW_n (by omega)]; exact sW_o) rfl 4 (by decide) hf25 rfl rfl dX1_becomeLike_56 ?_
    refine g_put (ci := 1) (C := RX1) (T := TX1) (M := 6) (ty := .int) hx hb hts hinX1 tyX1 tyX1_ok nmX1 hown hK hG hS i_q1_0 sW_o rfl 4 (by decide) hf25 rfl rfl rfl rfl rfl (Nat.le_of_ble_eq_true rfl) dX1_becomeLike_59 rfl (fun H locs hG hS => ?_)
    have hG : GW D N L (gA N L s.heap.size) (sW cy L (sW cy L F b2 v2) b (cpN (sT v) (sT v2) (0) (0) k, cpN (sA v) (sA v2) (0) (0) k, sN v2, sP v2, sC v2, sK v)) H := hG.to sW_uo
    refine lv_aload_n hx hb dX1_becomeLike_62 rfl (lv_at hl 1 rfl) ?_
    refine lv_aload_n hx hb dX1_becomeLike_63 rfl (lv_at hl 2 rfl) ?_
    refine g_get (ci := 1) (C := RX1) (T := TX1) (M := 6) hx hb hts hinX1 hown hK hG i_q0_0 (by rw [sW_n (by omega)]; exact sW_o) rfl 5 (by decide) hf28 rfl rfl dX1_becomeLike_64 ?_
    refine g_put (ci := 1) (C := RX1) (T := TX1) (M := 6) (ty := .int) hx hb hts hinX1 tyX1 tyX1_ok nmX1 hown hK hG hS i_q1_0 sW_o rfl 5 (by decide) hf28 rfl rfl rfl rfl rfl (Nat.le_of_ble_eq_true rfl) dX1_becomeLike_67 rfl (fun H locs hG hS => ?_)
    have hG : GW D N L (gA N L s.heap.size) (sW cy L (sW cy L F b2 v2) b (cpN (sT v) (sT v2) (0) (0) k, cpN (sA v) (sA v2) (0) (0) k, sN v2, sP v2, sC v2, sK v2)) H := hG.to sW_uo
    exact g_vret hx hb hr hlocks hK hG hS dX1_becomeLike_70 ⟨rfl, (by rw [show k = 10 by omega])⟩
  · skip
    have c_5 : ¬ 10 ≤ k := fun h9 => c_5 ((nI_leI (a := 10) (b := k) (by omega) (by omega)).mpr h9)
    refine lv_aload_n hx hb dX1_becomeLike_8 rfl (lv_at hl 1 rfl) ?_
    refine g_get (ci := 1) (C := RX1) (T := TX1) (M := 6) hx hb hts hinX1 hown hK hG i_q1_0 sW_o rfl 0 (by decide) hf9 rfl rfl dX1_becomeLike_9 ?_
    refine lv_iload_n hx hb dX1_becomeLike_12 rfl (lv_at hl 0 rfl) ?_
    refine lv_aload_n hx hb dX1_becomeLike_13 rfl (lv_at hl 2 rfl) ?_
    refine g_get (ci := 1) (C := RX1) (T := TX1) (M := 6) hx hb hts hinX1 hown hK hG i_q0_0 (by rw [sW_n (by omega)]; exact sW_o) rfl 0 (by decide) hf9 rfl rfl dX1_becomeLike_14 ?_
    refine lv_iload_n hx hb dX1_becomeLike_17 rfl (lv_at hl 0 rfl) ?_
    refine g_iald hx hb hK hG i_q0_1 (by rw [sW_n (by omega)]; exact sW_t) (k := k) rfl (by omega) (by decide) dX1_becomeLike_18 ?_
    refine g_iast hx hb hK hG hS i_q1_1 sW_t (k := k) rfl (by omega) (by decide) dX1_becomeLike_19 (fun H locs hG hS => ?_)
    have hG : GW D N L (gA N L s.heap.size) (sW cy L (sW cy L F b2 v2) b (upd (cpN (sT v) (sT v2) (0) (0) k) k ((sT v2) k), cpN (sA v) (sA v2) (0) (0) k, sN v, sP v, sC v, sK v)) H := hG.to sW_ut
    refine lv_aload_n hx hb dX1_becomeLike_20 rfl (lv_at hl 1 rfl) ?_
    refine g_get (ci := 1) (C := RX1) (T := TX1) (M := 6) hx hb hts hinX1 hown hK hG i_q1_0 sW_o rfl 1 (by decide) hf15 rfl rfl dX1_becomeLike_21 ?_
    refine lv_iload_n hx hb dX1_becomeLike_24 rfl (lv_at hl 0 rfl) ?_
    refine lv_aload_n hx hb dX1_becomeLike_25 rfl (lv_at hl 2 rfl) ?_
    refine g_get (ci := 1) (C := RX1) (T := TX1) (M := 6) hx hb hts hinX1 hown hK hG i_q0_0 (by rw [sW_n (by omega)]; exact sW_o) rfl 1 (by decide) hf15 rfl rfl dX1_becomeLike_26 ?_
    refine lv_iload_n hx hb dX1_becomeLike_29 rfl (lv_at hl 0 rfl) ?_
    refine g_iald hx hb hK hG i_q0_2 (by rw [sW_n (by omega)]; exact sW_a) (k := k) rfl (by omega) (by decide) dX1_becomeLike_30 ?_
    refine g_iast hx hb hK hG hS i_q1_2 sW_a (k := k) rfl (by omega) (by decide) dX1_becomeLike_31 (fun H locs hG hS => ?_)
    have hG : GW D N L (gA N L s.heap.size) (sW cy L (sW cy L F b2 v2) b (upd (cpN (sT v) (sT v2) (0) (0) k) k ((sT v2) k), upd (cpN (sA v) (sA v2) (0) (0) k) k ((sA v2) k), sN v, sP v, sC v, sK v)) H := hG.to sW_ua
    refine lv_iinc (v := nI (k + 1)) (lv' := [(2, .int (nI (k + 1))), (0, .ref (L b)), (1, .ref (L b2))]) hx hb dX1_becomeLike_32 hl (k := 0) rfl (nI_add k 1) (by decide) rfl (fun ls hl => ?_)
    refine lv_goto (tgt := 2) hx hb dX1_becomeLike_35 (by decide) ?_
    have hl : lv_has ls 3 [(2, .int (nI (k + 1))), (0, .ref (L b)), (1, .ref (L b2))] := lv_sub hl [0, 1, 2] rfl
    exact ih2 (k + 1) _ _ _ (by omega) ⟨by omega, hG.to (by rw [cpN_z, cpN_z]), hS, lv_to hl (rfl)⟩
