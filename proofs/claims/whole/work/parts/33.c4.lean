set_option maxHeartbeats 4000000 in
set_option maxRecDepth 100000 in
theorem k_X2_begin (l : Launch) (D : va_G) (cy : Nat → ClassId) (N : Nat) (L : Nat → Nat) (F : Nat → va_E) (b : Nat) (r : RT) (hb : b < N)    : GM l D cy N L yX2_begin wsX2_begin ({ frames := 0, cells := 0, slots := 0, locals := 0 }) [.ref (L b)] (rW F b r) (none) (rW F b (0, rS r, rH r, rK r, rN r)) := by
  refine GM.ofW (cc := cX2_begin) (maxL := 1) (ret := none) (by decide) rfl (Nat.le_of_ble_eq_true rfl) ?_
  intro p e s m below meth c ls hx hb hr hts hown hlocks hml hK hA hG hS hl
  have hl : lv_has ls 1 [(0, .ref (L b))] := hl
  have i_q0_0 : b < N := by omega
  have hf11 := hts (.fieldLink RX2 11 "SiloPads$TextReader" "place" "I") (by decide +kernel)
  have hinX2 : ∀ w ∈ u_ws RX2 TX2 5, w ∈ wsX2_begin := by decide +kernel
  refine lv_aload_n hx hb dX2_begin_0 rfl (lv_at hl 0 rfl) ?_
  refine lv_iconst (v := 0) hx hb dX2_begin_1 (by decide) ?_
  refine g_put (ci := 2) (C := RX2) (T := TX2) (M := 5) (ty := .int) hx hb hts hinX2 tyX2 tyX2_ok nmX2 hown hK hG hS i_q0_0 rW_o rfl 0 (by decide) hf11 rfl rfl rfl rfl rfl (Nat.le_of_ble_eq_true rfl) dX2_begin_2 rfl (fun H locs hG hS => ?_)
  have hG : GW D N L (gA N L s.heap.size) (rW F b (0, rS r, rH r, rK r, rN r)) _ := hG.to rW_uo
  exact g_vret hx hb hr hlocks hK hG hS dX2_begin_5 ⟨rfl, rfl⟩
set_option maxHeartbeats 4000000 in
set_option maxRecDepth 100000 in
theorem k_X2_isComplete (l : Launch) (D : va_G) (cy : Nat → ClassId) (N : Nat) (L : Nat → Nat) (F : Nat → va_E) (b : Nat) (r : RT) (hb : b < N)    : GM l D cy N L yX2_isComplete wsX2_isComplete ({ frames := 0, cells := 0, slots := 0, locals := 0 }) [.ref (L b)] (rW F b r) (some (.int (r_done r))) (rW F b r) := by
  refine GM.ofW (cc := cX2_isComplete) (maxL := 1) (ret := (some .boolean)) (by decide) rfl (Nat.le_of_ble_eq_true rfl) ?_
  intro p e s m below meth c ls hx hb hr hts hown hlocks hml hK hA hG hS hl
  have hl : lv_has ls 1 [(0, .ref (L b))] := hl
  have i_q0_0 : b < N := by omega
  have hf11 := hts (.fieldLink RX2 11 "SiloPads$TextReader" "place" "I") (by decide +kernel)
  have hinX2 : ∀ w ∈ u_ws RX2 TX2 5, w ∈ wsX2_isComplete := by decide +kernel
  refine lv_aload_n hx hb dX2_isComplete_0 rfl (lv_at hl 0 rfl) ?_
  refine g_get (ci := 2) (C := RX2) (T := TX2) (M := 5) hx hb hts hinX2 hown hK hG i_q0_0 rW_o rfl 0 (by decide) hf11 rfl rfl dX2_isComplete_1 ?_
  refine lv_iconst (v := 5) hx hb dX2_isComplete_4 (by decide) ?_
  refine lv_icmp_ne (tgt := 12) hx hb dX2_isComplete_5 (by decide) (fun c_5 => ?_) (fun c_5 => ?_)
  · skip
    refine lv_iconst (v := 0) hx hb dX2_isComplete_12 (by decide) ?_
    exact g_iret hx hb hr hlocks hK hG hS rfl dX2_isComplete_13 ⟨(congrArg (fun z9 => some (Value.int z9)) (by first | (simp only [r_done, c_5, if_true, if_false, not_true_eq_false, not_false_eq_true]; done) | (simp [r_done, c_5]; done) | rfl)), rfl⟩
  · skip
    refine lv_iconst (v := 1) hx hb dX2_isComplete_8 (by decide) ?_
    refine lv_goto (tgt := 13) hx hb dX2_isComplete_9 (by decide) ?_
    exact g_iret hx hb hr hlocks hK hG hS rfl dX2_isComplete_13 ⟨(congrArg (fun z9 => some (Value.int z9)) (by first | (simp only [r_done, eq_true c_5, if_true, if_false, not_true_eq_false, not_false_eq_true]; done) | (simp [r_done, eq_true c_5]; done) | rfl)), rfl⟩
set_option maxHeartbeats 4000000 in
set_option maxRecDepth 100000 in
theorem k_X2_moveOn (l : Launch) (D : va_G) (cy : Nat → ClassId) (N : Nat) (L : Nat → Nat) (F : Nat → va_E) (b : Nat) (r : RT) (hb : b < N)  (q n : Int32) (hq : q = 0 ∨ q = 1) : GM l D cy N L yX2_moveOn wsX2_moveOn ({ frames := 0, cells := 0, slots := 0, locals := 0 }) [.ref (L b), .int q, .int n] (rW F b r) (some (.int q)) (rW F b (r_move r q n)) := by
  refine GM.ofW (cc := cX2_moveOn) (maxL := 3) (ret := (some .boolean)) (by decide) rfl (Nat.le_of_ble_eq_true rfl) ?_
  intro p e s m below meth c ls hx hb hr hts hown hlocks hml hK hA hG hS hl
  have hl : lv_has ls 3 [(0, .ref (L b)), (1, .int q), (2, .int n)] := hl
  have i_q0_0 : b < N := by omega
  have hf11 := hts (.fieldLink RX2 11 "SiloPads$TextReader" "place" "I") (by decide +kernel)
  have hinX2 : ∀ w ∈ u_ws RX2 TX2 5, w ∈ wsX2_moveOn := by decide +kernel
  refine lv_iload_n hx hb dX2_moveOn_0 rfl (lv_at hl 1 rfl) ?_
  refine lv_if_eq (tgt := 9) hx hb dX2_moveOn_1 (by decide) (fun c_1 => ?_) (fun c_1 => ?_)
  · skip
    refine lv_iload_n hx hb dX2_moveOn_9 rfl (lv_at hl 1 rfl) ?_
    exact g_iret hx hb hr hlocks hK hG hS (by rcases hq with rfl | rfl <;> rfl) dX2_moveOn_10 ⟨rfl, (by first | (simp only [r_move, eq_true c_1, if_true, if_false, not_true_eq_false, not_false_eq_true]; done) | (simp [r_move, eq_true c_1]; done) | rfl)⟩
  · skip
    refine lv_aload_n hx hb dX2_moveOn_4 rfl (lv_at hl 0 rfl) ?_
    refine lv_iload_n hx hb dX2_moveOn_5 rfl (lv_at hl 2 rfl) ?_
    refine g_put (ci := 2) (C := RX2) (T := TX2) (M := 5) (ty := .int) hx hb hts hinX2 tyX2 tyX2_ok nmX2 hown hK hG hS i_q0_0 rW_o rfl 0 (by decide) hf11 rfl rfl rfl rfl rfl (Nat.le_of_ble_eq_true rfl) dX2_moveOn_6 rfl (fun H locs hG hS => ?_)
    have hG : GW D N L (gA N L s.heap.size) (rW F b (n, rS r, rH r, rK r, rN r)) _ := hG.to rW_uo
    refine lv_iload_n hx hb dX2_moveOn_9 rfl (lv_at hl 1 rfl) ?_
    exact g_iret hx hb hr hlocks hK hG hS (by rcases hq with rfl | rfl <;> rfl) dX2_moveOn_10 ⟨rfl, (by first | (simp only [r_move, c_1, if_true, if_false, not_true_eq_false, not_false_eq_true]; done) | (simp [r_move, c_1]; done) | rfl)⟩
set_option maxHeartbeats 4000000 in
set_option maxRecDepth 100000 in
theorem k_X2_takePartStart (l : Launch) (D : va_G) (cy : Nat → ClassId) (N : Nat) (L : Nat → Nat) (F : Nat → va_E) (b : Nat) (r : RT) (hb : b < N)  (a : Int32)  : GM l D cy N L yX2_takePartStart wsX2_takePartStart ({ frames := 1, cells := 0, slots := 0, locals := 22 }) [.ref (L b), .int a] (rW F b r) (some (.int (r_psR a))) (rW F b (r_psS r a)) := by
  refine GM.ofW (cc := cX2_takePartStart) (maxL := 2) (ret := (some .boolean)) (by decide) rfl (Nat.le_of_ble_eq_true rfl) ?_
  intro p e s m below meth c ls hx hb hr hts hown hlocks hml hK hA hG hS hl
  have hl : lv_has ls 2 [(0, .ref (L b)), (1, .int a)] := hl
  have i_q0_0 : b < N := by omega
  have hf15 := hts (.fieldLink RX2 15 "SiloPads$TextReader" "silo" "I") (by decide +kernel)
  have hinX2 : ∀ w ∈ u_ws RX2 TX2 5, w ∈ wsX2_takePartStart := by decide +kernel
  have hf21 := hts (.fieldLink RX2 21 "SiloPads$TextReader" "kind" "I") (by decide +kernel)
  refine lv_iload_n hx hb dX2_takePartStart_0 rfl (lv_at hl 1 rfl) ?_
  refine lv_bipush (v := 43) hx hb dX2_takePartStart_1 (by decide) ?_
  refine lv_icmp_ne (tgt := 18) hx hb dX2_takePartStart_3 (by decide) (fun c_3 => ?_) (fun c_3 => ?_)
  · skip
    refine lv_iload_n hx hb dX2_takePartStart_18 rfl (lv_at hl 1 rfl) ?_
    refine lv_bipush (v := 48) hx hb dX2_takePartStart_19 (by decide) ?_
    refine lv_isub hx hb dX2_takePartStart_21 ?_
    refine g_cSN (As := [.int (a - 48)]) (rest := []) hx hb hml hown hts hK hA hG hS (k_X4_isNoSilo l D cy N L _ (a - 48) ) ⟨va_cnB 1 hts gX2_takePartStart_X4_isNoSilo_n47 rfl rfl rfl (hK.2.1.1 (RX2, 47, yX4_isNoSilo, RX4) (by decide +kernel)) (hts (.initialized RX4) (by decide +kernel)) (by decide +kernel) ⟨Nat.le_of_ble_eq_true rfl, Nat.le_of_ble_eq_true rfl⟩, hts (.static yX4_isNoSilo) (by decide +kernel)⟩ rfl rfl hl.1 (Nat.le_of_ble_eq_true rfl) dX2_takePartStart_22 ⟨Nat.zero_le _, Nat.zero_le _⟩ (fun H locs hG hS => ?_)
    refine lv_if_eq (tgt := 30) hx hb dX2_takePartStart_25 (by decide) (fun c_25 => ?_) (fun c_25 => ?_)
    · skip
      refine lv_aload_n hx hb dX2_takePartStart_30 rfl (lv_at hl 0 rfl) ?_
      refine lv_iload_n hx hb dX2_takePartStart_31 rfl (lv_at hl 1 rfl) ?_
      refine lv_bipush (v := 48) hx hb dX2_takePartStart_32 (by decide) ?_
      refine lv_isub hx hb dX2_takePartStart_34 ?_
      refine g_put (ci := 2) (C := RX2) (T := TX2) (M := 5) (ty := .int) hx hb hts hinX2 tyX2 tyX2_ok nmX2 hown hK hG hS i_q0_0 rW_o rfl 1 (by decide) hf15 rfl rfl rfl rfl rfl (Nat.le_of_ble_eq_true rfl) dX2_takePartStart_35 rfl (fun H locs hG hS => ?_)
      have hG : GW D N L (gA N L s.heap.size) (rW F b (rP r, a - 48, rH r, rK r, rN r)) _ := hG.to rW_uo
      refine lv_aload_n hx hb dX2_takePartStart_38 rfl (lv_at hl 0 rfl) ?_
      refine lv_iconst (v := 1) hx hb dX2_takePartStart_39 (by decide) ?_
      refine lv_iconst (v := 1) hx hb dX2_takePartStart_40 (by decide) ?_
      refine g_cVi (As := [.int 1, .int 1]) (rest := []) hx hb hml hown hts hK hA hG hS (k_X2_moveOn l D cy N L _ _ _ (by omega) 1 1 (by first | exact Or.inl rfl | exact Or.inr rfl)) (cwV 2 hts gX2_takePartStart_X2_moveOn rfl rfl rfl (by decide +kernel) ⟨Nat.le_of_ble_eq_true rfl, Nat.le_of_ble_eq_true rfl⟩) i_q0_0 rW_o (ci := 2) rfl rfl rfl rfl hl.1 (Nat.le_of_ble_eq_true rfl) dX2_takePartStart_41 ⟨Nat.zero_le _, Nat.zero_le _⟩ (fun H locs hG hS => ?_)
      exact g_iret hx hb hr hlocks hK hG hS rfl dX2_takePartStart_44 ⟨(congrArg (fun z9 => some (Value.int z9)) (by first | (simp only [r_psR, r_psS, r_move, c_3, eq_true c_25, if_true, if_false, not_true_eq_false, not_false_eq_true]; done) | (simp [r_psR, r_psS, r_move, c_3, eq_true c_25]; done) | rfl)), (by first | (simp only [r_psR, r_psS, r_move, c_3, eq_true c_25, if_true, if_false, not_true_eq_false, not_false_eq_true]; done) | (simp [r_psR, r_psS, r_move, c_3, eq_true c_25]; done) | rfl)⟩
    · skip
      refine lv_iconst (v := 0) hx hb dX2_takePartStart_28 (by decide) ?_
      exact g_iret hx hb hr hlocks hK hG hS rfl dX2_takePartStart_29 ⟨(congrArg (fun z9 => some (Value.int z9)) (by first | (simp only [r_psR, r_psS, r_move, c_3, c_25, if_true, if_false, not_true_eq_false, not_false_eq_true]; done) | (simp [r_psR, r_psS, r_move, c_3, c_25]; done) | rfl)), (by first | (simp only [r_psR, r_psS, r_move, c_3, c_25, if_true, if_false, not_true_eq_false, not_false_eq_true]; done) | (simp [r_psR, r_psS, r_move, c_3, c_25]; done) | rfl)⟩
  · skip
    refine lv_aload_n hx hb dX2_takePartStart_6 rfl (lv_at hl 0 rfl) ?_
    refine lv_iload_n hx hb dX2_takePartStart_7 rfl (lv_at hl 1 rfl) ?_
    refine g_put (ci := 2) (C := RX2) (T := TX2) (M := 5) (ty := .int) hx hb hts hinX2 tyX2 tyX2_ok nmX2 hown hK hG hS i_q0_0 rW_o rfl 3 (by decide) hf21 rfl rfl rfl rfl rfl (Nat.le_of_ble_eq_true rfl) dX2_takePartStart_8 rfl (fun H locs hG hS => ?_)
    have hG : GW D N L (gA N L s.heap.size) (rW F b (rP r, rS r, rH r, a, rN r)) _ := hG.to rW_uo
    refine lv_aload_n hx hb dX2_takePartStart_11 rfl (lv_at hl 0 rfl) ?_
    refine lv_iconst (v := 1) hx hb dX2_takePartStart_12 (by decide) ?_
    refine lv_iconst (v := 4) hx hb dX2_takePartStart_13 (by decide) ?_
    refine g_cVi (As := [.int 1, .int 4]) (rest := []) hx hb hml hown hts hK hA hG hS (k_X2_moveOn l D cy N L _ _ _ (by omega) 1 4 (by first | exact Or.inl rfl | exact Or.inr rfl)) (cwV 2 hts gX2_takePartStart_X2_moveOn rfl rfl rfl (by decide +kernel) ⟨Nat.le_of_ble_eq_true rfl, Nat.le_of_ble_eq_true rfl⟩) i_q0_0 rW_o (ci := 2) rfl rfl rfl rfl hl.1 (Nat.le_of_ble_eq_true rfl) dX2_takePartStart_14 ⟨Nat.zero_le _, Nat.zero_le _⟩ (fun H locs hG hS => ?_)
    exact g_iret hx hb hr hlocks hK hG hS rfl dX2_takePartStart_17 ⟨(congrArg (fun z9 => some (Value.int z9)) (by first | (simp only [r_psR, r_psS, r_move, eq_true c_3, if_true, if_false, not_true_eq_false, not_false_eq_true]; done) | (simp [r_psR, r_psS, r_move, eq_true c_3]; done) | rfl)), (by first | (simp only [r_psR, r_psS, r_move, eq_true c_3, if_true, if_false, not_true_eq_false, not_false_eq_true]; done) | (simp [r_psR, r_psS, r_move, eq_true c_3]; done) | rfl)⟩
set_option maxHeartbeats 4000000 in
set_option maxRecDepth 100000 in
theorem k_X2_takeSign (l : Launch) (D : va_G) (cy : Nat → ClassId) (N : Nat) (L : Nat → Nat) (F : Nat → va_E) (b : Nat) (r : RT) (hb : b < N)  (a : Int32)  : GM l D cy N L yX2_takeSign wsX2_takeSign ({ frames := 1, cells := 0, slots := 0, locals := 22 }) [.ref (L b), .int a] (rW F b r) (some (.int (r_sgR a))) (rW F b (r_sgS r a)) := by
  refine GM.ofW (cc := cX2_takeSign) (maxL := 2) (ret := (some .boolean)) (by decide) rfl (Nat.le_of_ble_eq_true rfl) ?_
  intro p e s m below meth c ls hx hb hr hts hown hlocks hml hK hA hG hS hl
  have hl : lv_has ls 2 [(0, .ref (L b)), (1, .int a)] := hl
  have i_q0_0 : b < N := by omega
  have hf21 := hts (.fieldLink RX2 21 "SiloPads$TextReader" "kind" "I") (by decide +kernel)
  have hinX2 : ∀ w ∈ u_ws RX2 TX2 5, w ∈ wsX2_takeSign := by decide +kernel
  refine lv_iload_n hx hb dX2_takeSign_0 rfl (lv_at hl 1 rfl) ?_
  refine lv_bipush (v := 60) hx hb dX2_takeSign_1 (by decide) ?_
  refine lv_icmp_eq (tgt := 14) hx hb dX2_takeSign_3 (by decide) (fun c_3 => ?_) (fun c_3 => ?_)
  · skip
    refine lv_aload_n hx hb dX2_takeSign_14 rfl (lv_at hl 0 rfl) ?_
    refine lv_iload_n hx hb dX2_takeSign_15 rfl (lv_at hl 1 rfl) ?_
    refine g_put (ci := 2) (C := RX2) (T := TX2) (M := 5) (ty := .int) hx hb hts hinX2 tyX2 tyX2_ok nmX2 hown hK hG hS i_q0_0 rW_o rfl 3 (by decide) hf21 rfl rfl rfl rfl rfl (Nat.le_of_ble_eq_true rfl) dX2_takeSign_16 rfl (fun H locs hG hS => ?_)
    have hG : GW D N L (gA N L s.heap.size) (rW F b (rP r, rS r, rH r, a, rN r)) _ := hG.to rW_uo
    refine lv_aload_n hx hb dX2_takeSign_19 rfl (lv_at hl 0 rfl) ?_
    refine lv_iconst (v := 1) hx hb dX2_takeSign_20 (by decide) ?_
    refine lv_iconst (v := 2) hx hb dX2_takeSign_21 (by decide) ?_
    refine g_cVi (As := [.int 1, .int 2]) (rest := []) hx hb hml hown hts hK hA hG hS (k_X2_moveOn l D cy N L _ _ _ (by omega) 1 2 (by first | exact Or.inl rfl | exact Or.inr rfl)) (cwV 2 hts gX2_takeSign_X2_moveOn rfl rfl rfl (by decide +kernel) ⟨Nat.le_of_ble_eq_true rfl, Nat.le_of_ble_eq_true rfl⟩) i_q0_0 rW_o (ci := 2) rfl rfl rfl rfl hl.1 (Nat.le_of_ble_eq_true rfl) dX2_takeSign_22 ⟨Nat.zero_le _, Nat.zero_le _⟩ (fun H locs hG hS => ?_)
    exact g_iret hx hb hr hlocks hK hG hS rfl dX2_takeSign_25 ⟨(congrArg (fun z9 => some (Value.int z9)) (by first | (simp only [r_sgR, r_sgS, r_move, eq_true c_3, if_true, if_false, not_true_eq_false, not_false_eq_true]; done) | (simp [r_sgR, r_sgS, r_move, eq_true c_3]; done) | rfl)), (by first | (simp only [r_sgR, r_sgS, r_move, eq_true c_3, if_true, if_false, not_true_eq_false, not_false_eq_true]; done) | (simp [r_sgR, r_sgS, r_move, eq_true c_3]; done) | rfl)⟩
  · skip
    refine lv_iload_n hx hb dX2_takeSign_6 rfl (lv_at hl 1 rfl) ?_
    refine lv_bipush (v := 62) hx hb dX2_takeSign_7 (by decide) ?_
    refine lv_icmp_eq (tgt := 14) hx hb dX2_takeSign_9 (by decide) (fun c_9 => ?_) (fun c_9 => ?_)
    · skip
      refine lv_aload_n hx hb dX2_takeSign_14 rfl (lv_at hl 0 rfl) ?_
      refine lv_iload_n hx hb dX2_takeSign_15 rfl (lv_at hl 1 rfl) ?_
      refine g_put (ci := 2) (C := RX2) (T := TX2) (M := 5) (ty := .int) hx hb hts hinX2 tyX2 tyX2_ok nmX2 hown hK hG hS i_q0_0 rW_o rfl 3 (by decide) hf21 rfl rfl rfl rfl rfl (Nat.le_of_ble_eq_true rfl) dX2_takeSign_16 rfl (fun H locs hG hS => ?_)
      have hG : GW D N L (gA N L s.heap.size) (rW F b (rP r, rS r, rH r, a, rN r)) _ := hG.to rW_uo
      refine lv_aload_n hx hb dX2_takeSign_19 rfl (lv_at hl 0 rfl) ?_
      refine lv_iconst (v := 1) hx hb dX2_takeSign_20 (by decide) ?_
      refine lv_iconst (v := 2) hx hb dX2_takeSign_21 (by decide) ?_
      refine g_cVi (As := [.int 1, .int 2]) (rest := []) hx hb hml hown hts hK hA hG hS (k_X2_moveOn l D cy N L _ _ _ (by omega) 1 2 (by first | exact Or.inl rfl | exact Or.inr rfl)) (cwV 2 hts gX2_takeSign_X2_moveOn rfl rfl rfl (by decide +kernel) ⟨Nat.le_of_ble_eq_true rfl, Nat.le_of_ble_eq_true rfl⟩) i_q0_0 rW_o (ci := 2) rfl rfl rfl rfl hl.1 (Nat.le_of_ble_eq_true rfl) dX2_takeSign_22 ⟨Nat.zero_le _, Nat.zero_le _⟩ (fun H locs hG hS => ?_)
      exact g_iret hx hb hr hlocks hK hG hS rfl dX2_takeSign_25 ⟨(congrArg (fun z9 => some (Value.int z9)) (by first | (simp only [r_sgR, r_sgS, r_move, c_3, eq_true c_9, if_true, if_false, not_true_eq_false, not_false_eq_true]; done) | (simp [r_sgR, r_sgS, r_move, c_3, eq_true c_9]; done) | rfl)), (by first | (simp only [r_sgR, r_sgS, r_move, c_3, eq_true c_9, if_true, if_false, not_true_eq_false, not_false_eq_true]; done) | (simp [r_sgR, r_sgS, r_move, c_3, eq_true c_9]; done) | rfl)⟩
    · skip
      refine lv_iconst (v := 0) hx hb dX2_takeSign_12 (by decide) ?_
      exact g_iret hx hb hr hlocks hK hG hS rfl dX2_takeSign_13 ⟨(congrArg (fun z9 => some (Value.int z9)) (by first | (simp only [r_sgR, r_sgS, r_move, c_3, c_9, if_true, if_false, not_true_eq_false, not_false_eq_true]; done) | (simp [r_sgR, r_sgS, r_move, c_3, c_9]; done) | rfl)), (by first | (simp only [r_sgR, r_sgS, r_move, c_3, c_9, if_true, if_false, not_true_eq_false, not_false_eq_true]; done) | (simp [r_sgR, r_sgS, r_move, c_3, c_9]; done) | rfl)⟩
set_option maxHeartbeats 4000000 in
set_option maxRecDepth 100000 in
theorem k_X2_takeShip (l : Launch) (D : va_G) (cy : Nat → ClassId) (N : Nat) (L : Nat → Nat) (F : Nat → va_E) (b : Nat) (r : RT) (hb : b < N)  (a : Int32)  : GM l D cy N L yX2_takeShip wsX2_takeShip ({ frames := 1, cells := 0, slots := 0, locals := 22 }) [.ref (L b), .int a] (rW F b r) (some (.int (r_shR a))) (rW F b (r_shS r a)) := by
  refine GM.ofW (cc := cX2_takeShip) (maxL := 2) (ret := (some .boolean)) (by decide) rfl (Nat.le_of_ble_eq_true rfl) ?_
  intro p e s m below meth c ls hx hb hr hts hown hlocks hml hK hA hG hS hl
  have hl : lv_has ls 2 [(0, .ref (L b)), (1, .int a)] := hl
  have i_q0_0 : b < N := by omega
  have hf18 := hts (.fieldLink RX2 18 "SiloPads$TextReader" "ship" "I") (by decide +kernel)
  have hinX2 : ∀ w ∈ u_ws RX2 TX2 5, w ∈ wsX2_takeShip := by decide +kernel
  refine lv_iload_n hx hb dX2_takeShip_0 rfl (lv_at hl 1 rfl) ?_
  refine g_cSN (As := [.int a]) (rest := []) hx hb hml hown hts hK hA hG hS (k_X4_isNoShip l D cy N L _ a ) ⟨va_cnB 1 hts gX2_takeShip_X4_isNoShip_n50 rfl rfl rfl (hK.2.1.1 (RX2, 50, yX4_isNoShip, RX4) (by decide +kernel)) (hts (.initialized RX4) (by decide +kernel)) (by decide +kernel) ⟨Nat.le_of_ble_eq_true rfl, Nat.le_of_ble_eq_true rfl⟩, hts (.static yX4_isNoShip) (by decide +kernel)⟩ rfl rfl hl.1 (Nat.le_of_ble_eq_true rfl) dX2_takeShip_1 ⟨Nat.zero_le _, Nat.zero_le _⟩ (fun H locs hG hS => ?_)
  refine lv_if_eq (tgt := 9) hx hb dX2_takeShip_4 (by decide) (fun c_4 => ?_) (fun c_4 => ?_)
  · skip
    refine lv_aload_n hx hb dX2_takeShip_9 rfl (lv_at hl 0 rfl) ?_
    refine lv_iload_n hx hb dX2_takeShip_10 rfl (lv_at hl 1 rfl) ?_
    refine g_put (ci := 2) (C := RX2) (T := TX2) (M := 5) (ty := .int) hx hb hts hinX2 tyX2 tyX2_ok nmX2 hown hK hG hS i_q0_0 rW_o rfl 2 (by decide) hf18 rfl rfl rfl rfl rfl (Nat.le_of_ble_eq_true rfl) dX2_takeShip_11 rfl (fun H locs hG hS => ?_)
    have hG : GW D N L (gA N L s.heap.size) (rW F b (rP r, rS r, a, rK r, rN r)) _ := hG.to rW_uo
    refine lv_aload_n hx hb dX2_takeShip_14 rfl (lv_at hl 0 rfl) ?_
    refine lv_iconst (v := 1) hx hb dX2_takeShip_15 (by decide) ?_
    refine lv_iconst (v := 3) hx hb dX2_takeShip_16 (by decide) ?_
    refine g_cVi (As := [.int 1, .int 3]) (rest := []) hx hb hml hown hts hK hA hG hS (k_X2_moveOn l D cy N L _ _ _ (by omega) 1 3 (by first | exact Or.inl rfl | exact Or.inr rfl)) (cwV 2 hts gX2_takeShip_X2_moveOn rfl rfl rfl (by decide +kernel) ⟨Nat.le_of_ble_eq_true rfl, Nat.le_of_ble_eq_true rfl⟩) i_q0_0 rW_o (ci := 2) rfl rfl rfl rfl hl.1 (Nat.le_of_ble_eq_true rfl) dX2_takeShip_17 ⟨Nat.zero_le _, Nat.zero_le _⟩ (fun H locs hG hS => ?_)
    exact g_iret hx hb hr hlocks hK hG hS rfl dX2_takeShip_20 ⟨(congrArg (fun z9 => some (Value.int z9)) (by first | (simp only [r_shR, r_shS, r_move, eq_true c_4, if_true, if_false, not_true_eq_false, not_false_eq_true]; done) | (simp [r_shR, r_shS, r_move, eq_true c_4]; done) | rfl)), (by first | (simp only [r_shR, r_shS, r_move, eq_true c_4, if_true, if_false, not_true_eq_false, not_false_eq_true]; done) | (simp [r_shR, r_shS, r_move, eq_true c_4]; done) | rfl)⟩
  · skip
    refine lv_iconst (v := 0) hx hb dX2_takeShip_7 (by decide) ?_
    exact g_iret hx hb hr hlocks hK hG hS rfl dX2_takeShip_8 ⟨(congrArg (fun z9 => some (Value.int z9)) (by first | (simp only [r_shR, r_shS, r_move, c_4, if_true, if_false, not_true_eq_false, not_false_eq_true]; done) | (simp [r_shR, r_shS, r_move, c_4]; done) | rfl)), (by first | (simp only [r_shR, r_shS, r_move, c_4, if_true, if_false, not_true_eq_false, not_false_eq_true]; done) | (simp [r_shR, r_shS, r_move, c_4]; done) | rfl)⟩
set_option maxHeartbeats 4000000 in
set_option maxRecDepth 100000 in
theorem k_X2_takeFirstDigit (l : Launch) (D : va_G) (cy : Nat → ClassId) (N : Nat) (L : Nat → Nat) (F : Nat → va_E) (b : Nat) (r : RT) (hb : b < N)  (a : Int32)  : GM l D cy N L yX2_takeFirstDigit wsX2_takeFirstDigit ({ frames := 1, cells := 0, slots := 0, locals := 22 }) [.ref (L b), .int a] (rW F b r) (some (.int (r_fdR a))) (rW F b (r_fdS r a)) := by
  refine GM.ofW (cc := cX2_takeFirstDigit) (maxL := 2) (ret := (some .boolean)) (by decide) rfl (Nat.le_of_ble_eq_true rfl) ?_
  intro p e s m below meth c ls hx hb hr hts hown hlocks hml hK hA hG hS hl
  have hl : lv_has ls 2 [(0, .ref (L b)), (1, .int a)] := hl
  have i_q0_0 : b < N := by omega
  have hf24 := hts (.fieldLink RX2 24 "SiloPads$TextReader" "number" "I") (by decide +kernel)
  have hinX2 : ∀ w ∈ u_ws RX2 TX2 5, w ∈ wsX2_takeFirstDigit := by decide +kernel
  refine lv_iload_n hx hb dX2_takeFirstDigit_0 rfl (lv_at hl 1 rfl) ?_
  refine lv_iconst (v := 1) hx hb dX2_takeFirstDigit_1 (by decide) ?_
  refine lv_icmp_lt (tgt := 11) hx hb dX2_takeFirstDigit_2 (by decide) (fun c_2 => ?_) (fun c_2 => ?_)
  · skip
    refine lv_iconst (v := 0) hx hb dX2_takeFirstDigit_11 (by decide) ?_
    exact g_iret hx hb hr hlocks hK hG hS rfl dX2_takeFirstDigit_12 ⟨(congrArg (fun z9 => some (Value.int z9)) (by first | (simp only [r_fdR, r_fdS, r_move, c_2, if_true, if_false, not_true_eq_false, not_false_eq_true]; done) | (simp [r_fdR, r_fdS, r_move, c_2]; done) | rfl)), (by first | (simp only [r_fdR, r_fdS, r_move, c_2, if_true, if_false, not_true_eq_false, not_false_eq_true]; done) | (simp [r_fdR, r_fdS, r_move, c_2]; done) | rfl)⟩
  · skip
    refine lv_iload_n hx hb dX2_takeFirstDigit_5 rfl (lv_at hl 1 rfl) ?_
    refine lv_bipush (v := 9) hx hb dX2_takeFirstDigit_6 (by decide) ?_
    refine lv_icmp_le (tgt := 13) hx hb dX2_takeFirstDigit_8 (by decide) (fun c_8 => ?_) (fun c_8 => ?_)
    · skip
      refine lv_aload_n hx hb dX2_takeFirstDigit_13 rfl (lv_at hl 0 rfl) ?_
      refine lv_iload_n hx hb dX2_takeFirstDigit_14 rfl (lv_at hl 1 rfl) ?_
      refine g_put (ci := 2) (C := RX2) (T := TX2) (M := 5) (ty := .int) hx hb hts hinX2 tyX2 tyX2_ok nmX2 hown hK hG hS i_q0_0 rW_o rfl 4 (by decide) hf24 rfl rfl rfl rfl rfl (Nat.le_of_ble_eq_true rfl) dX2_takeFirstDigit_15 rfl (fun H locs hG hS => ?_)
      have hG : GW D N L (gA N L s.heap.size) (rW F b (rP r, rS r, rH r, rK r, a)) _ := hG.to rW_uo
      refine lv_aload_n hx hb dX2_takeFirstDigit_18 rfl (lv_at hl 0 rfl) ?_
      refine lv_iconst (v := 1) hx hb dX2_takeFirstDigit_19 (by decide) ?_
      refine lv_iconst (v := 5) hx hb dX2_takeFirstDigit_20 (by decide) ?_
      refine g_cVi (As := [.int 1, .int 5]) (rest := []) hx hb hml hown hts hK hA hG hS (k_X2_moveOn l D cy N L _ _ _ (by omega) 1 5 (by first | exact Or.inl rfl | exact Or.inr rfl)) (cwV 2 hts gX2_takeFirstDigit_X2_moveOn rfl rfl rfl (by decide +kernel) ⟨Nat.le_of_ble_eq_true rfl, Nat.le_of_ble_eq_true rfl⟩) i_q0_0 rW_o (ci := 2) rfl rfl rfl rfl hl.1 (Nat.le_of_ble_eq_true rfl) dX2_takeFirstDigit_21 ⟨Nat.zero_le _, Nat.zero_le _⟩ (fun H locs hG hS => ?_)
      exact g_iret hx hb hr hlocks hK hG hS rfl dX2_takeFirstDigit_24 ⟨(congrArg (fun z9 => some (Value.int z9)) (by first | (simp only [r_fdR, r_fdS, r_move, c_2, c_8, if_true, if_false, not_true_eq_false, not_false_eq_true]; done) | (simp [r_fdR, r_fdS, r_move, c_2, c_8]; done) | rfl)), (by first | (simp only [r_fdR, r_fdS, r_move, c_2, c_8, if_true, if_false, not_true_eq_false, not_false_eq_true]; done) | (simp [r_fdR, r_fdS, r_move, c_2, c_8]; done) | rfl)⟩
    · skip
      refine lv_iconst (v := 0) hx hb dX2_takeFirstDigit_11 (by decide) ?_
      exact g_iret hx hb hr hlocks hK hG hS rfl dX2_takeFirstDigit_12 ⟨(congrArg (fun z9 => some (Value.int z9)) (by first | (simp only [r_fdR, r_fdS, r_move, c_2, c_8, if_true, if_false, not_true_eq_false, not_false_eq_true]; done) | (simp [r_fdR, r_fdS, r_move, c_2, c_8]; done) | rfl)), (by first | (simp only [r_fdR, r_fdS, r_move, c_2, c_8, if_true, if_false, not_true_eq_false, not_false_eq_true]; done) | (simp [r_fdR, r_fdS, r_move, c_2, c_8]; done) | rfl)⟩
set_option maxHeartbeats 4000000 in
set_option maxRecDepth 100000 in
theorem k_X2_numberMost (l : Launch) (D : va_G) (cy : Nat → ClassId) (N : Nat) (L : Nat → Nat) (F : Nat → va_E) (b : Nat) (r : RT) (hb : b < N)    : GM l D cy N L yX2_numberMost wsX2_numberMost ({ frames := 0, cells := 0, slots := 0, locals := 0 }) [.ref (L b)] (rW F b r) (some (.int (r_most r))) (rW F b r) := by
  refine GM.ofW (cc := cX2_numberMost) (maxL := 1) (ret := (some .int)) (by decide) rfl (Nat.le_of_ble_eq_true rfl) ?_
  intro p e s m below meth c ls hx hb hr hts hown hlocks hml hK hA hG hS hl
  have hl : lv_has ls 1 [(0, .ref (L b))] := hl
  have i_q0_0 : b < N := by omega
  have hf21 := hts (.fieldLink RX2 21 "SiloPads$TextReader" "kind" "I") (by decide +kernel)
  have hinX2 : ∀ w ∈ u_ws RX2 TX2 5, w ∈ wsX2_numberMost := by decide +kernel
  refine lv_aload_n hx hb dX2_numberMost_0 rfl (lv_at hl 0 rfl) ?_
  refine g_get (ci := 2) (C := RX2) (T := TX2) (M := 5) hx hb hts hinX2 hown hK hG i_q0_0 rW_o rfl 3 (by decide) hf21 rfl rfl dX2_numberMost_1 ?_
  refine lv_toI (y := rK r) rfl ?_
  by_cases c_4_60 : rK r = 60
  · skip
    refine lv_lookup (off := 28) (tgt := 32) hx hb dX2_numberMost_4 (by decide) (by rw [c_4_60]; decide) (by decide) ?_
    refine lv_sipush (v := 500) hx hb dX2_numberMost_32 (by decide) ?_
    exact g_iret hx hb hr hlocks hK hG hS rfl dX2_numberMost_35 ⟨(congrArg (fun z9 => some (Value.int z9)) (by first | (simp only [r_most, eq_true c_4_60, if_true, if_false, not_true_eq_false, not_false_eq_true]; done) | (simp [r_most, eq_true c_4_60]; done) | rfl)), rfl⟩
  by_cases c_4_62 : rK r = 62
  · skip
    refine lv_lookup (off := 32) (tgt := 36) hx hb dX2_numberMost_4 (by decide) (by rw [c_4_62]; decide) (by decide) ?_
    refine lv_bipush (v := 24) hx hb dX2_numberMost_36 (by decide) ?_
    exact g_iret hx hb hr hlocks hK hG hS rfl dX2_numberMost_38 ⟨(congrArg (fun z9 => some (Value.int z9)) (by first | (simp only [r_most, c_4_60, eq_true c_4_62, if_true, if_false, not_true_eq_false, not_false_eq_true]; done) | (simp [r_most, c_4_60, eq_true c_4_62]; done) | rfl)), rfl⟩
  refine lv_lookup (off := 35) (tgt := 39) hx hb dX2_numberMost_4 (by decide) (lk_out2 (k0 := 60) c_4_60 (k1 := 62) c_4_62) (by decide) ?_
  refine lv_bipush (v := 30) hx hb dX2_numberMost_39 (by decide) ?_
  exact g_iret hx hb hr hlocks hK hG hS rfl dX2_numberMost_41 ⟨(congrArg (fun z9 => some (Value.int z9)) (by first | (simp only [r_most, c_4_60, c_4_62, if_true, if_false, not_true_eq_false, not_false_eq_true]; done) | (simp [r_most, c_4_60, c_4_62]; done) | rfl)), rfl⟩
set_option maxHeartbeats 4000000 in
set_option maxRecDepth 100000 in
theorem k_X2_takeNextDigit (l : Launch) (D : va_G) (cy : Nat → ClassId) (N : Nat) (L : Nat → Nat) (F : Nat → va_E) (b : Nat) (r : RT) (hb : b < N)  (a : Int32)  : GM l D cy N L yX2_takeNextDigit wsX2_takeNextDigit ({ frames := 1, cells := 0, slots := 0, locals := 20 }) [.ref (L b), .int a] (rW F b r) (some (.int (r_ndR r a))) (rW F b (r_ndS r a)) := by
  refine GM.ofW (cc := cX2_takeNextDigit) (maxL := 2) (ret := (some .boolean)) (by decide) rfl (Nat.le_of_ble_eq_true rfl) ?_
  intro p e s m below meth c ls hx hb hr hts hown hlocks hml hK hA hG hS hl
  have hl : lv_has ls 2 [(0, .ref (L b)), (1, .int a)] := hl
  have i_q0_0 : b < N := by omega
  have hf24 := hts (.fieldLink RX2 24 "SiloPads$TextReader" "number" "I") (by decide +kernel)
  have hinX2 : ∀ w ∈ u_ws RX2 TX2 5, w ∈ wsX2_takeNextDigit := by decide +kernel
  refine lv_iload_n hx hb dX2_takeNextDigit_0 rfl (lv_at hl 1 rfl) ?_
  refine lv_if_lt (tgt := 26) hx hb dX2_takeNextDigit_1 (by decide) (fun c_1 => ?_) (fun c_1 => ?_)
  · skip
    refine lv_iconst (v := 0) hx hb dX2_takeNextDigit_26 (by decide) ?_
    exact g_iret hx hb hr hlocks hK hG hS rfl dX2_takeNextDigit_27 ⟨(congrArg (fun z9 => some (Value.int z9)) (by first | (simp only [r_ndR, r_ndS, c_1, if_true, if_false, not_true_eq_false, not_false_eq_true]; done) | (simp [r_ndR, r_ndS, c_1]; done) | rfl)), (by first | (simp only [r_ndR, r_ndS, c_1, if_true, if_false, not_true_eq_false, not_false_eq_true]; done) | (simp [r_ndR, r_ndS, c_1]; done) | rfl)⟩
  · skip
    refine lv_iload_n hx hb dX2_takeNextDigit_4 rfl (lv_at hl 1 rfl) ?_
    refine lv_bipush (v := 9) hx hb dX2_takeNextDigit_5 (by decide) ?_
    refine lv_icmp_gt (tgt := 26) hx hb dX2_takeNextDigit_7 (by decide) (fun c_7 => ?_) (fun c_7 => ?_)
    · skip
      refine lv_iconst (v := 0) hx hb dX2_takeNextDigit_26 (by decide) ?_
      exact g_iret hx hb hr hlocks hK hG hS rfl dX2_takeNextDigit_27 ⟨(congrArg (fun z9 => some (Value.int z9)) (by first | (simp only [r_ndR, r_ndS, c_1, c_7, if_true, if_false, not_true_eq_false, not_false_eq_true]; done) | (simp [r_ndR, r_ndS, c_1, c_7]; done) | rfl)), (by first | (simp only [r_ndR, r_ndS, c_1, c_7, if_true, if_false, not_true_eq_false, not_false_eq_true]; done) | (simp [r_ndR, r_ndS, c_1, c_7]; done) | rfl)⟩
    · skip
      refine lv_bipush (v := 10) hx hb dX2_takeNextDigit_10 (by decide) ?_
      refine lv_aload_n hx hb dX2_takeNextDigit_12 rfl (lv_at hl 0 rfl) ?_
      refine g_get (ci := 2) (C := RX2) (T := TX2) (M := 5) hx hb hts hinX2 hown hK hG i_q0_0 rW_o rfl 4 (by decide) hf24 rfl rfl dX2_takeNextDigit_13 ?_
      refine lv_imul hx hb dX2_takeNextDigit_16 ?_
      refine lv_iload_n hx hb dX2_takeNextDigit_17 rfl (lv_at hl 1 rfl) ?_
      refine lv_iadd hx hb dX2_takeNextDigit_18 ?_
      refine lv_aload_n hx hb dX2_takeNextDigit_19 rfl (lv_at hl 0 rfl) ?_
      refine g_cVi (As := []) (rest := [.int ((10 * (rN r)) + a)]) hx hb hml hown hts hK hA hG hS (k_X2_numberMost l D cy N L _ _ _ (by omega)  ) (cwV 0 hts gX2_takeNextDigit_X2_numberMost rfl rfl rfl (by decide +kernel) ⟨Nat.le_of_ble_eq_true rfl, Nat.le_of_ble_eq_true rfl⟩) i_q0_0 rW_o (ci := 2) rfl rfl rfl rfl hl.1 (Nat.le_of_ble_eq_true rfl) dX2_takeNextDigit_20 ⟨Nat.zero_le _, Nat.zero_le _⟩ (fun H locs hG hS => ?_)
      refine lv_icmp_le (tgt := 28) hx hb dX2_takeNextDigit_23 (by decide) (fun c_23 => ?_) (fun c_23 => ?_)
      · skip
        refine lv_aload_n hx hb dX2_takeNextDigit_28 rfl (lv_at hl 0 rfl) ?_
        refine lv_bipush (v := 10) hx hb dX2_takeNextDigit_29 (by decide) ?_
        refine lv_aload_n hx hb dX2_takeNextDigit_31 rfl (lv_at hl 0 rfl) ?_
        refine g_get (ci := 2) (C := RX2) (T := TX2) (M := 5) hx hb hts hinX2 hown hK hG i_q0_0 rW_o rfl 4 (by decide) hf24 rfl rfl dX2_takeNextDigit_32 ?_
        refine lv_imul hx hb dX2_takeNextDigit_35 ?_
        refine lv_iload_n hx hb dX2_takeNextDigit_36 rfl (lv_at hl 1 rfl) ?_
        refine lv_iadd hx hb dX2_takeNextDigit_37 ?_
        refine g_put (ci := 2) (C := RX2) (T := TX2) (M := 5) (ty := .int) hx hb hts hinX2 tyX2 tyX2_ok nmX2 hown hK hG hS i_q0_0 rW_o rfl 4 (by decide) hf24 rfl rfl rfl rfl rfl (Nat.le_of_ble_eq_true rfl) dX2_takeNextDigit_38 rfl (fun H locs hG hS => ?_)
        have hG : GW D N L (gA N L s.heap.size) (rW F b (rP r, rS r, rH r, rK r, (10 * (rN r)) + a)) _ := hG.to rW_uo
        refine lv_iconst (v := 1) hx hb dX2_takeNextDigit_41 (by decide) ?_
        exact g_iret hx hb hr hlocks hK hG hS rfl dX2_takeNextDigit_42 ⟨(congrArg (fun z9 => some (Value.int z9)) (by first | (simp only [r_ndR, r_ndS, c_1, c_7, c_23, if_true, if_false, not_true_eq_false, not_false_eq_true]; done) | (simp [r_ndR, r_ndS, c_1, c_7, c_23]; done) | rfl)), (by first | (simp only [r_ndR, r_ndS, c_1, c_7, c_23, if_true, if_false, not_true_eq_false, not_false_eq_true]; done) | (simp [r_ndR, r_ndS, c_1, c_7, c_23]; done) | rfl)⟩
      · skip
        refine lv_iconst (v := 0) hx hb dX2_takeNextDigit_26 (by decide) ?_
        exact g_iret hx hb hr hlocks hK hG hS rfl dX2_takeNextDigit_27 ⟨(congrArg (fun z9 => some (Value.int z9)) (by first | (simp only [r_ndR, r_ndS, c_1, c_7, c_23, if_true, if_false, not_true_eq_false, not_false_eq_true]; done) | (simp [r_ndR, r_ndS, c_1, c_7, c_23]; done) | rfl)), (by first | (simp only [r_ndR, r_ndS, c_1, c_7, c_23, if_true, if_false, not_true_eq_false, not_false_eq_true]; done) | (simp [r_ndR, r_ndS, c_1, c_7, c_23]; done) | rfl)⟩
set_option maxHeartbeats 4000000 in
set_option maxRecDepth 100000 in
theorem k_X2_take (l : Launch) (D : va_G) (cy : Nat → ClassId) (N : Nat) (L : Nat → Nat) (F : Nat → va_E) (b : Nat) (r : RT) (hb : b < N)  (a : Int32)  : GM l D cy N L yX2_take wsX2_take ({ frames := 2, cells := 0, slots := 0, locals := 43 }) [.ref (L b), .int a] (rW F b r) (some (.int (r_takeR r a))) (rW F b (r_takeS r a)) := by
  refine GM.ofW (cc := cX2_take) (maxL := 2) (ret := (some .boolean)) (by decide) rfl (Nat.le_of_ble_eq_true rfl) ?_
  intro p e s m below meth c ls hx hb hr hts hown hlocks hml hK hA hG hS hl
  have hl : lv_has ls 2 [(0, .ref (L b)), (1, .int a)] := hl
  have i_q0_0 : b < N := by omega
  have hf11 := hts (.fieldLink RX2 11 "SiloPads$TextReader" "place" "I") (by decide +kernel)
  have hinX2 : ∀ w ∈ u_ws RX2 TX2 5, w ∈ wsX2_take := by decide +kernel
  refine lv_aload_n hx hb dX2_take_0 rfl (lv_at hl 0 rfl) ?_
  refine g_get (ci := 2) (C := RX2) (T := TX2) (M := 5) hx hb hts hinX2 hown hK hG i_q0_0 rW_o rfl 0 (by decide) hf11 rfl rfl dX2_take_1 ?_
  refine lv_toI (y := rP r) rfl ?_
  by_cases c_4_0 : rP r = 0
  · skip
    refine lv_tableIn (off := 36) (tgt := 40) hx hb dX2_take_4 (by rw [c_4_0]; decide) (by rw [c_4_0]; decide) (by rw [c_4_0]; decide) (by decide) ?_
    refine lv_aload_n hx hb dX2_take_40 rfl (lv_at hl 0 rfl) ?_
    refine lv_iload_n hx hb dX2_take_41 rfl (lv_at hl 1 rfl) ?_
    refine g_cVi (As := [.int a]) (rest := []) hx hb hml hown hts hK hA hG hS (k_X2_takePartStart l D cy N L _ _ _ (by omega) a ) (cwV 1 hts gX2_take_X2_takePartStart rfl rfl rfl (by decide +kernel) ⟨Nat.le_of_ble_eq_true rfl, Nat.le_of_ble_eq_true rfl⟩) i_q0_0 rW_o (ci := 2) rfl rfl rfl rfl hl.1 (Nat.le_of_ble_eq_true rfl) dX2_take_42 ⟨Nat.zero_le _, Nat.zero_le _⟩ (fun H locs hG hS => ?_)
    exact g_iret hx hb hr hlocks hK hG hS (by first | exact r_psR_nar | exact r_sgR_nar | exact r_shR_nar | exact r_fdR_nar | exact r_ndR_nar | rfl) dX2_take_45 ⟨(congrArg (fun z9 => some (Value.int z9)) (by first | (simp only [r_takeR, r_takeS, r_move, eq_true c_4_0, if_true, if_false, not_true_eq_false, not_false_eq_true]; done) | (simp [r_takeR, r_takeS, r_move, eq_true c_4_0]; done) | rfl)), (by first | (simp only [r_takeR, r_takeS, r_move, eq_true c_4_0, if_true, if_false, not_true_eq_false, not_false_eq_true]; done) | (simp [r_takeR, r_takeS, r_move, eq_true c_4_0]; done) | rfl)⟩
  by_cases c_4_1 : rP r = 1
  · skip
    refine lv_tableIn (off := 42) (tgt := 46) hx hb dX2_take_4 (by rw [c_4_1]; decide) (by rw [c_4_1]; decide) (by rw [c_4_1]; decide) (by decide) ?_
    refine lv_aload_n hx hb dX2_take_46 rfl (lv_at hl 0 rfl) ?_
    refine lv_iload_n hx hb dX2_take_47 rfl (lv_at hl 1 rfl) ?_
    refine g_cVi (As := [.int a]) (rest := []) hx hb hml hown hts hK hA hG hS (k_X2_takeSign l D cy N L _ _ _ (by omega) a ) (cwV 1 hts gX2_take_X2_takeSign rfl rfl rfl (by decide +kernel) ⟨Nat.le_of_ble_eq_true rfl, Nat.le_of_ble_eq_true rfl⟩) i_q0_0 rW_o (ci := 2) rfl rfl rfl rfl hl.1 (Nat.le_of_ble_eq_true rfl) dX2_take_48 ⟨Nat.zero_le _, Nat.zero_le _⟩ (fun H locs hG hS => ?_)
    exact g_iret hx hb hr hlocks hK hG hS (by first | exact r_psR_nar | exact r_sgR_nar | exact r_shR_nar | exact r_fdR_nar | exact r_ndR_nar | rfl) dX2_take_51 ⟨(congrArg (fun z9 => some (Value.int z9)) (by first | (simp only [r_takeR, r_takeS, r_move, c_4_0, eq_true c_4_1, if_true, if_false, not_true_eq_false, not_false_eq_true]; done) | (simp [r_takeR, r_takeS, r_move, c_4_0, eq_true c_4_1]; done) | rfl)), (by first | (simp only [r_takeR, r_takeS, r_move, c_4_0, eq_true c_4_1, if_true, if_false, not_true_eq_false, not_false_eq_true]; done) | (simp [r_takeR, r_takeS, r_move, c_4_0, eq_true c_4_1]; done) | rfl)⟩
  by_cases c_4_2 : rP r = 2
  · skip
    refine lv_tableIn (off := 48) (tgt := 52) hx hb dX2_take_4 (by rw [c_4_2]; decide) (by rw [c_4_2]; decide) (by rw [c_4_2]; decide) (by decide) ?_
    refine lv_aload_n hx hb dX2_take_52 rfl (lv_at hl 0 rfl) ?_
    refine lv_iload_n hx hb dX2_take_53 rfl (lv_at hl 1 rfl) ?_
    refine lv_bipush (v := 48) hx hb dX2_take_54 (by decide) ?_
    refine lv_isub hx hb dX2_take_56 ?_
    refine g_cVi (As := [.int (a - 48)]) (rest := []) hx hb hml hown hts hK hA hG hS (k_X2_takeShip l D cy N L _ _ _ (by omega) (a - 48) ) (cwV 1 hts gX2_take_X2_takeShip rfl rfl rfl (by decide +kernel) ⟨Nat.le_of_ble_eq_true rfl, Nat.le_of_ble_eq_true rfl⟩) i_q0_0 rW_o (ci := 2) rfl rfl rfl rfl hl.1 (Nat.le_of_ble_eq_true rfl) dX2_take_57 ⟨Nat.zero_le _, Nat.zero_le _⟩ (fun H locs hG hS => ?_)
    exact g_iret hx hb hr hlocks hK hG hS (by first | exact r_psR_nar | exact r_sgR_nar | exact r_shR_nar | exact r_fdR_nar | exact r_ndR_nar | rfl) dX2_take_60 ⟨(congrArg (fun z9 => some (Value.int z9)) (by first | (simp only [r_takeR, r_takeS, r_move, c_4_0, c_4_1, eq_true c_4_2, if_true, if_false, not_true_eq_false, not_false_eq_true]; done) | (simp [r_takeR, r_takeS, r_move, c_4_0, c_4_1, eq_true c_4_2]; done) | rfl)), (by first | (simp only [r_takeR, r_takeS, r_move, c_4_0, c_4_1, eq_true c_4_2, if_true, if_false, not_true_eq_false, not_false_eq_true]; done) | (simp [r_takeR, r_takeS, r_move, c_4_0, c_4_1, eq_true c_4_2]; done) | rfl)⟩
  by_cases c_4_3 : rP r = 3
  · skip
    refine lv_tableIn (off := 57) (tgt := 61) hx hb dX2_take_4 (by rw [c_4_3]; decide) (by rw [c_4_3]; decide) (by rw [c_4_3]; decide) (by decide) ?_
    refine lv_aload_n hx hb dX2_take_61 rfl (lv_at hl 0 rfl) ?_
    refine lv_iload_n hx hb dX2_take_62 rfl (lv_at hl 1 rfl) ?_
    refine lv_bipush (v := 58) hx hb dX2_take_63 (by decide) ?_
    refine lv_icmp_ne (tgt := 72) hx hb dX2_take_65 (by decide) (fun c_65 => ?_) (fun c_65 => ?_)
    · skip
      refine lv_iconst (v := 0) hx hb dX2_take_72 (by decide) ?_
      refine lv_iconst (v := 4) hx hb dX2_take_73 (by decide) ?_
      refine g_cVi (As := [.int 0, .int 4]) (rest := []) hx hb hml hown hts hK hA hG hS (k_X2_moveOn l D cy N L _ _ _ (by omega) 0 4 (by first | exact Or.inl rfl | exact Or.inr rfl)) (cwV 2 hts gX2_take_X2_moveOn rfl rfl rfl (by decide +kernel) ⟨Nat.le_of_ble_eq_true rfl, Nat.le_of_ble_eq_true rfl⟩) i_q0_0 rW_o (ci := 2) rfl rfl rfl rfl hl.1 (Nat.le_of_ble_eq_true rfl) dX2_take_74 ⟨Nat.zero_le _, Nat.zero_le _⟩ (fun H locs hG hS => ?_)
      exact g_iret hx hb hr hlocks hK hG hS rfl dX2_take_77 ⟨(congrArg (fun z9 => some (Value.int z9)) (by first | (simp only [r_takeR, r_takeS, r_move, c_4_0, c_4_1, c_4_2, eq_true c_4_3, c_65, if_true, if_false, not_true_eq_false, not_false_eq_true]; done) | (simp [r_takeR, r_takeS, r_move, c_4_0, c_4_1, c_4_2, eq_true c_4_3, c_65]; done) | rfl)), (by first | (simp only [r_takeR, r_takeS, r_move, c_4_0, c_4_1, c_4_2, eq_true c_4_3, c_65, if_true, if_false, not_true_eq_false, not_false_eq_true]; done) | (simp [r_takeR, r_takeS, r_move, c_4_0, c_4_1, c_4_2, eq_true c_4_3, c_65]; done) | rfl)⟩
    · skip
      refine lv_iconst (v := 1) hx hb dX2_take_68 (by decide) ?_
      refine lv_goto (tgt := 73) hx hb dX2_take_69 (by decide) ?_
      refine lv_iconst (v := 4) hx hb dX2_take_73 (by decide) ?_
      refine g_cVi (As := [.int 1, .int 4]) (rest := []) hx hb hml hown hts hK hA hG hS (k_X2_moveOn l D cy N L _ _ _ (by omega) 1 4 (by first | exact Or.inl rfl | exact Or.inr rfl)) (cwV 2 hts gX2_take_X2_moveOn rfl rfl rfl (by decide +kernel) ⟨Nat.le_of_ble_eq_true rfl, Nat.le_of_ble_eq_true rfl⟩) i_q0_0 rW_o (ci := 2) rfl rfl rfl rfl hl.1 (Nat.le_of_ble_eq_true rfl) dX2_take_74 ⟨Nat.zero_le _, Nat.zero_le _⟩ (fun H locs hG hS => ?_)
      exact g_iret hx hb hr hlocks hK hG hS rfl dX2_take_77 ⟨(congrArg (fun z9 => some (Value.int z9)) (by first | (simp only [r_takeR, r_takeS, r_move, c_4_0, c_4_1, c_4_2, eq_true c_4_3, eq_true c_65, if_true, if_false, not_true_eq_false, not_false_eq_true]; done) | (simp [r_takeR, r_takeS, r_move, c_4_0, c_4_1, c_4_2, eq_true c_4_3, eq_true c_65]; done) | rfl)), (by first | (simp only [r_takeR, r_takeS, r_move, c_4_0, c_4_1, c_4_2, eq_true c_4_3, eq_true c_65, if_true, if_false, not_true_eq_false, not_false_eq_true]; done) | (simp [r_takeR, r_takeS, r_move, c_4_0, c_4_1, c_4_2, eq_true c_4_3, eq_true c_65]; done) | rfl)⟩
  by_cases c_4_4 : rP r = 4
  · skip
    refine lv_tableIn (off := 74) (tgt := 78) hx hb dX2_take_4 (by rw [c_4_4]; decide) (by rw [c_4_4]; decide) (by rw [c_4_4]; decide) (by decide) ?_
    refine lv_aload_n hx hb dX2_take_78 rfl (lv_at hl 0 rfl) ?_
    refine lv_iload_n hx hb dX2_take_79 rfl (lv_at hl 1 rfl) ?_
    refine lv_bipush (v := 48) hx hb dX2_take_80 (by decide) ?_
    refine lv_isub hx hb dX2_take_82 ?_
    refine g_cVi (As := [.int (a - 48)]) (rest := []) hx hb hml hown hts hK hA hG hS (k_X2_takeFirstDigit l D cy N L _ _ _ (by omega) (a - 48) ) (cwV 1 hts gX2_take_X2_takeFirstDigit rfl rfl rfl (by decide +kernel) ⟨Nat.le_of_ble_eq_true rfl, Nat.le_of_ble_eq_true rfl⟩) i_q0_0 rW_o (ci := 2) rfl rfl rfl rfl hl.1 (Nat.le_of_ble_eq_true rfl) dX2_take_83 ⟨Nat.zero_le _, Nat.zero_le _⟩ (fun H locs hG hS => ?_)
    exact g_iret hx hb hr hlocks hK hG hS (by first | exact r_psR_nar | exact r_sgR_nar | exact r_shR_nar | exact r_fdR_nar | exact r_ndR_nar | rfl) dX2_take_86 ⟨(congrArg (fun z9 => some (Value.int z9)) (by first | (simp only [r_takeR, r_takeS, r_move, c_4_0, c_4_1, c_4_2, c_4_3, eq_true c_4_4, if_true, if_false, not_true_eq_false, not_false_eq_true]; done) | (simp [r_takeR, r_takeS, r_move, c_4_0, c_4_1, c_4_2, c_4_3, eq_true c_4_4]; done) | rfl)), (by first | (simp only [r_takeR, r_takeS, r_move, c_4_0, c_4_1, c_4_2, c_4_3, eq_true c_4_4, if_true, if_false, not_true_eq_false, not_false_eq_true]; done) | (simp [r_takeR, r_takeS, r_move, c_4_0, c_4_1, c_4_2, c_4_3, eq_true c_4_4]; done) | rfl)⟩
  refine lv_tableOut (tgt := 87) hx hb dX2_take_4 (by have q0 := sw_ne (n := 0) (by decide) c_4_0; have q1 := sw_ne (n := 1) (by decide) c_4_1; have q2 := sw_ne (n := 2) (by decide) c_4_2; have q3 := sw_ne (n := 3) (by decide) c_4_3; have q4 := sw_ne (n := 4) (by decide) c_4_4; omega) (by decide) ?_
  refine lv_iload_n hx hb dX2_take_87 rfl (lv_at hl 1 rfl) ?_
  refine lv_bipush (v := 59) hx hb dX2_take_88 (by decide) ?_
  refine lv_icmp_ne (tgt := 102) hx hb dX2_take_90 (by decide) (fun c_90 => ?_) (fun c_90 => ?_)
  · skip
    refine lv_aload_n hx hb dX2_take_102 rfl (lv_at hl 0 rfl) ?_
    refine lv_iload_n hx hb dX2_take_103 rfl (lv_at hl 1 rfl) ?_
    refine lv_bipush (v := 48) hx hb dX2_take_104 (by decide) ?_
    refine lv_isub hx hb dX2_take_106 ?_
    refine g_cVi (As := [.int (a - 48)]) (rest := []) hx hb hml hown hts hK hA hG hS (k_X2_takeNextDigit l D cy N L _ _ _ (by omega) (a - 48) ) (cwV 1 hts gX2_take_X2_takeNextDigit rfl rfl rfl (by decide +kernel) ⟨Nat.le_of_ble_eq_true rfl, Nat.le_of_ble_eq_true rfl⟩) i_q0_0 rW_o (ci := 2) rfl rfl rfl rfl hl.1 (Nat.le_of_ble_eq_true rfl) dX2_take_107 ⟨Nat.zero_le _, Nat.zero_le _⟩ (fun H locs hG hS => ?_)
    exact g_iret hx hb hr hlocks hK hG hS (by first | exact r_psR_nar | exact r_sgR_nar | exact r_shR_nar | exact r_fdR_nar | exact r_ndR_nar | rfl) dX2_take_110 ⟨(congrArg (fun z9 => some (Value.int z9)) (by first | (simp only [r_takeR, r_takeS, r_move, c_4_0, c_4_1, c_4_2, c_4_3, c_4_4, c_90, if_true, if_false, not_true_eq_false, not_false_eq_true]; done) | (simp [r_takeR, r_takeS, r_move, c_4_0, c_4_1, c_4_2, c_4_3, c_4_4, c_90]; done) | rfl)), (by first | (simp only [r_takeR, r_takeS, r_move, c_4_0, c_4_1, c_4_2, c_4_3, c_4_4, c_90, if_true, if_false, not_true_eq_false, not_false_eq_true]; done) | (simp [r_takeR, r_takeS, r_move, c_4_0, c_4_1, c_4_2, c_4_3, c_4_4, c_90]; done) | rfl)⟩
  · skip
    refine lv_aload_n hx hb dX2_take_93 rfl (lv_at hl 0 rfl) ?_
    refine lv_iconst (v := 1) hx hb dX2_take_94 (by decide) ?_
    refine lv_iconst (v := 0) hx hb dX2_take_95 (by decide) ?_
    refine g_cVi (As := [.int 1, .int 0]) (rest := []) hx hb hml hown hts hK hA hG hS (k_X2_moveOn l D cy N L _ _ _ (by omega) 1 0 (by first | exact Or.inl rfl | exact Or.inr rfl)) (cwV 2 hts gX2_take_X2_moveOn rfl rfl rfl (by decide +kernel) ⟨Nat.le_of_ble_eq_true rfl, Nat.le_of_ble_eq_true rfl⟩) i_q0_0 rW_o (ci := 2) rfl rfl rfl rfl hl.1 (Nat.le_of_ble_eq_true rfl) dX2_take_96 ⟨Nat.zero_le _, Nat.zero_le _⟩ (fun H locs hG hS => ?_)
    refine lv_goto (tgt := 110) hx hb dX2_take_99 (by decide) ?_
    exact g_iret hx hb hr hlocks hK hG hS rfl dX2_take_110 ⟨(congrArg (fun z9 => some (Value.int z9)) (by first | (simp only [r_takeR, r_takeS, r_move, c_4_0, c_4_1, c_4_2, c_4_3, c_4_4, eq_true c_90, if_true, if_false, not_true_eq_false, not_false_eq_true]; done) | (simp [r_takeR, r_takeS, r_move, c_4_0, c_4_1, c_4_2, c_4_3, c_4_4, eq_true c_90]; done) | rfl)), (by first | (simp only [r_takeR, r_takeS, r_move, c_4_0, c_4_1, c_4_2, c_4_3, c_4_4, eq_true c_90, if_true, if_false, not_true_eq_false, not_false_eq_true]; done) | (simp [r_takeR, r_takeS, r_move, c_4_0, c_4_1, c_4_2, c_4_3, c_4_4, eq_true c_90]; done) | rfl)⟩
set_option maxHeartbeats 4000000 in
set_option maxRecDepth 100000 in
theorem k_X4_letOut (l : Launch) (D : va_G) (cy : Nat → ClassId) (N : Nat) (L : Nat → Nat) (F : Nat → va_E) (hN : 162 ≤ N) (C : CT) (k j q : Nat) (hy : wfY (cY C)) (hk : k < 4) (hj : j < 6) (hq : q < 1000) : GM l D cy N L yX4_letOut wsX4_letOut ({ frames := 4, cells := 0, slots := 0, locals := 93 }) [.ref (L 0), .ref (L (1 + 4 + 3 * k)), .ref (L (1 + 16 + j)), .int (nI q)] (cW cy L F C) (some (.int (y_letR (cY C) k j q))) (cW cy L F (y_let (cY C) k j q, cV C, cM C, cQ C, cB C, cL C, cR C, cT C, cU C)) := by
  refine GM.ofW (cc := cX4_letOut) (maxL := 6) (ret := (some .int)) (by decide) rfl (Nat.le_of_ble_eq_true rfl) ?_
  intro p e s m below meth c ls hx hb hr hts hown hlocks hml hK hA hG hS hl
  have hl : lv_has ls 6 [(0, .ref (L 0)), (1, .ref (L (1 + 4 + 3 * k))), (2, .ref (L (1 + 16 + j))), (3, .int (nI q))] := hl
  have hf10 := hts (.fieldLink RX4 10 "SiloPads" "now" "LSiloPads$Yard;") (by decide +kernel)
  have hinX4 : ∀ w ∈ u_ws RX4 TX4 8, w ∈ wsX4_letOut := by decide +kernel
  have hf222 := hts (.fieldLink RX4 222 "SiloPads$Yard" "dust" "I") (by decide +kernel)
  have hinX3 : ∀ w ∈ u_ws RX3 TX3 9, w ∈ wsX4_letOut := by decide +kernel
  refine lv_aload_n hx hb dX4_letOut_0 rfl (lv_at hl 1 rfl) ?_
  have hG : GW D N L (gA N L s.heap.size) (sW cy L (cW cy L F C) (1 + 4 + 3 * k) (yS (cY C) k)) _ := hG.to (by rw [cW_S0 (k := k) (by omega)])
  refine g_cVi (As := []) (rest := []) hx hb hml hown hts hK hA hG hS (k_X1_total l D cy N L _ (1 + 4 + 3 * k) (yS (cY C) k)  (by omega)  (hy k hk)) (cwV 0 hts gX4_letOut_X1_total rfl rfl rfl (by decide +kernel) ⟨Nat.le_of_ble_eq_true rfl, Nat.le_of_ble_eq_true rfl⟩) (by omega) sW_o (ci := 1) rfl rfl rfl rfl hl.1 (Nat.le_of_ble_eq_true rfl) dX4_letOut_1 ⟨Nat.zero_le _, Nat.zero_le _⟩ (fun H locs hG hS => ?_)
  have hG : GW D N L (gA N L s.heap.size) (cW cy L F C) _ := hG.to (by rw [cW_S0 (k := k) (by omega)] <;> rfl)
  refine lv_istore (lv' := [(4, .int (s_total (yS (cY C) k))), (0, .ref (L 0)), (1, .ref (L (1 + 4 + 3 * k))), (2, .ref (L (1 + 16 + j))), (3, .int (nI q))]) hx hb dX4_letOut_4 hl (by decide) rfl (fun ls hl => ?_)
  refine lv_aload_n hx hb dX4_letOut_6 rfl (lv_at hl 1 rfl) ?_
  refine lv_aload_n hx hb dX4_letOut_7 rfl (lv_at hl 2 rfl) ?_
  refine lv_aload_n hx hb dX4_letOut_8 rfl (lv_at hl 3 rfl) ?_
  refine lv_iload_n hx hb dX4_letOut_9 rfl (lv_at hl 4 rfl) ?_
  have hG : GW D N L (gA N L s.heap.size) (hW (sW cy L (cW cy L F C) (1 + 4 + 3 * k) (yS (cY C) k)) (1 + 16 + j) (yH (cY C) j)) _ := hG.to (by rw [cW_S0 (k := k) (by omega), cW_H0 (j := j) (by omega)])
  refine g_cVi (As := [.ref (L (1 + 4 + 3 * k)), .ref (L (1 + 16 + j)), .int (nI q)]) (rest := []) hx hb hml hown hts hK hA hG hS (k_X4_pour l D cy N L _ (1 + 4 + 3 * k) (yS (cY C) k) (1 + 16 + j) (yH (cY C) j)  (yZ (cY C)) (by omega) (by omega) (by omega) (by omega) (by omega) (cE_cW (F := F) (c := C)) q (hy k hk) (by omega)) (cwV 3 hts gX4_letOut_X4_pour rfl rfl rfl (by decide +kernel) ⟨Nat.le_of_ble_eq_true rfl, Nat.le_of_ble_eq_true rfl⟩) (by omega) (by rw [hW_n (by omega), sW_n (by omega)]; exact cW_o) (ci := 4) rfl rfl rfl rfl hl.1 (Nat.le_of_ble_eq_true rfl) dX4_letOut_10 ⟨Nat.zero_le _, Nat.zero_le _⟩ (fun H locs hG hS => ?_)
  have hG : GW D N L (gA N L s.heap.size) (cW cy L F (ySetH (ySetS (cY C) k ((c_poS (yZ (cY C)) (yS (cY C) k) (yH (cY C) j) q).1)) j ((c_poS (yZ (cY C)) (yS (cY C) k) (yH (cY C) j) q).2), cV C, cM C, cQ C, cB C, cL C, cR C, cT C, cU C)) _ := hG.to (by rw [cW_S (k := k) (by omega), cW_H (j := j) (by omega)] <;> rfl)
  refine lv_istore (lv' := [(5, .int (c_poR (yZ (cY C)) (yS (cY C) k) (yH (cY C) j) q)), (4, .int (s_total (yS (cY C) k))), (0, .ref (L 0)), (1, .ref (L (1 + 4 + 3 * k))), (2, .ref (L (1 + 16 + j))), (3, .int (nI q))]) hx hb dX4_letOut_13 hl (by decide) rfl (fun ls hl => ?_)
  refine lv_aload_n hx hb dX4_letOut_15 rfl (lv_at hl 2 rfl) ?_
  refine g_get (ci := 4) (C := RX4) (T := TX4) (M := 8) hx hb hts hinX4 hown hK hG (by omega) cW_o rfl 0 (by decide) hf10 rfl rfl dX4_letOut_16 ?_
  refine lv_dup hx hb dX4_letOut_19 rfl ?_
  refine g_get (ci := 3) (C := RX3) (T := TX3) (M := 9) hx hb hts hinX3 hown hK hG (by omega) cW_yo rfl 4 (by decide) hf222 rfl rfl dX4_letOut_20 ?_
  refine lv_iload hx hb dX4_letOut_23 (lv_at hl 1 rfl) ?_
  refine lv_aload_n hx hb dX4_letOut_25 rfl (lv_at hl 3 rfl) ?_
  have hG : GW D N L (gA N L s.heap.size) (sW cy L (cW cy L F (ySetH (ySetS (cY C) k ((c_poS (yZ (cY C)) (yS (cY C) k) (yH (cY C) j) q).1)) j ((c_poS (yZ (cY C)) (yS (cY C) k) (yH (cY C) j) q).2), cV C, cM C, cQ C, cB C, cL C, cR C, cT C, cU C)) (1 + 4 + 3 * k) (yS (ySetH (ySetS (cY C) k ((c_poS (yZ (cY C)) (yS (cY C) k) (yH (cY C) j) q).1)) j ((c_poS (yZ (cY C)) (yS (cY C) k) (yH (cY C) j) q).2)) k)) _ := hG.to (by rw [cW_S0 (k := k) (by omega)])
  refine g_cVi (As := []) (rest := [.int (s_total (yS (cY C) k)), .int (yC (ySetH (ySetS (cY C) k ((c_poS (yZ (cY C)) (yS (cY C) k) (yH (cY C) j) q).1)) j ((c_poS (yZ (cY C)) (yS (cY C) k) (yH (cY C) j) q).2)) 1), .ref (L 1)]) hx hb hml hown hts hK hA hG hS (k_X1_total l D cy N L _ (1 + 4 + 3 * k) (yS (ySetH (ySetS (cY C) k ((c_poS (yZ (cY C)) (yS (cY C) k) (yH (cY C) j) q).1)) j ((c_poS (yZ (cY C)) (yS (cY C) k) (yH (cY C) j) q).2)) k)  (by omega)  (by rw [yS_setH]; exact c_po_N (hy k hk) q)) (cwV 0 hts gX4_letOut_X1_total rfl rfl rfl (by decide +kernel) ⟨Nat.le_of_ble_eq_true rfl, Nat.le_of_ble_eq_true rfl⟩) (by omega) sW_o (ci := 1) rfl rfl rfl rfl hl.1 (Nat.le_of_ble_eq_true rfl) dX4_letOut_26 ⟨Nat.zero_le _, Nat.zero_le _⟩ (fun H locs hG hS => ?_)
  have hG : GW D N L (gA N L s.heap.size) (cW cy L F (ySetH (ySetS (cY C) k ((c_poS (yZ (cY C)) (yS (cY C) k) (yH (cY C) j) q).1)) j ((c_poS (yZ (cY C)) (yS (cY C) k) (yH (cY C) j) q).2), cV C, cM C, cQ C, cB C, cL C, cR C, cT C, cU C)) _ := hG.to (by rw [cW_S0 (k := k) (by omega)] <;> rfl)
  refine lv_isub hx hb dX4_letOut_29 ?_
  refine lv_iload hx hb dX4_letOut_30 (lv_at hl 0 rfl) ?_
  refine lv_isub hx hb dX4_letOut_32 ?_
  refine lv_iadd hx hb dX4_letOut_33 ?_
  refine g_put (ci := 3) (C := RX3) (T := TX3) (M := 9) (ty := .int) hx hb hts hinX3 tyX3 tyX3_ok nmX3 hown hK hG hS (by omega) cW_yo rfl 4 (by decide) hf222 rfl rfl rfl rfl rfl (Nat.le_of_ble_eq_true rfl) dX4_letOut_34 rfl (fun H locs hG hS => ?_)
  have hG : GW D N L (gA N L s.heap.size) (cW cy L F ((yS (ySetH (ySetS (cY C) k ((c_poS (yZ (cY C)) (yS (cY C) k) (yH (cY C) j) q).1)) j ((c_poS (yZ (cY C)) (yS (cY C) k) (yH (cY C) j) q).2)), yH (ySetH (ySetS (cY C) k ((c_poS (yZ (cY C)) (yS (cY C) k) (yH (cY C) j) q).1)) j ((c_poS (yZ (cY C)) (yS (cY C) k) (yH (cY C) j) q).2)), yZ (ySetH (ySetS (cY C) k ((c_poS (yZ (cY C)) (yS (cY C) k) (yH (cY C) j) q).1)) j ((c_poS (yZ (cY C)) (yS (cY C) k) (yH (cY C) j) q).2)), upd (yC (ySetH (ySetS (cY C) k ((c_poS (yZ (cY C)) (yS (cY C) k) (yH (cY C) j) q).1)) j ((c_poS (yZ (cY C)) (yS (cY C) k) (yH (cY C) j) q).2))) 1 ((yC (ySetH (ySetS (cY C) k ((c_poS (yZ (cY C)) (yS (cY C) k) (yH (cY C) j) q).1)) j ((c_poS (yZ (cY C)) (yS (cY C) k) (yH (cY C) j) q).2)) 1) + (((s_total (yS (cY C) k)) - (s_total (yS (ySetH (ySetS (cY C) k ((c_poS (yZ (cY C)) (yS (cY C) k) (yH (cY C) j) q).1)) j ((c_poS (yZ (cY C)) (yS (cY C) k) (yH (cY C) j) q).2)) k))) - (c_poR (yZ (cY C)) (yS (cY C) k) (yH (cY C) j) q)))), cV C, cM C, cQ C, cB C, cL C, cR C, cT C, cU C)) _ := hG.to cW_uy1
  refine lv_iload hx hb dX4_letOut_37 (lv_at hl 0 rfl) ?_
  exact g_iret hx hb hr hlocks hK hG hS rfl dX4_letOut_39 ⟨(congrArg (fun z9 => some (Value.int z9)) (by rfl)), (by rfl)⟩
set_option maxHeartbeats 4000000 in
set_option maxRecDepth 100000 in
theorem k_X4_passDays (l : Launch) (D : va_G) (cy : Nat → ClassId) (N : Nat) (L : Nat → Nat) (F : Nat → va_E) (hN : 162 ≤ N) (C : CT) (d : Nat) (hy : wfY (cY C)) (hd : d < 1000) : GM l D cy N L yX4_passDays wsX4_passDays ({ frames := 2, cells := 0, slots := 0, locals := 43 }) [.ref (L 0), .int (nI d)] (cW cy L F C) (some (.int (y_PR (cY C) d))) (cW cy L F (y_pass (cY C) d, cV C, cM C, cQ C, cB C, cL C, cR C, cT C, cU C)) := by
  refine GM.ofW (cc := cX4_passDays) (maxL := 5) (ret := (some .int)) (by decide) rfl (Nat.le_of_ble_eq_true rfl) ?_
  intro p e s m below meth c ls hx hb hr hts hown hlocks hml hK hA hG hS hl
  have hl : lv_has ls 5 [(0, .ref (L 0)), (1, .int (nI d))] := hl
  have hf10 := hts (.fieldLink RX4 10 "SiloPads" "now" "LSiloPads$Yard;") (by decide +kernel)
  have hinX4 : ∀ w ∈ u_ws RX4 TX4 8, w ∈ wsX4_passDays := by decide +kernel
  have hf228 := hts (.fieldLink RX4 228 "SiloPads$Yard" "formed" "I") (by decide +kernel)
  have hinX3 : ∀ w ∈ u_ws RX3 TX3 9, w ∈ wsX4_passDays := by decide +kernel
  have hf213 := hts (.fieldLink RX4 213 "SiloPads$Yard" "days" "I") (by decide +kernel)
  have hf94 := hts (.fieldLink RX4 94 "SiloPads$Yard" "silos" "[LSiloPads$Silo;") (by decide +kernel)
  refine lv_iconst (v := 0) hx hb dX4_passDays_0 (by decide) ?_
  refine lv_istore_n (lv' := [(2, .int 0), (0, .ref (L 0)), (1, .int (nI d))]) hx hb dX4_passDays_1 rfl hl (by decide) rfl (fun ls hl => ?_)
  refine lv_iconst (v := 0) hx hb dX4_passDays_2 (by decide) ?_
  refine lv_istore_n (lv' := [(3, .int 0), (2, .int 0), (0, .ref (L 0)), (1, .int (nI d))]) hx hb dX4_passDays_3 rfl hl (by decide) rfl (fun ls hl => ?_)
  refine W.loop (σ := Nat) (fun i H locs ls => (i ≤ d) ∧ GW D N L (gA N L s.heap.size) (cW cy L F (y_P (cY C) i, cV C, cM C, cQ C, cB C, cL C, cR C, cT C, cU C)) H ∧ va_S (gA N L s.heap.size) s.heap H locs ∧ lv_has ls 5 [(2, .int (y_PR (cY C) i)), (3, .int (nI i)), (0, .ref (L 0)), (1, .int (nI d))]) (fun i => d - i) 0 ⟨by omega, hG.to (rfl), hS, lv_to (lv_sub hl [1, 0, 2, 3] rfl) (rfl)⟩ ?_
  intro i H locs ls hP9 ih4
  obtain ⟨hi9, hG, hS, hl⟩ := hP9
  have hy9 := wfY_P hy i
  refine lv_iload_n hx hb dX4_passDays_4 rfl (lv_at hl 1 rfl) ?_
  refine lv_iload_n hx hb dX4_passDays_5 rfl (lv_at hl 3 rfl) ?_
  refine lv_icmp_ge (tgt := 60) hx hb dX4_passDays_6 (by decide) (fun c_6 => ?_) (fun c_6 => ?_)
  · skip
    have c_6 : d ≤ i := (nI_leI (a := d) (b := i) (by omega) (by omega)).mp c_6
    refine lv_aload_n hx hb dX4_passDays_60 rfl (lv_at hl 2 rfl) ?_
    refine g_get (ci := 4) (C := RX4) (T := TX4) (M := 8) hx hb hts hinX4 hown hK hG (by omega) cW_o rfl 0 (by decide) hf10 rfl rfl dX4_passDays_61 ?_
    refine lv_dup hx hb dX4_passDays_64 rfl ?_
    refine g_get (ci := 3) (C := RX3) (T := TX3) (M := 9) hx hb hts hinX3 hown hK hG (by omega) cW_yo rfl 8 (by decide) hf228 rfl rfl dX4_passDays_65 ?_
    refine lv_iload_n hx hb dX4_passDays_68 rfl (lv_at hl 0 rfl) ?_
    refine lv_iadd hx hb dX4_passDays_69 ?_
    refine g_put (ci := 3) (C := RX3) (T := TX3) (M := 9) (ty := .int) hx hb hts hinX3 tyX3 tyX3_ok nmX3 hown hK hG hS (by omega) cW_yo rfl 8 (by decide) hf228 rfl rfl rfl rfl rfl (Nat.le_of_ble_eq_true rfl) dX4_passDays_70 rfl (fun H locs hG hS => ?_)
    have hG : GW D N L (gA N L s.heap.size) (cW cy L F ((yS (y_P (cY C) i), yH (y_P (cY C) i), yZ (y_P (cY C) i), upd (yC (y_P (cY C) i)) 5 ((yC (y_P (cY C) i) 5) + (y_PR (cY C) i))), cV C, cM C, cQ C, cB C, cL C, cR C, cT C, cU C)) _ := hG.to cW_uy5
    refine lv_iload_n hx hb dX4_passDays_73 rfl (lv_at hl 0 rfl) ?_
    exact g_iret hx hb hr hlocks hK hG hS rfl dX4_passDays_74 ⟨(congrArg (fun z9 => some (Value.int z9)) (by rw [show i = d by omega])), (by rw [show i = d by omega]; rfl)⟩
  · skip
    have c_6 : ¬ d ≤ i := fun h9 => c_6 ((nI_leI (a := d) (b := i) (by omega) (by omega)).mpr h9)
    refine lv_aload_n hx hb dX4_passDays_9 rfl (lv_at hl 2 rfl) ?_
    refine g_get (ci := 4) (C := RX4) (T := TX4) (M := 8) hx hb hts hinX4 hown hK hG (by omega) cW_o rfl 0 (by decide) hf10 rfl rfl dX4_passDays_10 ?_
    refine lv_dup hx hb dX4_passDays_13 rfl ?_
    refine g_get (ci := 3) (C := RX3) (T := TX3) (M := 9) hx hb hts hinX3 hown hK hG (by omega) cW_yo rfl 3 (by decide) hf213 rfl rfl dX4_passDays_14 ?_
    refine lv_iconst (v := 1) hx hb dX4_passDays_17 (by decide) ?_
    refine lv_iadd hx hb dX4_passDays_18 ?_
    refine g_put (ci := 3) (C := RX3) (T := TX3) (M := 9) (ty := .int) hx hb hts hinX3 tyX3 tyX3_ok nmX3 hown hK hG hS (by omega) cW_yo rfl 3 (by decide) hf213 rfl rfl rfl rfl rfl (Nat.le_of_ble_eq_true rfl) dX4_passDays_19 rfl (fun H locs hG hS => ?_)
    have hG : GW D N L (gA N L s.heap.size) (cW cy L F ((yS (y_P (cY C) i), yH (y_P (cY C) i), yZ (y_P (cY C) i), upd (yC (y_P (cY C) i)) 0 ((yC (y_P (cY C) i) 0) + 1)), cV C, cM C, cQ C, cB C, cL C, cR C, cT C, cU C)) _ := hG.to cW_uy0
    refine lv_iconst (v := 0) hx hb dX4_passDays_22 (by decide) ?_
    refine lv_istore (lv' := [(4, .int 0), (2, .int (y_PR (cY C) i)), (3, .int (nI i)), (0, .ref (L 0)), (1, .int (nI d))]) hx hb dX4_passDays_23 hl (by decide) rfl (fun ls hl => ?_)
    refine W.loop (σ := Nat) (fun k H locs ls => (k ≤ 4) ∧ GW D N L (gA N L s.heap.size) (cW cy L F (y_dS (y_P (cY C) i) k, cV C, cM C, cQ C, cB C, cL C, cR C, cT C, cU C)) H ∧ va_S (gA N L s.heap.size) s.heap H locs ∧ lv_has ls 5 [(2, .int (y_dR (y_P (cY C) i) (y_PR (cY C) i) k)), (4, .int (nI k)), (3, .int (nI i)), (0, .ref (L 0)), (1, .int (nI d))]) (fun k => 4 - k) 0 ⟨by omega, hG.to (rfl), hS, lv_to (lv_sub hl [1, 0, 2, 3, 4] rfl) (rfl)⟩ ?_
    intro k H locs ls hP9 ih25
    obtain ⟨hk9, hG, hS, hl⟩ := hP9
    have hy8 := wfY_dS hy9 k hk9
    refine lv_iload hx hb dX4_passDays_25 (lv_at hl 1 rfl) ?_
    refine lv_iconst (v := 4) hx hb dX4_passDays_27 (by decide) ?_
    refine lv_icmp_ge (tgt := 54) hx hb dX4_passDays_28 (by decide) (fun c_28 => ?_) (fun c_28 => ?_)
    · skip
      have c_28 : 4 ≤ k := (nI_leI (a := 4) (b := k) (by omega) (by omega)).mp c_28
      refine lv_iinc (v := nI (i + 1)) (lv' := [(3, .int (nI (i + 1))), (2, .int (y_dR (y_P (cY C) i) (y_PR (cY C) i) k)), (4, .int (nI k)), (0, .ref (L 0)), (1, .int (nI d))]) hx hb dX4_passDays_54 hl (k := 2) rfl (nI_add i 1) (by decide) rfl (fun ls hl => ?_)
      refine lv_goto (tgt := 4) hx hb dX4_passDays_57 (by decide) ?_
      have hl : lv_has ls 5 [(2, .int (y_dR (y_P (cY C) i) (y_PR (cY C) i) k)), (3, .int (nI (i + 1))), (0, .ref (L 0)), (1, .int (nI d))] := lv_sub hl [1, 0, 3, 4] rfl
      exact ih4 (i + 1) _ _ _ (by omega) ⟨by omega, hG.to (by rw [show k = 4 by omega]; rfl), hS, lv_to hl (by rw [show k = 4 by omega]; rfl)⟩
    · skip
      have c_28 : ¬ 4 ≤ k := fun h9 => c_28 ((nI_leI (a := 4) (b := k) (by omega) (by omega)).mpr h9)
      refine lv_iload_n hx hb dX4_passDays_31 rfl (lv_at hl 0 rfl) ?_
      refine lv_aload_n hx hb dX4_passDays_32 rfl (lv_at hl 3 rfl) ?_
      refine lv_aload_n hx hb dX4_passDays_33 rfl (lv_at hl 3 rfl) ?_
      refine g_get (ci := 4) (C := RX4) (T := TX4) (M := 8) hx hb hts hinX4 hown hK hG (by omega) cW_o rfl 0 (by decide) hf10 rfl rfl dX4_passDays_34 ?_
      refine g_get (ci := 3) (C := RX3) (T := TX3) (M := 9) hx hb hts hinX3 hown hK hG (by omega) cW_yo rfl 0 (by decide) hf94 rfl rfl dX4_passDays_37 ?_
      refine lv_iload hx hb dX4_passDays_40 (lv_at hl 1 rfl) ?_
      refine g_aald (j := 1 + 4 + 3 * k) hx hb hK hG (by omega) cW_ys (t0 := 1) rfl (k := k) rfl (by omega) (by decide) rfl dX4_passDays_42 ?_
      have hG : GW D N L (gA N L s.heap.size) (sW cy L (cW cy L F (y_dS (y_P (cY C) i) k, cV C, cM C, cQ C, cB C, cL C, cR C, cT C, cU C)) (1 + 4 + 3 * k) (yS (y_dS (y_P (cY C) i) k) k)) _ := hG.to (by rw [cW_S0 (k := k) (by omega)])
      refine g_cVi (As := [.ref (L (1 + 4 + 3 * k))]) (rest := [.int (y_dR (y_P (cY C) i) (y_PR (cY C) i) k)]) hx hb hml hown hts hK hA hG hS (k_X4_passDayIn l D cy N L _ (1 + 4 + 3 * k) (yS (y_dS (y_P (cY C) i) k) k)  (yZ (y_dS (y_P (cY C) i) k)) (by omega) (by omega) (cE_cW (F := F) (c := (y_dS (y_P (cY C) i) k, cV C, cM C, cQ C, cB C, cL C, cR C, cT C, cU C)))  (hy8 k (by omega))) (cwV 1 hts gX4_passDays_X4_passDayIn rfl rfl rfl (by decide +kernel) ⟨Nat.le_of_ble_eq_true rfl, Nat.le_of_ble_eq_true rfl⟩) (by omega) (by rw [sW_n (by omega)]; exact cW_o) (ci := 4) rfl rfl rfl rfl hl.1 (Nat.le_of_ble_eq_true rfl) dX4_passDays_43 ⟨Nat.zero_le _, Nat.zero_le _⟩ (fun H locs hG hS => ?_)
      have hG : GW D N L (gA N L s.heap.size) (cW cy L F (ySetS (y_dS (y_P (cY C) i) k) k (c_dayV (yZ (y_dS (y_P (cY C) i) k)) (yS (y_dS (y_P (cY C) i) k) k)), cV C, cM C, cQ C, cB C, cL C, cR C, cT C, cU C)) _ := hG.to (by rw [cW_S (k := k) (by omega)] <;> rfl)
      refine lv_iadd hx hb dX4_passDays_46 ?_
      refine lv_istore_n (lv' := [(2, .int ((y_dR (y_P (cY C) i) (y_PR (cY C) i) k) + (c_dayR (yZ (y_dS (y_P (cY C) i) k)) (yS (y_dS (y_P (cY C) i) k) k)))), (4, .int (nI k)), (3, .int (nI i)), (0, .ref (L 0)), (1, .int (nI d))]) hx hb dX4_passDays_47 rfl hl (by decide) rfl (fun ls hl => ?_)
      refine lv_iinc (v := nI (k + 1)) (lv' := [(4, .int (nI (k + 1))), (2, .int ((y_dR (y_P (cY C) i) (y_PR (cY C) i) k) + (c_dayR (yZ (y_dS (y_P (cY C) i) k)) (yS (y_dS (y_P (cY C) i) k) k)))), (3, .int (nI i)), (0, .ref (L 0)), (1, .int (nI d))]) hx hb dX4_passDays_48 hl (k := 1) rfl (nI_add k 1) (by decide) rfl (fun ls hl => ?_)
      refine lv_goto (tgt := 25) hx hb dX4_passDays_51 (by decide) ?_
      have hl : lv_has ls 5 [(2, .int ((y_dR (y_P (cY C) i) (y_PR (cY C) i) k) + (c_dayR (yZ (y_dS (y_P (cY C) i) k)) (yS (y_dS (y_P (cY C) i) k) k)))), (4, .int (nI (k + 1))), (3, .int (nI i)), (0, .ref (L 0)), (1, .int (nI d))] := lv_sub hl [1, 0, 2, 3, 4] rfl
      exact ih25 (k + 1) _ _ _ (by omega) ⟨by omega, hG.to (rfl), hS, lv_to hl (rfl)⟩
set_option maxHeartbeats 4000000 in
set_option maxRecDepth 100000 in
theorem k_X4_urgent (l : Launch) (D : va_G) (cy : Nat → ClassId) (N : Nat) (L : Nat → Nat) (F : Nat → va_E) (hN : 162 ≤ N) (C : CT)  (hy : wfY (cY C)) : GM l D cy N L yX4_urgent wsX4_urgent ({ frames := 3, cells := 0, slots := 0, locals := 64 }) [.ref (L 0)] (cW cy L F C) (some (.int (g_bestI (y_best (cY C) 4)))) (cW cy L F C) := by
  refine GM.ofW (cc := cX4_urgent) (maxL := 3) (ret := (some .int)) (by decide) rfl (Nat.le_of_ble_eq_true rfl) ?_
  intro p e s m below meth c ls hx hb hr hts hown hlocks hml hK hA hG hS hl
  have hl : lv_has ls 3 [(0, .ref (L 0))] := hl
  have hf10 := hts (.fieldLink RX4 10 "SiloPads" "now" "LSiloPads$Yard;") (by decide +kernel)
  have hinX4 : ∀ w ∈ u_ws RX4 TX4 8, w ∈ wsX4_urgent := by decide +kernel
  have hf94 := hts (.fieldLink RX4 94 "SiloPads$Yard" "silos" "[LSiloPads$Silo;") (by decide +kernel)
  have hinX3 : ∀ w ∈ u_ws RX3 TX3 9, w ∈ wsX4_urgent := by decide +kernel
  have hf125 := hts (.fieldLink RX4 125 "SiloPads$Silo" "layers" "I") (by decide +kernel)
  have hinX1 : ∀ w ∈ u_ws RX1 TX1 6, w ∈ wsX4_urgent := by decide +kernel
  refine lv_iconst (v := -1) hx hb dX4_urgent_0 (by decide) ?_
  refine lv_istore_n (lv' := [(1, .int (-1)), (0, .ref (L 0))]) hx hb dX4_urgent_1 rfl hl (by decide) rfl (fun ls hl => ?_)
  refine lv_iconst (v := 0) hx hb dX4_urgent_2 (by decide) ?_
  refine lv_istore_n (lv' := [(2, .int 0), (1, .int (-1)), (0, .ref (L 0))]) hx hb dX4_urgent_3 rfl hl (by decide) rfl (fun ls hl => ?_)
  refine W.loop (σ := Nat) (fun k H locs ls => (k ≤ 4) ∧ GW D N L (gA N L s.heap.size) (cW cy L F C) H ∧ va_S (gA N L s.heap.size) s.heap H locs ∧ lv_has ls 3 [(1, .int (g_bestI (y_best (cY C) k))), (2, .int (nI k)), (0, .ref (L 0))]) (fun k => 4 - k) 0 ⟨by omega, hG.to (rfl), hS, lv_to (lv_sub hl [1, 0, 2] rfl) (rfl)⟩ ?_
  intro k H locs ls hP9 ih4
  obtain ⟨hk9, hG, hS, hl⟩ := hP9
  refine lv_iload_n hx hb dX4_urgent_4 rfl (lv_at hl 1 rfl) ?_
  refine lv_iconst (v := 4) hx hb dX4_urgent_5 (by decide) ?_
  refine lv_icmp_ge (tgt := 61) hx hb dX4_urgent_6 (by decide) (fun c_6 => ?_) (fun c_6 => ?_)
  · skip
    have c_6 : 4 ≤ k := (nI_leI (a := 4) (b := k) (by omega) (by omega)).mp c_6
    refine lv_iload_n hx hb dX4_urgent_61 rfl (lv_at hl 0 rfl) ?_
    exact g_iret hx hb hr hlocks hK hG hS rfl dX4_urgent_62 ⟨(congrArg (fun z9 => some (Value.int z9)) (by rw [show k = 4 by omega])), rfl⟩
  · skip
    have c_6 : ¬ 4 ≤ k := fun h9 => c_6 ((nI_leI (a := 4) (b := k) (by omega) (by omega)).mpr h9)
    have hyk := hy k (by omega)
    refine lv_aload_n hx hb dX4_urgent_9 rfl (lv_at hl 2 rfl) ?_
    refine g_get (ci := 4) (C := RX4) (T := TX4) (M := 8) hx hb hts hinX4 hown hK hG (by omega) cW_o rfl 0 (by decide) hf10 rfl rfl dX4_urgent_10 ?_
    refine g_get (ci := 3) (C := RX3) (T := TX3) (M := 9) hx hb hts hinX3 hown hK hG (by omega) cW_yo rfl 0 (by decide) hf94 rfl rfl dX4_urgent_13 ?_
    refine lv_iload_n hx hb dX4_urgent_16 rfl (lv_at hl 1 rfl) ?_
    refine g_aald (j := 1 + 4 + 3 * k) hx hb hK hG (by omega) cW_ys (t0 := 1) rfl (k := k) rfl (by omega) (by decide) rfl dX4_urgent_17 ?_
    refine g_get (ci := 1) (C := RX1) (T := TX1) (M := 6) hx hb hts hinX1 hown hK hG (by omega) (cW_so (k := k) (by omega)) rfl 2 (by decide) hf125 rfl rfl dX4_urgent_18 ?_
    refine lv_if_le (tgt := 55) hx hb dX4_urgent_21 (by decide) (fun c_21 => ?_) (fun c_21 => ?_)
    · skip
      have c_21 : (sN (yS (cY C) k)) ≤ 0 := (nI_leI (a := sN (yS (cY C) k)) (b := 0) (by omega) (by omega)).mp c_21
      refine lv_iinc (v := nI (k + 1)) (lv' := [(2, .int (nI (k + 1))), (1, .int (g_bestI (y_best (cY C) k))), (0, .ref (L 0))]) hx hb dX4_urgent_55 hl (k := 1) rfl (nI_add k 1) (by decide) rfl (fun ls hl => ?_)
      refine lv_goto (tgt := 4) hx hb dX4_urgent_58 (by decide) ?_
      have hl : lv_has ls 3 [(1, .int (g_bestI (y_best (cY C) k))), (2, .int (nI (k + 1))), (0, .ref (L 0))] := lv_sub hl [1, 0, 2] rfl
      exact ih4 (k + 1) _ _ _ (by omega) ⟨by omega, hG.to (rfl), hS, lv_to hl (by first | (simp only [y_best, hb8, c_6, c_21, if_true, if_false, g_bestI_of (show k < 4 by omega)]; done) | (simp only [y_best, c_6, c_21, if_true, if_false]; done))⟩
    · skip
      have c_21 : ¬ (sN (yS (cY C) k)) ≤ 0 := fun h9 => c_21 ((nI_leI (a := sN (yS (cY C) k)) (b := 0) (by omega) (by omega)).mpr h9)
      refine lv_iload_n hx hb dX4_urgent_24 rfl (lv_at hl 0 rfl) ?_
      refine lv_iconst (v := -1) hx hb dX4_urgent_25 (by decide) ?_
      refine lv_icmp_eq (tgt := 53) hx hb dX4_urgent_26 (by decide) (fun c_26 => ?_) (fun c_26 => ?_)
      · skip
        have hb8 : y_best (cY C) k = 4 := g_bestI_4 (y_best_lt (y := cY C) k) (by omega) c_26
        refine lv_iload_n hx hb dX4_urgent_53 rfl (lv_at hl 1 rfl) ?_
        refine lv_istore_n (lv' := [(1, .int (nI k)), (2, .int (nI k)), (0, .ref (L 0))]) hx hb dX4_urgent_54 rfl hl (by decide) rfl (fun ls hl => ?_)
        refine lv_iinc (v := nI (k + 1)) (lv' := [(2, .int (nI (k + 1))), (1, .int (nI k)), (0, .ref (L 0))]) hx hb dX4_urgent_55 hl (k := 1) rfl (nI_add k 1) (by decide) rfl (fun ls hl => ?_)
        refine lv_goto (tgt := 4) hx hb dX4_urgent_58 (by decide) ?_
        have hl : lv_has ls 3 [(1, .int (nI k)), (2, .int (nI (k + 1))), (0, .ref (L 0))] := lv_sub hl [1, 0, 2] rfl
        exact ih4 (k + 1) _ _ _ (by omega) ⟨by omega, hG.to (rfl), hS, lv_to hl (by first | (simp only [y_best, hb8, c_6, c_21, eq_true c_26, if_true, if_false, g_bestI_of (show k < 4 by omega)]; done) | (simp only [y_best, c_6, c_21, eq_true c_26, if_true, if_false]; done))⟩
      · skip
        have hb8 : ¬ y_best (cY C) k = 4 := fun h9 => c_26 (by rw [h9]; rfl)
        have hb7 := y_best_lt (y := cY C) k
        refine lv_aload_n hx hb dX4_urgent_29 rfl (lv_at hl 2 rfl) ?_
        refine g_get (ci := 4) (C := RX4) (T := TX4) (M := 8) hx hb hts hinX4 hown hK hG (by omega) cW_o rfl 0 (by decide) hf10 rfl rfl dX4_urgent_30 ?_
        refine g_get (ci := 3) (C := RX3) (T := TX3) (M := 9) hx hb hts hinX3 hown hK hG (by omega) cW_yo rfl 0 (by decide) hf94 rfl rfl dX4_urgent_33 ?_
        refine lv_iload_n hx hb dX4_urgent_36 rfl (lv_at hl 1 rfl) ?_
        refine g_aald (j := 1 + 4 + 3 * k) hx hb hK hG (by omega) cW_ys (t0 := 1) rfl (k := k) rfl (by omega) (by decide) rfl dX4_urgent_37 ?_
        refine lv_aload_n hx hb dX4_urgent_38 rfl (lv_at hl 2 rfl) ?_
        refine g_get (ci := 4) (C := RX4) (T := TX4) (M := 8) hx hb hts hinX4 hown hK hG (by omega) cW_o rfl 0 (by decide) hf10 rfl rfl dX4_urgent_39 ?_
        refine g_get (ci := 3) (C := RX3) (T := TX3) (M := 9) hx hb hts hinX3 hown hK hG (by omega) cW_yo rfl 0 (by decide) hf94 rfl rfl dX4_urgent_42 ?_
        refine lv_iload_n hx hb dX4_urgent_45 rfl (lv_at hl 0 rfl) ?_
        refine lv_toN (k := y_best (cY C) k) (g_bestI_of (by omega)) ?_
        refine g_aald (j := 1 + 4 + 3 * (y_best (cY C) k)) hx hb hK hG (by omega) cW_ys (t0 := 1) rfl (k := y_best (cY C) k) rfl (by omega) (by decide) rfl dX4_urgent_46 ?_
        have hG : GW D N L (gA N L s.heap.size) (sW cy L (sW cy L (cW cy L F C) (1 + 4 + 3 * (y_best (cY C) k)) (yS (cY C) (y_best (cY C) k))) (1 + 4 + 3 * k) (yS (cY C) k)) _ := hG.to (by rw [cW_S0 (k := (y_best (cY C) k)) (by omega), cW_S0 (k := k) (by omega)])
        refine g_cSi (As := [.ref (L (1 + 4 + 3 * k)), .ref (L (1 + 4 + 3 * (y_best (cY C) k)))]) (rest := []) hx hb hml hown hts hK hA hG hS (k_X4_isMoreUrgent l D cy N L _ (1 + 4 + 3 * (y_best (cY C) k)) (yS (cY C) (y_best (cY C) k)) (1 + 4 + 3 * k) (yS (cY C) k)  (by omega) (by omega) (by omega)  (hy _ (by omega)) (hy _ (by omega))) (g_cwS 2 hts gX4_urgent_X4_isMoreUrgent rfl rfl rfl (by decide +kernel) ⟨Nat.le_of_ble_eq_true rfl, Nat.le_of_ble_eq_true rfl⟩) rfl rfl hl.1 (Nat.le_of_ble_eq_true rfl) dX4_urgent_47 ⟨Nat.zero_le _, Nat.zero_le _⟩ (fun H locs hG hS => ?_)
        have hG : GW D N L (gA N L s.heap.size) (cW cy L F C) _ := hG.to (by rw [cW_S0 (k := (y_best (cY C) k)) (by omega), cW_S0 (k := k) (by omega)] <;> rfl)
        refine lv_if_eq (tgt := 55) hx hb dX4_urgent_50 (by decide) (fun c_50 => ?_) (fun c_50 => ?_)
        · skip
          refine lv_iinc (v := nI (k + 1)) (lv' := [(2, .int (nI (k + 1))), (1, .int (g_bestI (y_best (cY C) k))), (0, .ref (L 0))]) hx hb dX4_urgent_55 hl (k := 1) rfl (nI_add k 1) (by decide) rfl (fun ls hl => ?_)
          refine lv_goto (tgt := 4) hx hb dX4_urgent_58 (by decide) ?_
          have hl : lv_has ls 3 [(1, .int (g_bestI (y_best (cY C) k))), (2, .int (nI (k + 1))), (0, .ref (L 0))] := lv_sub hl [1, 0, 2] rfl
          exact ih4 (k + 1) _ _ _ (by omega) ⟨by omega, hG.to (rfl), hS, lv_to hl (by first | (simp only [y_best, hb8, c_6, c_21, c_26, eq_true c_50, if_true, if_false, g_bestI_of (show k < 4 by omega)]; done) | (simp only [y_best, c_6, c_21, c_26, eq_true c_50, if_true, if_false]; done))⟩
        · skip
          refine lv_iload_n hx hb dX4_urgent_53 rfl (lv_at hl 1 rfl) ?_
          refine lv_istore_n (lv' := [(1, .int (nI k)), (2, .int (nI k)), (0, .ref (L 0))]) hx hb dX4_urgent_54 rfl hl (by decide) rfl (fun ls hl => ?_)
          refine lv_iinc (v := nI (k + 1)) (lv' := [(2, .int (nI (k + 1))), (1, .int (nI k)), (0, .ref (L 0))]) hx hb dX4_urgent_55 hl (k := 1) rfl (nI_add k 1) (by decide) rfl (fun ls hl => ?_)
          refine lv_goto (tgt := 4) hx hb dX4_urgent_58 (by decide) ?_
          have hl : lv_has ls 3 [(1, .int (nI k)), (2, .int (nI (k + 1))), (0, .ref (L 0))] := lv_sub hl [1, 0, 2] rfl
          exact ih4 (k + 1) _ _ _ (by omega) ⟨by omega, hG.to (rfl), hS, lv_to hl (by first | (simp only [y_best, hb8, c_6, c_21, c_26, c_50, if_true, if_false, g_bestI_of (show k < 4 by omega)]; done) | (simp only [y_best, c_6, c_21, c_26, c_50, if_true, if_false]; done))⟩
set_option maxHeartbeats 4000000 in
set_option maxRecDepth 100000 in
theorem k_X4_nextArch (l : Launch) (D : va_G) (cy : Nat → ClassId) (N : Nat) (L : Nat → Nat) (F : Nat → va_E) (hN : 162 ≤ N) (C : CT)  (hy : wfY (cY C)) : GM l D cy N L yX4_nextArch wsX4_nextArch ({ frames := 2, cells := 0, slots := 0, locals := 42 }) [.ref (L 0)] (cW cy L F C) (some (.int (y_next (cY C) 4))) (cW cy L F C) := by
  refine GM.ofW (cc := cX4_nextArch) (maxL := 4) (ret := (some .int)) (by decide) rfl (Nat.le_of_ble_eq_true rfl) ?_
  intro p e s m below meth c ls hx hb hr hts hown hlocks hml hK hA hG hS hl
  have hl : lv_has ls 4 [(0, .ref (L 0))] := hl
  have hf10 := hts (.fieldLink RX4 10 "SiloPads" "now" "LSiloPads$Yard;") (by decide +kernel)
  have hinX4 : ∀ w ∈ u_ws RX4 TX4 8, w ∈ wsX4_nextArch := by decide +kernel
  have hf94 := hts (.fieldLink RX4 94 "SiloPads$Yard" "silos" "[LSiloPads$Silo;") (by decide +kernel)
  have hinX3 : ∀ w ∈ u_ws RX3 TX3 9, w ∈ wsX4_nextArch := by decide +kernel
  have hf203 := hts (.fieldLink RX4 203 "SiloPads$Silo" "ages" "[I") (by decide +kernel)
  have hinX1 : ∀ w ∈ u_ws RX1 TX1 6, w ∈ wsX4_nextArch := by decide +kernel
  have hm257 := hts (.methodLink RX4 257 Lib.Math.min.name) (by decide +kernel)
  have hmsmin := hts (.static Lib.Math.min.name) (by decide +kernel)
  have hmcmin := hts (.code Lib.Math.min.name Lib.Math.min.code 2 (some .int)) (by decide +kernel)
  have hmi := hts (.initialized "java/lang/Math") (by decide +kernel)
  refine lv_iconst (v := -1) hx hb dX4_nextArch_0 (by decide) ?_
  refine lv_istore_n (lv' := [(1, .int (-1)), (0, .ref (L 0))]) hx hb dX4_nextArch_1 rfl hl (by decide) rfl (fun ls hl => ?_)
  refine lv_iconst (v := 0) hx hb dX4_nextArch_2 (by decide) ?_
  refine lv_istore_n (lv' := [(2, .int 0), (1, .int (-1)), (0, .ref (L 0))]) hx hb dX4_nextArch_3 rfl hl (by decide) rfl (fun ls hl => ?_)
  refine W.loop (σ := Nat) (fun k H locs ls => (k ≤ 4) ∧ GW D N L (gA N L s.heap.size) (cW cy L F C) H ∧ va_S (gA N L s.heap.size) s.heap H locs ∧ lv_has ls 4 [(1, .int (y_next (cY C) k)), (2, .int (nI k)), (0, .ref (L 0))]) (fun k => 4 - k) 0 ⟨by omega, hG.to (rfl), hS, lv_to (lv_sub hl [1, 0, 2] rfl) (rfl)⟩ ?_
  intro k H locs ls hP9 ih4
  obtain ⟨hk9, hG, hS, hl⟩ := hP9
  refine lv_iload_n hx hb dX4_nextArch_4 rfl (lv_at hl 1 rfl) ?_
  refine lv_iconst (v := 4) hx hb dX4_nextArch_5 (by decide) ?_
  refine lv_icmp_ge (tgt := 64) hx hb dX4_nextArch_6 (by decide) (fun c_6 => ?_) (fun c_6 => ?_)
  · skip
    have c_6 : 4 ≤ k := (nI_leI (a := 4) (b := k) (by omega) (by omega)).mp c_6
    refine lv_iload_n hx hb dX4_nextArch_64 rfl (lv_at hl 0 rfl) ?_
    exact g_iret hx hb hr hlocks hK hG hS rfl dX4_nextArch_65 ⟨(congrArg (fun z9 => some (Value.int z9)) (by rw [show k = 4 by omega])), rfl⟩
  · skip
    have c_6 : ¬ 4 ≤ k := fun h9 => c_6 ((nI_leI (a := 4) (b := k) (by omega) (by omega)).mpr h9)
    refine lv_aload_n hx hb dX4_nextArch_9 rfl (lv_at hl 2 rfl) ?_
    refine g_get (ci := 4) (C := RX4) (T := TX4) (M := 8) hx hb hts hinX4 hown hK hG (by omega) cW_o rfl 0 (by decide) hf10 rfl rfl dX4_nextArch_10 ?_
    refine g_get (ci := 3) (C := RX3) (T := TX3) (M := 9) hx hb hts hinX3 hown hK hG (by omega) cW_yo rfl 0 (by decide) hf94 rfl rfl dX4_nextArch_13 ?_
    refine lv_iload_n hx hb dX4_nextArch_16 rfl (lv_at hl 1 rfl) ?_
    refine g_aald (j := 1 + 4 + 3 * k) hx hb hK hG (by omega) cW_ys (t0 := 1) rfl (k := k) rfl (by omega) (by decide) rfl dX4_nextArch_17 ?_
    have hG : GW D N L (gA N L s.heap.size) (sW cy L (cW cy L F C) (1 + 4 + 3 * k) (yS (cY C) k)) _ := hG.to (by rw [cW_S0 (k := k) (by omega)])
    refine g_cVi (As := []) (rest := []) hx hb hml hown hts hK hA hG hS (k_X1_canGetArch l D cy N L _ (1 + 4 + 3 * k) (yS (cY C) k)  (by omega)  (hy k (by omega))) (cwV 0 hts gX4_nextArch_X1_canGetArch rfl rfl rfl (by decide +kernel) ⟨Nat.le_of_ble_eq_true rfl, Nat.le_of_ble_eq_true rfl⟩) (by omega) sW_o (ci := 1) rfl rfl rfl rfl hl.1 (Nat.le_of_ble_eq_true rfl) dX4_nextArch_18 ⟨Nat.zero_le _, Nat.zero_le _⟩ (fun H locs hG hS => ?_)
    have hG : GW D N L (gA N L s.heap.size) (cW cy L F C) _ := hG.to (by rw [cW_S0 (k := k) (by omega)] <;> rfl)
    refine lv_if_eq (tgt := 58) hx hb dX4_nextArch_21 (by decide) (fun c_21 => ?_) (fun c_21 => ?_)
    · skip
      refine lv_iinc (v := nI (k + 1)) (lv' := [(2, .int (nI (k + 1))), (1, .int (y_next (cY C) k)), (0, .ref (L 0))]) hx hb dX4_nextArch_58 hl (k := 1) rfl (nI_add k 1) (by decide) rfl (fun ls hl => ?_)
      refine lv_goto (tgt := 4) hx hb dX4_nextArch_61 (by decide) ?_
      have hl : lv_has ls 4 [(1, .int (y_next (cY C) k)), (2, .int (nI (k + 1))), (0, .ref (L 0))] := lv_sub hl [1, 0, 2] rfl
      exact ih4 (k + 1) _ _ _ (by omega) ⟨by omega, hG.to (rfl), hS, lv_to hl (by simp only [y_next, c_6, eq_true c_21, if_true, if_false])⟩
    · skip
      refine lv_aload_n hx hb dX4_nextArch_24 rfl (lv_at hl 2 rfl) ?_
      refine lv_aload_n hx hb dX4_nextArch_25 rfl (lv_at hl 2 rfl) ?_
      refine g_get (ci := 4) (C := RX4) (T := TX4) (M := 8) hx hb hts hinX4 hown hK hG (by omega) cW_o rfl 0 (by decide) hf10 rfl rfl dX4_nextArch_26 ?_
      refine g_get (ci := 3) (C := RX3) (T := TX3) (M := 9) hx hb hts hinX3 hown hK hG (by omega) cW_yo rfl 0 (by decide) hf94 rfl rfl dX4_nextArch_29 ?_
      refine lv_iload_n hx hb dX4_nextArch_32 rfl (lv_at hl 1 rfl) ?_
      refine g_aald (j := 1 + 4 + 3 * k) hx hb hK hG (by omega) cW_ys (t0 := 1) rfl (k := k) rfl (by omega) (by decide) rfl dX4_nextArch_33 ?_
      refine g_get (ci := 1) (C := RX1) (T := TX1) (M := 6) hx hb hts hinX1 hown hK hG (by omega) (cW_so (k := k) (by omega)) rfl 1 (by decide) hf203 rfl rfl dX4_nextArch_34 ?_
      refine lv_iconst (v := 0) hx hb dX4_nextArch_37 (by decide) ?_
      refine g_iald hx hb hK hG (by omega) (cW_sa (k := k) (by omega)) (k := 0) rfl (by omega) (by decide) dX4_nextArch_38 ?_
      refine g_cVi (As := [.int ((sA (yS (cY C) k)) 0)]) (rest := []) hx hb hml hown hts hK hA hG hS (k_X4_daysUntilStiff l D cy N L _  (yZ (cY C)) (by omega) (cE_cW (F := F) (c := C)) ((sA (yS (cY C) k)) 0) ) (cwV 1 hts gX4_nextArch_X4_daysUntilStiff rfl rfl rfl (by decide +kernel) ⟨Nat.le_of_ble_eq_true rfl, Nat.le_of_ble_eq_true rfl⟩) (by omega) cW_o (ci := 4) rfl rfl rfl rfl hl.1 (Nat.le_of_ble_eq_true rfl) dX4_nextArch_39 ⟨Nat.zero_le _, Nat.zero_le _⟩ (fun H locs hG hS => ?_)
      refine lv_istore_n (lv' := [(3, .int (c_until (yZ (cY C)) ((sA (yS (cY C) k)) 0))), (1, .int (y_next (cY C) k)), (2, .int (nI k)), (0, .ref (L 0))]) hx hb dX4_nextArch_42 rfl hl (by decide) rfl (fun ls hl => ?_)
      refine lv_iload_n hx hb dX4_nextArch_43 rfl (lv_at hl 1 rfl) ?_
      refine lv_iconst (v := -1) hx hb dX4_nextArch_44 (by decide) ?_
      refine lv_icmp_ne (tgt := 52) hx hb dX4_nextArch_45 (by decide) (fun c_45 => ?_) (fun c_45 => ?_)
      · skip
        refine lv_iload_n hx hb dX4_nextArch_52 rfl (lv_at hl 1 rfl) ?_
        refine lv_iload_n hx hb dX4_nextArch_53 rfl (lv_at hl 0 rfl) ?_
        refine va_mmin hx hb (hml.trans hl.1.symm) hown hm257 hmsmin hmi hmcmin (Nat.le_of_ble_eq_true rfl) (Nat.le_of_ble_eq_true rfl) (Nat.zero_le _) (Nat.zero_le _) dX4_nextArch_54 ?_
        refine lv_istore_n (lv' := [(1, .int (if c_until (yZ (cY C)) ((sA (yS (cY C) k)) 0) < y_next (cY C) k then c_until (yZ (cY C)) ((sA (yS (cY C) k)) 0) else y_next (cY C) k)), (3, .int (c_until (yZ (cY C)) ((sA (yS (cY C) k)) 0))), (2, .int (nI k)), (0, .ref (L 0))]) hx hb dX4_nextArch_57 rfl hl (by decide) rfl (fun ls hl => ?_)
        refine lv_iinc (v := nI (k + 1)) (lv' := [(2, .int (nI (k + 1))), (1, .int (if c_until (yZ (cY C)) ((sA (yS (cY C) k)) 0) < y_next (cY C) k then c_until (yZ (cY C)) ((sA (yS (cY C) k)) 0) else y_next (cY C) k)), (3, .int (c_until (yZ (cY C)) ((sA (yS (cY C) k)) 0))), (0, .ref (L 0))]) hx hb dX4_nextArch_58 hl (k := 2) rfl (nI_add k 1) (by decide) rfl (fun ls hl => ?_)
        refine lv_goto (tgt := 4) hx hb dX4_nextArch_61 (by decide) ?_
        have hl : lv_has ls 4 [(1, .int (if c_until (yZ (cY C)) ((sA (yS (cY C) k)) 0) < y_next (cY C) k then c_until (yZ (cY C)) ((sA (yS (cY C) k)) 0) else y_next (cY C) k)), (2, .int (nI (k + 1))), (0, .ref (L 0))] := lv_sub hl [1, 0, 3] rfl
        exact ih4 (k + 1) _ _ _ (by omega) ⟨by omega, hG.to (rfl), hS, lv_to hl (by simp only [y_next, c_6, c_21, c_45, if_true, if_false])⟩
      · skip
        refine lv_iload_n hx hb dX4_nextArch_48 rfl (lv_at hl 0 rfl) ?_
        refine lv_goto (tgt := 57) hx hb dX4_nextArch_49 (by decide) ?_
        refine lv_istore_n (lv' := [(1, .int (c_until (yZ (cY C)) ((sA (yS (cY C) k)) 0))), (3, .int (c_until (yZ (cY C)) ((sA (yS (cY C) k)) 0))), (2, .int (nI k)), (0, .ref (L 0))]) hx hb dX4_nextArch_57 rfl hl (by decide) rfl (fun ls hl => ?_)
        refine lv_iinc (v := nI (k + 1)) (lv' := [(2, .int (nI (k + 1))), (1, .int (c_until (yZ (cY C)) ((sA (yS (cY C) k)) 0))), (3, .int (c_until (yZ (cY C)) ((sA (yS (cY C) k)) 0))), (0, .ref (L 0))]) hx hb dX4_nextArch_58 hl (k := 2) rfl (nI_add k 1) (by decide) rfl (fun ls hl => ?_)
        refine lv_goto (tgt := 4) hx hb dX4_nextArch_61 (by decide) ?_
        have hl : lv_has ls 4 [(1, .int (c_until (yZ (cY C)) ((sA (yS (cY C) k)) 0))), (2, .int (nI (k + 1))), (0, .ref (L 0))] := lv_sub hl [1, 0, 3] rfl
        exact ih4 (k + 1) _ _ _ (by omega) ⟨by omega, hG.to (rfl), hS, lv_to hl (by simp only [y_next, c_6, c_21, eq_true c_45, if_true, if_false])⟩
set_option maxHeartbeats 4000000 in
set_option maxRecDepth 100000 in
theorem k_X4_softness (l : Launch) (D : va_G) (cy : Nat → ClassId) (N : Nat) (L : Nat → Nat) (F : Nat → va_E) (hN : 162 ≤ N) (C : CT)  (hy : wfY (cY C)) (hf : ¬ y_silos (cY C) 4 = 0 → vf_n64 (FP.ddiv (FP.i2d (y_soft (cY C) 4)) (FP.i2d (y_silos (cY C) 4)))) : GM l D cy N L yX4_softness wsX4_softness ({ frames := 3, cells := 0, slots := 0, locals := 65 }) [.ref (L 0)] (cW cy L F C) (some (.double (y_softD (cY C)))) (cW cy L F C) := by
  refine GM.ofW (cc := cX4_softness) (maxL := 4) (ret := (some .double)) (by decide) rfl (Nat.le_of_ble_eq_true rfl) ?_
  intro p e s m below meth c ls hx hb hr hts hown hlocks hml hK hA hG hS hl
  have hl : lv_has ls 4 [(0, .ref (L 0))] := hl
  have hf10 := hts (.fieldLink RX4 10 "SiloPads" "now" "LSiloPads$Yard;") (by decide +kernel)
  have hinX4 : ∀ w ∈ u_ws RX4 TX4 8, w ∈ wsX4_softness := by decide +kernel
  have hf94 := hts (.fieldLink RX4 94 "SiloPads$Yard" "silos" "[LSiloPads$Silo;") (by decide +kernel)
  have hinX3 : ∀ w ∈ u_ws RX3 TX3 9, w ∈ wsX4_softness := by decide +kernel
  refine lv_aload_n hx hb dX4_softness_0 rfl (lv_at hl 0 rfl) ?_
  refine g_get (ci := 4) (C := RX4) (T := TX4) (M := 8) hx hb hts hinX4 hown hK hG (by omega) cW_o rfl 0 (by decide) hf10 rfl rfl dX4_softness_1 ?_
  have hG : GW D N L (gA N L s.heap.size) (yW cy L (cW cy L F C) (1) (cY C)) _ := hG.to (by rw [cW_Y0 ])
  refine g_cVi (As := []) (rest := []) hx hb hml hown hts hK hA hG hS (k_X3_siloTonnes l D cy N L _ 1 (cY C)  (by omega)  (hy)) (cwV 0 hts gX4_softness_X3_siloTonnes rfl rfl rfl (by decide +kernel) ⟨Nat.le_of_ble_eq_true rfl, Nat.le_of_ble_eq_true rfl⟩) (by omega) yW_o (ci := 3) rfl rfl rfl rfl hl.1 (Nat.le_of_ble_eq_true rfl) dX4_softness_4 ⟨Nat.zero_le _, Nat.zero_le _⟩ (fun H locs hG hS => ?_)
  have hG : GW D N L (gA N L s.heap.size) (cW cy L F C) _ := hG.to (by rw [cW_Y0 ] <;> rfl)
  refine lv_istore_n (lv' := [(1, .int (y_silos (cY C) 4)), (0, .ref (L 0))]) hx hb dX4_softness_7 rfl hl (by decide) rfl (fun ls hl => ?_)
  refine lv_iload_n hx hb dX4_softness_8 rfl (lv_at hl 0 rfl) ?_
  refine lv_if_ne (tgt := 14) hx hb dX4_softness_9 (by decide) (fun c_9 => ?_) (fun c_9 => ?_)
  · skip
    refine lv_iconst (v := 0) hx hb dX4_softness_14 (by decide) ?_
    refine lv_istore_n (lv' := [(2, .int 0), (1, .int (y_silos (cY C) 4)), (0, .ref (L 0))]) hx hb dX4_softness_15 rfl hl (by decide) rfl (fun ls hl => ?_)
    refine lv_iconst (v := 0) hx hb dX4_softness_16 (by decide) ?_
    refine lv_istore_n (lv' := [(3, .int 0), (2, .int 0), (1, .int (y_silos (cY C) 4)), (0, .ref (L 0))]) hx hb dX4_softness_17 rfl hl (by decide) rfl (fun ls hl => ?_)
    refine W.loop (σ := Nat) (fun k H locs ls => (k ≤ 4) ∧ GW D N L (gA N L s.heap.size) (cW cy L F C) H ∧ va_S (gA N L s.heap.size) s.heap H locs ∧ lv_has ls 4 [(2, .int (y_soft (cY C) k)), (3, .int (nI k)), (1, .int (y_silos (cY C) 4)), (0, .ref (L 0))]) (fun k => 4 - k) 0 ⟨by omega, hG.to (rfl), hS, lv_to (lv_sub hl [1, 0, 2, 3] rfl) (rfl)⟩ ?_
    intro k H locs ls hP9 ih18
    obtain ⟨hk9, hG, hS, hl⟩ := hP9
    refine lv_iload_n hx hb dX4_softness_18 rfl (lv_at hl 1 rfl) ?_
    refine lv_iconst (v := 4) hx hb dX4_softness_19 (by decide) ?_
    refine lv_icmp_ge (tgt := 45) hx hb dX4_softness_20 (by decide) (fun c_20 => ?_) (fun c_20 => ?_)
    · skip
      have c_20 : 4 ≤ k := (nI_leI (a := 4) (b := k) (by omega) (by omega)).mp c_20
      refine lv_iload_n hx hb dX4_softness_45 rfl (lv_at hl 0 rfl) ?_
      refine lv_i2d hx hb dX4_softness_46 ?_
      refine lv_iload_n hx hb dX4_softness_47 rfl (lv_at hl 2 rfl) ?_
      refine lv_i2d hx hb dX4_softness_48 ?_
      refine lv_ddiv hx hb dX4_softness_49 (by rw [show k = 4 by omega]; exact hf c_9) ?_
      exact g_dret hx hb hr hlocks hK hG hS dX4_softness_50 ⟨(congrArg (fun z9 => some (Value.double z9)) (by first | (simp only [y_softD, c_9, c_20, if_true, if_false]; done) | (rw [show k = 4 by omega]; simp only [y_softD, c_9, c_20, if_true, if_false]))), rfl⟩
    · skip
      have c_20 : ¬ 4 ≤ k := fun h9 => c_20 ((nI_leI (a := 4) (b := k) (by omega) (by omega)).mpr h9)
      refine lv_iload_n hx hb dX4_softness_23 rfl (lv_at hl 0 rfl) ?_
      refine lv_aload_n hx hb dX4_softness_24 rfl (lv_at hl 3 rfl) ?_
      refine lv_aload_n hx hb dX4_softness_25 rfl (lv_at hl 3 rfl) ?_
      refine g_get (ci := 4) (C := RX4) (T := TX4) (M := 8) hx hb hts hinX4 hown hK hG (by omega) cW_o rfl 0 (by decide) hf10 rfl rfl dX4_softness_26 ?_
      refine g_get (ci := 3) (C := RX3) (T := TX3) (M := 9) hx hb hts hinX3 hown hK hG (by omega) cW_yo rfl 0 (by decide) hf94 rfl rfl dX4_softness_29 ?_
      refine lv_iload_n hx hb dX4_softness_32 rfl (lv_at hl 1 rfl) ?_
      refine g_aald (j := 1 + 4 + 3 * k) hx hb hK hG (by omega) cW_ys (t0 := 1) rfl (k := k) rfl (by omega) (by decide) rfl dX4_softness_33 ?_
      have hG : GW D N L (gA N L s.heap.size) (sW cy L (cW cy L F C) (1 + 4 + 3 * k) (yS (cY C) k)) _ := hG.to (by rw [cW_S0 (k := k) (by omega)])
      refine g_cVi (As := [.ref (L (1 + 4 + 3 * k))]) (rest := [.int (y_soft (cY C) k)]) hx hb hml hown hts hK hA hG hS (k_X4_softTonnes l D cy N L _ (1 + 4 + 3 * k) (yS (cY C) k)  (yZ (cY C)) (by omega) (by omega) (cE_cW (F := F) (c := C))  (hy k (by omega))) (cwV 1 hts gX4_softness_X4_softTonnes rfl rfl rfl (by decide +kernel) ⟨Nat.le_of_ble_eq_true rfl, Nat.le_of_ble_eq_true rfl⟩) (by omega) (by rw [sW_n (by omega)]; exact cW_o) (ci := 4) rfl rfl rfl rfl hl.1 (Nat.le_of_ble_eq_true rfl) dX4_softness_34 ⟨Nat.zero_le _, Nat.zero_le _⟩ (fun H locs hG hS => ?_)
      have hG : GW D N L (gA N L s.heap.size) (cW cy L F C) _ := hG.to (by rw [cW_S0 (k := k) (by omega)] <;> rfl)
      refine lv_iadd hx hb dX4_softness_37 ?_
      refine lv_istore_n (lv' := [(2, .int ((y_soft (cY C) k) + (c_soft (yZ (cY C)) (yS (cY C) k) (sN (yS (cY C) k))))), (3, .int (nI k)), (1, .int (y_silos (cY C) 4)), (0, .ref (L 0))]) hx hb dX4_softness_38 rfl hl (by decide) rfl (fun ls hl => ?_)
      refine lv_iinc (v := nI (k + 1)) (lv' := [(3, .int (nI (k + 1))), (2, .int ((y_soft (cY C) k) + (c_soft (yZ (cY C)) (yS (cY C) k) (sN (yS (cY C) k))))), (1, .int (y_silos (cY C) 4)), (0, .ref (L 0))]) hx hb dX4_softness_39 hl (k := 1) rfl (nI_add k 1) (by decide) rfl (fun ls hl => ?_)
      refine lv_goto (tgt := 18) hx hb dX4_softness_42 (by decide) ?_
      have hl : lv_has ls 4 [(2, .int ((y_soft (cY C) k) + (c_soft (yZ (cY C)) (yS (cY C) k) (sN (yS (cY C) k))))), (3, .int (nI (k + 1))), (1, .int (y_silos (cY C) 4)), (0, .ref (L 0))] := lv_sub hl [1, 0, 2, 3] rfl
      exact ih18 (k + 1) _ _ _ (by omega) ⟨by omega, hG.to (rfl), hS, lv_to hl (rfl)⟩
  · skip
    refine lv_dconst1 hx hb dX4_softness_12 ?_
    exact g_dret hx hb hr hlocks hK hG hS dX4_softness_13 ⟨(congrArg (fun z9 => some (Value.double z9)) (by first | (simp only [y_softD, eq_true c_9, if_true, if_false]; done) | (rw [show k = 4 by omega]; simp only [y_softD, eq_true c_9, if_true, if_false]))), rfl⟩
