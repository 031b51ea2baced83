set_option maxHeartbeats 4000000 in
set_option maxRecDepth 100000 in
theorem k_X4_isNoSilo (l : Launch) (D : va_G) (cy : Nat → ClassId) (N : Nat) (L : Nat → Nat) (F : Nat → va_E) (v : Int32)  : GM l D cy N L yX4_isNoSilo wsX4_isNoSilo ({ frames := 0, cells := 0, slots := 0, locals := 0 }) [.int v] (F) (some (.int (c_noSilo v))) (F) := by
  refine GM.ofW (cc := cX4_isNoSilo) (maxL := 1) (ret := (some .boolean)) (by decide) rfl (Nat.le_of_ble_eq_true rfl) ?_
  intro p e s m below meth c ls hx hb hr hts hown hlocks hml hK hA hG hS hl
  have hl : lv_has ls 1 [(0, .int v)] := hl
  refine lv_iload_n hx hb dX4_isNoSilo_0 rfl (lv_at hl 0 rfl) ?_
  refine lv_if_lt (tgt := 9) hx hb dX4_isNoSilo_1 (by decide) (fun c_1 => ?_) (fun c_1 => ?_)
  · skip
    refine lv_iconst (v := 1) hx hb dX4_isNoSilo_9 (by decide) ?_
    refine lv_goto (tgt := 14) hx hb dX4_isNoSilo_10 (by decide) ?_
    exact g_iret hx hb hr hlocks hK hG hS rfl dX4_isNoSilo_14 ⟨(congrArg (fun z9 => some (Value.int z9)) (by first | (simp only [c_noSilo, c_1, if_true, if_false, not_true_eq_false, not_false_eq_true]; done) | (simp [c_noSilo, c_1]; done) | rfl)), rfl⟩
  · skip
    refine lv_iload_n hx hb dX4_isNoSilo_4 rfl (lv_at hl 0 rfl) ?_
    refine lv_iconst (v := 4) hx hb dX4_isNoSilo_5 (by decide) ?_
    refine lv_icmp_lt (tgt := 13) hx hb dX4_isNoSilo_6 (by decide) (fun c_6 => ?_) (fun c_6 => ?_)
    · skip
      refine lv_iconst (v := 0) hx hb dX4_isNoSilo_13 (by decide) ?_
      exact g_iret hx hb hr hlocks hK hG hS rfl dX4_isNoSilo_14 ⟨(congrArg (fun z9 => some (Value.int z9)) (by first | (simp only [c_noSilo, c_1, c_6, if_true, if_false, not_true_eq_false, not_false_eq_true]; done) | (simp [c_noSilo, c_1, c_6]; done) | rfl)), rfl⟩
    · skip
      refine lv_iconst (v := 1) hx hb dX4_isNoSilo_9 (by decide) ?_
      refine lv_goto (tgt := 14) hx hb dX4_isNoSilo_10 (by decide) ?_
      exact g_iret hx hb hr hlocks hK hG hS rfl dX4_isNoSilo_14 ⟨(congrArg (fun z9 => some (Value.int z9)) (by first | (simp only [c_noSilo, c_1, c_6, if_true, if_false, not_true_eq_false, not_false_eq_true]; done) | (simp [c_noSilo, c_1, c_6]; done) | rfl)), rfl⟩
set_option maxHeartbeats 4000000 in
set_option maxRecDepth 100000 in
theorem k_X4_isNoShip (l : Launch) (D : va_G) (cy : Nat → ClassId) (N : Nat) (L : Nat → Nat) (F : Nat → va_E) (v : Int32)  : GM l D cy N L yX4_isNoShip wsX4_isNoShip ({ frames := 0, cells := 0, slots := 0, locals := 0 }) [.int v] (F) (some (.int (c_noShip v))) (F) := by
  refine GM.ofW (cc := cX4_isNoShip) (maxL := 1) (ret := (some .boolean)) (by decide) rfl (Nat.le_of_ble_eq_true rfl) ?_
  intro p e s m below meth c ls hx hb hr hts hown hlocks hml hK hA hG hS hl
  have hl : lv_has ls 1 [(0, .int v)] := hl
  refine lv_iload_n hx hb dX4_isNoShip_0 rfl (lv_at hl 0 rfl) ?_
  refine lv_if_lt (tgt := 10) hx hb dX4_isNoShip_1 (by decide) (fun c_1 => ?_) (fun c_1 => ?_)
  · skip
    refine lv_iconst (v := 1) hx hb dX4_isNoShip_10 (by decide) ?_
    refine lv_goto (tgt := 15) hx hb dX4_isNoShip_11 (by decide) ?_
    exact g_iret hx hb hr hlocks hK hG hS rfl dX4_isNoShip_15 ⟨(congrArg (fun z9 => some (Value.int z9)) (by first | (simp only [c_noShip, c_1, if_true, if_false, not_true_eq_false, not_false_eq_true]; done) | (simp [c_noShip, c_1]; done) | rfl)), rfl⟩
  · skip
    refine lv_iload_n hx hb dX4_isNoShip_4 rfl (lv_at hl 0 rfl) ?_
    refine lv_bipush (v := 6) hx hb dX4_isNoShip_5 (by decide) ?_
    refine lv_icmp_lt (tgt := 14) hx hb dX4_isNoShip_7 (by decide) (fun c_7 => ?_) (fun c_7 => ?_)
    · skip
      refine lv_iconst (v := 0) hx hb dX4_isNoShip_14 (by decide) ?_
      exact g_iret hx hb hr hlocks hK hG hS rfl dX4_isNoShip_15 ⟨(congrArg (fun z9 => some (Value.int z9)) (by first | (simp only [c_noShip, c_1, c_7, if_true, if_false, not_true_eq_false, not_false_eq_true]; done) | (simp [c_noShip, c_1, c_7]; done) | rfl)), rfl⟩
    · skip
      refine lv_iconst (v := 1) hx hb dX4_isNoShip_10 (by decide) ?_
      refine lv_goto (tgt := 15) hx hb dX4_isNoShip_11 (by decide) ?_
      exact g_iret hx hb hr hlocks hK hG hS rfl dX4_isNoShip_15 ⟨(congrArg (fun z9 => some (Value.int z9)) (by first | (simp only [c_noShip, c_1, c_7, if_true, if_false, not_true_eq_false, not_false_eq_true]; done) | (simp [c_noShip, c_1, c_7]; done) | rfl)), rfl⟩
set_option maxHeartbeats 4000000 in
set_option maxRecDepth 100000 in
theorem k_X4_hardnessAt (l : Launch) (D : va_G) (cy : Nat → ClassId) (N : Nat) (L : Nat → Nat) (F : Nat → va_E) (z : Nat → Int32) (hN : 5 ≤ N) (hE : cE cy L F z)  (a : Int32)  : GM l D cy N L yX4_hardnessAt wsX4_hardnessAt ({ frames := 0, cells := 0, slots := 0, locals := 0 }) [.ref (L 0), .int a] (F) (some (.int (g_set a (z 1)))) (F) := by
  refine GM.ofW (cc := cX4_hardnessAt) (maxL := 3) (ret := (some .int)) (by decide) rfl (Nat.le_of_ble_eq_true rfl) ?_
  intro p e s m below meth c ls hx hb hr hts hown hlocks hml hK hA hG hS hl
  have hl : lv_has ls 3 [(0, .ref (L 0)), (1, .int a)] := hl
  obtain ⟨⟨fs0, e0⟩, ⟨a1, a2, fs1, e1⟩, e4⟩ := id hE
  have i_e0 : 0 < N := by omega
  have i_e1 : 1 < N := by omega
  have i_e4 : 4 < N := by omega
  have hf10 := hts (.fieldLink RX4 10 "SiloPads" "now" "LSiloPads$Yard;") (by decide +kernel)
  have hinX4 : ∀ w ∈ u_ws RX4 TX4 8, w ∈ wsX4_hardnessAt := by decide +kernel
  have hf117 := hts (.fieldLink RX4 117 "SiloPads$Yard" "settings" "[I") (by decide +kernel)
  have hinX3 : ∀ w ∈ u_ws RX3 TX3 9, w ∈ wsX4_hardnessAt := by decide +kernel
  refine lv_aload_n hx hb dX4_hardnessAt_0 rfl (lv_at hl 0 rfl) ?_
  refine g_get (ci := 4) (C := RX4) (T := TX4) (M := 8) hx hb hts hinX4 hown hK hG i_e0 e0 rfl 0 (by decide) hf10 rfl rfl dX4_hardnessAt_1 ?_
  refine g_get (ci := 3) (C := RX3) (T := TX3) (M := 9) hx hb hts hinX3 hown hK hG i_e1 e1 rfl 2 (by decide) hf117 rfl rfl dX4_hardnessAt_4 ?_
  refine lv_iconst (v := 1) hx hb dX4_hardnessAt_7 (by decide) ?_
  refine g_iald hx hb hK hG i_e4 e4 (k := 1) rfl (by omega) (by decide) dX4_hardnessAt_8 ?_
  refine lv_istore_n (lv' := [(2, .int (z 1)), (0, .ref (L 0)), (1, .int a)]) hx hb dX4_hardnessAt_9 rfl hl (by decide) rfl (fun ls hl => ?_)
  refine lv_iload_n hx hb dX4_hardnessAt_10 rfl (lv_at hl 2 rfl) ?_
  refine lv_iload_n hx hb dX4_hardnessAt_11 rfl (lv_at hl 0 rfl) ?_
  refine lv_icmp_gt (tgt := 17) hx hb dX4_hardnessAt_12 (by decide) (fun c_12 => ?_) (fun c_12 => ?_)
  · skip
    refine lv_iload_n hx hb dX4_hardnessAt_17 rfl (lv_at hl 2 rfl) ?_
    refine lv_iconst (v := 2) hx hb dX4_hardnessAt_18 (by decide) ?_
    refine lv_iload_n hx hb dX4_hardnessAt_19 rfl (lv_at hl 0 rfl) ?_
    refine lv_imul hx hb dX4_hardnessAt_20 ?_
    refine lv_icmp_gt (tgt := 28) hx hb dX4_hardnessAt_21 (by decide) (fun c_21 => ?_) (fun c_21 => ?_)
    · skip
      refine lv_iconst (v := 2) hx hb dX4_hardnessAt_28 (by decide) ?_
      exact g_iret hx hb hr hlocks hK hG hS rfl dX4_hardnessAt_29 ⟨(congrArg (fun z9 => some (Value.int z9)) (by first | (simp only [g_set, c_12, c_21, if_true, if_false, not_true_eq_false, not_false_eq_true]; done) | (simp [g_set, c_12, c_21]; done) | rfl)), rfl⟩
    · skip
      refine lv_iconst (v := 1) hx hb dX4_hardnessAt_24 (by decide) ?_
      refine lv_goto (tgt := 29) hx hb dX4_hardnessAt_25 (by decide) ?_
      exact g_iret hx hb hr hlocks hK hG hS rfl dX4_hardnessAt_29 ⟨(congrArg (fun z9 => some (Value.int z9)) (by first | (simp only [g_set, c_12, c_21, if_true, if_false, not_true_eq_false, not_false_eq_true]; done) | (simp [g_set, c_12, c_21]; done) | rfl)), rfl⟩
  · skip
    refine lv_iconst (v := 0) hx hb dX4_hardnessAt_15 (by decide) ?_
    exact g_iret hx hb hr hlocks hK hG hS rfl dX4_hardnessAt_16 ⟨(congrArg (fun z9 => some (Value.int z9)) (by first | (simp only [g_set, c_12, if_true, if_false, not_true_eq_false, not_false_eq_true]; done) | (simp [g_set, c_12]; done) | rfl)), rfl⟩
set_option maxHeartbeats 4000000 in
set_option maxRecDepth 100000 in
theorem k_X4_dustOf (l : Launch) (D : va_G) (cy : Nat → ClassId) (N : Nat) (L : Nat → Nat) (F : Nat → va_E) (z : Nat → Int32) (hN : 5 ≤ N) (hE : cE cy L F z)  (o : Int32)  : GM l D cy N L yX4_dustOf wsX4_dustOf ({ frames := 0, cells := 0, slots := 0, locals := 0 }) [.ref (L 0), .int o] (F) (some (.int (c_dust z o))) (F) := by
  refine GM.ofW (cc := cX4_dustOf) (maxL := 3) (ret := (some .int)) (by decide) rfl (Nat.le_of_ble_eq_true rfl) ?_
  intro p e s m below meth c ls hx hb hr hts hown hlocks hml hK hA hG hS hl
  have hl : lv_has ls 3 [(0, .ref (L 0)), (1, .int o)] := hl
  obtain ⟨⟨fs0, e0⟩, ⟨a1, a2, fs1, e1⟩, e4⟩ := id hE
  have i_e0 : 0 < N := by omega
  have i_e1 : 1 < N := by omega
  have i_e4 : 4 < N := by omega
  have hf10 := hts (.fieldLink RX4 10 "SiloPads" "now" "LSiloPads$Yard;") (by decide +kernel)
  have hinX4 : ∀ w ∈ u_ws RX4 TX4 8, w ∈ wsX4_dustOf := by decide +kernel
  have hf117 := hts (.fieldLink RX4 117 "SiloPads$Yard" "settings" "[I") (by decide +kernel)
  have hinX3 : ∀ w ∈ u_ws RX3 TX3 9, w ∈ wsX4_dustOf := by decide +kernel
  refine lv_aload_n hx hb dX4_dustOf_0 rfl (lv_at hl 0 rfl) ?_
  refine g_get (ci := 4) (C := RX4) (T := TX4) (M := 8) hx hb hts hinX4 hown hK hG i_e0 e0 rfl 0 (by decide) hf10 rfl rfl dX4_dustOf_1 ?_
  refine g_get (ci := 3) (C := RX3) (T := TX3) (M := 9) hx hb hts hinX3 hown hK hG i_e1 e1 rfl 2 (by decide) hf117 rfl rfl dX4_dustOf_4 ?_
  refine lv_iconst (v := 2) hx hb dX4_dustOf_7 (by decide) ?_
  refine g_iald hx hb hK hG i_e4 e4 (k := 2) rfl (by omega) (by decide) dX4_dustOf_8 ?_
  refine lv_istore_n (lv' := [(2, .int (z 2)), (0, .ref (L 0)), (1, .int o)]) hx hb dX4_dustOf_9 rfl hl (by decide) rfl (fun ls hl => ?_)
  refine lv_iload_n hx hb dX4_dustOf_10 rfl (lv_at hl 0 rfl) ?_
  refine lv_if_le (tgt := 20) hx hb dX4_dustOf_11 (by decide) (fun c_11 => ?_) (fun c_11 => ?_)
  · skip
    refine lv_iconst (v := 0) hx hb dX4_dustOf_20 (by decide) ?_
    exact g_iret hx hb hr hlocks hK hG hS rfl dX4_dustOf_21 ⟨(congrArg (fun z9 => some (Value.int z9)) (by first | (simp only [c_dust, c_11, if_true, if_false, not_true_eq_false, not_false_eq_true]; done) | (simp [c_dust, c_11]; done) | rfl)), rfl⟩
  · skip
    refine lv_iload_n hx hb dX4_dustOf_14 rfl (lv_at hl 2 rfl) ?_
    refine lv_iload_n hx hb dX4_dustOf_15 rfl (lv_at hl 0 rfl) ?_
    refine lv_idiv hx hb dX4_dustOf_16 (fun h9 => c_11 (by rw [h9]; decide)) ?_
    refine lv_goto (tgt := 21) hx hb dX4_dustOf_17 (by decide) ?_
    exact g_iret hx hb hr hlocks hK hG hS rfl dX4_dustOf_21 ⟨(congrArg (fun z9 => some (Value.int z9)) (by first | (simp only [c_dust, c_11, if_true, if_false, not_true_eq_false, not_false_eq_true]; done) | (simp [c_dust, c_11]; done) | rfl)), rfl⟩
set_option maxHeartbeats 4000000 in
set_option maxRecDepth 100000 in
theorem k_X4_outInHour (l : Launch) (D : va_G) (cy : Nat → ClassId) (N : Nat) (L : Nat → Nat) (F : Nat → va_E) (b : Nat) (v : ST) (z : Nat → Int32) (hb5 : 5 ≤ b) (hb : b + 3 ≤ N) (hE : cE cy L F z)  (q : Int32) (hn : sN v ≤ 10) : GM l D cy N L yX4_outInHour wsX4_outInHour ({ frames := 1, cells := 0, slots := 0, locals := 22 }) [.ref (L 0), .ref (L b), .int q] (sW cy L F b v) (some (.int (c_outH z v q))) (sW cy L F b v) := by
  refine GM.ofW (cc := cX4_outInHour) (maxL := 3) (ret := (some .int)) (by decide) rfl (Nat.le_of_ble_eq_true rfl) ?_
  intro p e s m below meth c ls hx hb hr hts hown hlocks hml hK hA hG hS hl
  have hl : lv_has ls 3 [(0, .ref (L 0)), (1, .ref (L b)), (2, .int q)] := hl
  have i_q0_0 : b < N := by omega
  have i_q0_1 : b + 1 < N := by omega
  have i_q0_2 : b + 2 < N := by omega
  obtain ⟨⟨fs0, e0⟩, ⟨a1, a2, fs1, e1⟩, e4⟩ := id hE
  have i_e0 : 0 < N := by omega
  have i_e1 : 1 < N := by omega
  have i_e4 : 4 < N := by omega
  have hf125 := hts (.fieldLink RX4 125 "SiloPads$Silo" "layers" "I") (by decide +kernel)
  have hinX1 : ∀ w ∈ u_ws RX1 TX1 6, w ∈ wsX4_outInHour := by decide +kernel
  have hf203 := hts (.fieldLink RX4 203 "SiloPads$Silo" "ages" "[I") (by decide +kernel)
  refine lv_aload_n hx hb dX4_outInHour_0 rfl (lv_at hl 1 rfl) ?_
  refine g_get (ci := 1) (C := RX1) (T := TX1) (M := 6) hx hb hts hinX1 hown hK hG i_q0_0 sW_o rfl 2 (by decide) hf125 rfl rfl dX4_outInHour_1 ?_
  refine lv_if_ne (tgt := 9) hx hb dX4_outInHour_4 (by decide) (fun c_4 => ?_) (fun c_4 => ?_)
  · skip
    have c_4 : ¬ (sN v) = 0 := fun h9 => c_4 ((nI_eq (a := sN v) (b := 0) (by omega) (by omega)).mpr h9)
    refine lv_aload_n hx hb dX4_outInHour_9 rfl (lv_at hl 0 rfl) ?_
    refine lv_aload_n hx hb dX4_outInHour_10 rfl (lv_at hl 1 rfl) ?_
    refine g_get (ci := 1) (C := RX1) (T := TX1) (M := 6) hx hb hts hinX1 hown hK hG i_q0_0 sW_o rfl 1 (by decide) hf203 rfl rfl dX4_outInHour_11 ?_
    refine lv_iconst (v := 0) hx hb dX4_outInHour_14 (by decide) ?_
    refine g_iald hx hb hK hG i_q0_2 sW_a (k := 0) rfl (by omega) (by decide) dX4_outInHour_15 ?_
    refine g_cVi (As := [.int ((sA v) 0)]) (rest := []) hx hb hml hown hts hK hA hG hS (k_X4_hardnessAt l D cy N L _  _ (by omega) (cE_s (by omega) hE) ((sA v) 0) ) (cwV 1 hts gX4_outInHour_X4_hardnessAt rfl rfl rfl (by decide +kernel) ⟨Nat.le_of_ble_eq_true rfl, Nat.le_of_ble_eq_true rfl⟩) i_e0 (by rw [sW_n (by omega)]; exact e0) (ci := 4) rfl rfl rfl rfl hl.1 (Nat.le_of_ble_eq_true rfl) dX4_outInHour_16 ⟨Nat.zero_le _, Nat.zero_le _⟩ (fun H locs hG hS => ?_)
    by_cases c_19_0 : g_set ((sA v) 0) (z 1) = 0
    · skip
      refine lv_lookup (off := 25) (tgt := 44) hx hb dX4_outInHour_19 (by decide) (by rw [c_19_0]; decide) (by decide) ?_
      refine lv_iload_n hx hb dX4_outInHour_44 rfl (lv_at hl 2 rfl) ?_
      refine lv_if_ne (tgt := 52) hx hb dX4_outInHour_45 (by decide) (fun c_45 => ?_) (fun c_45 => ?_)
      · skip
        refine lv_bipush (v := 40) hx hb dX4_outInHour_52 (by decide) ?_
        refine lv_iload_n hx hb dX4_outInHour_54 rfl (lv_at hl 2 rfl) ?_
        refine lv_imul hx hb dX4_outInHour_55 ?_
        exact g_iret hx hb hr hlocks hK hG hS rfl dX4_outInHour_56 ⟨(congrArg (fun z9 => some (Value.int z9)) (by first | (simp only [c_outH, c_4, eq_true c_19_0, c_45, if_true, if_false, not_true_eq_false, not_false_eq_true]; done) | (simp [c_outH, c_4, eq_true c_19_0, c_45]; done) | rfl)), rfl⟩
      · skip
        refine lv_iconst (v := 5) hx hb dX4_outInHour_48 (by decide) ?_
        refine lv_goto (tgt := 56) hx hb dX4_outInHour_49 (by decide) ?_
        exact g_iret hx hb hr hlocks hK hG hS rfl dX4_outInHour_56 ⟨(congrArg (fun z9 => some (Value.int z9)) (by first | (simp only [c_outH, c_4, eq_true c_19_0, eq_true c_45, if_true, if_false, not_true_eq_false, not_false_eq_true]; done) | (simp [c_outH, c_4, eq_true c_19_0, eq_true c_45]; done) | rfl)), rfl⟩
    by_cases c_19_1 : g_set ((sA v) 0) (z 1) = 1
    · skip
      refine lv_lookup (off := 38) (tgt := 57) hx hb dX4_outInHour_19 (by decide) (by rw [c_19_1]; decide) (by decide) ?_
      refine lv_iload_n hx hb dX4_outInHour_57 rfl (lv_at hl 2 rfl) ?_
      refine lv_if_ne (tgt := 65) hx hb dX4_outInHour_58 (by decide) (fun c_58 => ?_) (fun c_58 => ?_)
      · skip
        refine lv_bipush (v := 20) hx hb dX4_outInHour_65 (by decide) ?_
        refine lv_iload_n hx hb dX4_outInHour_67 rfl (lv_at hl 2 rfl) ?_
        refine lv_iconst (v := 1) hx hb dX4_outInHour_68 (by decide) ?_
        refine lv_isub hx hb dX4_outInHour_69 ?_
        refine lv_imul hx hb dX4_outInHour_70 ?_
        exact g_iret hx hb hr hlocks hK hG hS rfl dX4_outInHour_71 ⟨(congrArg (fun z9 => some (Value.int z9)) (by first | (simp only [c_outH, c_4, c_19_0, eq_true c_19_1, c_58, if_true, if_false, not_true_eq_false, not_false_eq_true]; done) | (simp [c_outH, c_4, c_19_0, eq_true c_19_1, c_58]; done) | rfl)), rfl⟩
      · skip
        refine lv_iconst (v := 0) hx hb dX4_outInHour_61 (by decide) ?_
        refine lv_goto (tgt := 71) hx hb dX4_outInHour_62 (by decide) ?_
        exact g_iret hx hb hr hlocks hK hG hS rfl dX4_outInHour_71 ⟨(congrArg (fun z9 => some (Value.int z9)) (by first | (simp only [c_outH, c_4, c_19_0, eq_true c_19_1, eq_true c_58, if_true, if_false, not_true_eq_false, not_false_eq_true]; done) | (simp [c_outH, c_4, c_19_0, eq_true c_19_1, eq_true c_58]; done) | rfl)), rfl⟩
    refine lv_lookup (off := 53) (tgt := 72) hx hb dX4_outInHour_19 (by decide) (lk_out2 (k0 := 0) c_19_0 (k1 := 1) c_19_1) (by decide) ?_
    refine lv_iload_n hx hb dX4_outInHour_72 rfl (lv_at hl 2 rfl) ?_
    refine lv_iconst (v := 4) hx hb dX4_outInHour_73 (by decide) ?_
    refine lv_icmp_ne (tgt := 86) hx hb dX4_outInHour_74 (by decide) (fun c_74 => ?_) (fun c_74 => ?_)
    · skip
      refine lv_iconst (v := 0) hx hb dX4_outInHour_86 (by decide) ?_
      exact g_iret hx hb hr hlocks hK hG hS rfl dX4_outInHour_87 ⟨(congrArg (fun z9 => some (Value.int z9)) (by first | (simp only [c_outH, c_4, c_19_0, c_19_1, c_74, if_true, if_false, not_true_eq_false, not_false_eq_true]; done) | (simp [c_outH, c_4, c_19_0, c_19_1, c_74]; done) | rfl)), rfl⟩
    · skip
      refine lv_bipush (v := 10) hx hb dX4_outInHour_77 (by decide) ?_
      refine lv_iload_n hx hb dX4_outInHour_79 rfl (lv_at hl 2 rfl) ?_
      refine lv_iconst (v := 3) hx hb dX4_outInHour_80 (by decide) ?_
      refine lv_isub hx hb dX4_outInHour_81 ?_
      refine lv_imul hx hb dX4_outInHour_82 ?_
      refine lv_goto (tgt := 87) hx hb dX4_outInHour_83 (by decide) ?_
      exact g_iret hx hb hr hlocks hK hG hS rfl dX4_outInHour_87 ⟨(congrArg (fun z9 => some (Value.int z9)) (by first | (simp only [c_outH, c_4, c_19_0, c_19_1, eq_true c_74, if_true, if_false, not_true_eq_false, not_false_eq_true]; done) | (simp [c_outH, c_4, c_19_0, c_19_1, eq_true c_74]; done) | rfl)), rfl⟩
  · skip
    have c_4 : (sN v) = 0 := (nI_eq (a := sN v) (b := 0) (by omega) (by omega)).mp c_4
    refine lv_iconst (v := 0) hx hb dX4_outInHour_7 (by decide) ?_
    exact g_iret hx hb hr hlocks hK hG hS rfl dX4_outInHour_8 ⟨(congrArg (fun z9 => some (Value.int z9)) (by first | (simp only [c_outH, eq_true c_4, if_true, if_false, not_true_eq_false, not_false_eq_true]; done) | (simp [c_outH, eq_true c_4]; done) | rfl)), rfl⟩
set_option maxHeartbeats 4000000 in
set_option maxRecDepth 100000 in
theorem k_X4_pourForHour (l : Launch) (D : va_G) (cy : Nat → ClassId) (N : Nat) (L : Nat → Nat) (F : Nat → va_E) (b : Nat) (v : ST) (b2 : Nat) (h : HT) (z : Nat → Int32) (hb5 : 5 ≤ b) (hb : b + 3 ≤ N) (hb25 : 5 ≤ b2) (hb2 : b2 < N) (hd : b2 < b ∨ b + 3 ≤ b2) (hE : cE cy L F z)   (hn : sN v ≤ 10) : GM l D cy N L yX4_pourForHour wsX4_pourForHour ({ frames := 2, cells := 0, slots := 0, locals := 44 }) [.ref (L 0), .ref (L b), .ref (L b2)] (hW (sW cy L F b v) b2 h) (some (.int (c_hourR z v h))) (hW (sW cy L F b (c_hourV z v h)) b2 (c_hourH z v h)) := by
  refine GM.ofW (cc := cX4_pourForHour) (maxL := 5) (ret := (some .int)) (by decide) rfl (Nat.le_of_ble_eq_true rfl) ?_
  intro p e s m below meth c ls hx hb hr hts hown hlocks hml hK hA hG hS hl
  have hl : lv_has ls 5 [(0, .ref (L 0)), (1, .ref (L b)), (2, .ref (L b2))] := hl
  have i_q0_0 : b < N := by omega
  have i_q0_1 : b + 1 < N := by omega
  have i_q0_2 : b + 2 < N := by omega
  have i_q1_0 : b2 < N := by omega
  obtain ⟨⟨fs0, e0⟩, ⟨a1, a2, fs1, e1⟩, e4⟩ := id hE
  have i_e0 : 0 < N := by omega
  have i_e1 : 1 < N := by omega
  have i_e4 : 4 < N := by omega
  have hf125 := hts (.fieldLink RX4 125 "SiloPads$Silo" "layers" "I") (by decide +kernel)
  have hinX1 : ∀ w ∈ u_ws RX1 TX1 6, w ∈ wsX4_pourForHour := by decide +kernel
  have hf141 := hts (.fieldLink RX4 141 "SiloPads$Silo" "arch" "I") (by decide +kernel)
  have hf111 := hts (.fieldLink RX4 111 "SiloPads$Silo" "padsOn" "I") (by decide +kernel)
  have hf201 := hts (.fieldLink RX4 201 "SiloPads$Silo" "tonnes" "[I") (by decide +kernel)
  have hm257 := hts (.methodLink RX4 257 Lib.Math.min.name) (by decide +kernel)
  have hmsmin := hts (.static Lib.Math.min.name) (by decide +kernel)
  have hmcmin := hts (.code Lib.Math.min.name Lib.Math.min.code 2 (some .int)) (by decide +kernel)
  have hmi := hts (.initialized "java/lang/Math") (by decide +kernel)
  have hf75 := hts (.fieldLink RX4 75 "SiloPads$Ship" "tonnes" "I") (by decide +kernel)
  have hinX0 : ∀ w ∈ u_ws RX0 TX0 2, w ∈ wsX4_pourForHour := by decide +kernel
  refine lv_aload_n hx hb dX4_pourForHour_0 rfl (lv_at hl 1 rfl) ?_
  refine g_get (ci := 1) (C := RX1) (T := TX1) (M := 6) hx hb hts hinX1 hown hK hG i_q0_0 (by rw [hW_n (by omega)]; exact sW_o) rfl 2 (by decide) hf125 rfl rfl dX4_pourForHour_1 ?_
  refine lv_if_eq (tgt := 15) hx hb dX4_pourForHour_4 (by decide) (fun c_4 => ?_) (fun c_4 => ?_)
  · skip
    have c_4 : (sN v) = 0 := (nI_eq (a := sN v) (b := 0) (by omega) (by omega)).mp c_4
    refine lv_iconst (v := 0) hx hb dX4_pourForHour_15 (by decide) ?_
    exact g_iret hx hb hr hlocks hK hG hS rfl dX4_pourForHour_16 ⟨(congrArg (fun z9 => some (Value.int z9)) (by simp only [c_hourR, eq_true c_4, if_true, if_false])), (by first | (simp only [c_hourV, c_hourH, eq_true c_4, if_true, if_false]; done) | (simp only [c_hourV, c_hourH, eq_true c_4, if_true, if_false]; rfl))⟩
  · skip
    have c_4 : ¬ (sN v) = 0 := fun h9 => c_4 ((nI_eq (a := sN v) (b := 0) (by omega) (by omega)).mpr h9)
    refine lv_aload_n hx hb dX4_pourForHour_7 rfl (lv_at hl 1 rfl) ?_
    refine g_get (ci := 1) (C := RX1) (T := TX1) (M := 6) hx hb hts hinX1 hown hK hG i_q0_0 (by rw [hW_n (by omega)]; exact sW_o) rfl 4 (by decide) hf141 rfl rfl dX4_pourForHour_8 ?_
    refine lv_iconst (v := 2) hx hb dX4_pourForHour_11 (by decide) ?_
    refine lv_icmp_ne (tgt := 17) hx hb dX4_pourForHour_12 (by decide) (fun c_12 => ?_) (fun c_12 => ?_)
    · skip
      refine lv_aload_n hx hb dX4_pourForHour_17 rfl (lv_at hl 0 rfl) ?_
      refine lv_aload_n hx hb dX4_pourForHour_18 rfl (lv_at hl 1 rfl) ?_
      refine lv_aload_n hx hb dX4_pourForHour_19 rfl (lv_at hl 1 rfl) ?_
      refine g_get (ci := 1) (C := RX1) (T := TX1) (M := 6) hx hb hts hinX1 hown hK hG i_q0_0 (by rw [hW_n (by omega)]; exact sW_o) rfl 3 (by decide) hf111 rfl rfl dX4_pourForHour_20 ?_
      have hG := hG.to (hs_comm (by omega))
      refine g_cVi (As := [.ref (L b), .int (sP v)]) (rest := []) hx hb hml hown hts hK hA hG hS (k_X4_outInHour l D cy N L _ _ _ _ (by omega) (by omega) (cE_h (by omega) hE) (sP v) (hn)) (cwV 2 hts gX4_pourForHour_X4_outInHour rfl rfl rfl (by decide +kernel) ⟨Nat.le_of_ble_eq_true rfl, Nat.le_of_ble_eq_true rfl⟩) i_e0 (by rw [sW_n (by omega), hW_n (by omega)]; exact e0) (ci := 4) rfl rfl rfl rfl hl.1 (Nat.le_of_ble_eq_true rfl) dX4_pourForHour_23 ⟨Nat.zero_le _, Nat.zero_le _⟩ (fun H locs hG hS => ?_)
      have hG := hG.to (hs_comm (by omega)).symm
      refine lv_aload_n hx hb dX4_pourForHour_26 rfl (lv_at hl 1 rfl) ?_
      refine g_get (ci := 1) (C := RX1) (T := TX1) (M := 6) hx hb hts hinX1 hown hK hG i_q0_0 (by rw [hW_n (by omega)]; exact sW_o) rfl 0 (by decide) hf201 rfl rfl dX4_pourForHour_27 ?_
      refine lv_iconst (v := 0) hx hb dX4_pourForHour_30 (by decide) ?_
      refine g_iald hx hb hK hG i_q0_1 (by rw [hW_n (by omega)]; exact sW_t) (k := 0) rfl (by omega) (by decide) dX4_pourForHour_31 ?_
      refine lv_aload_n hx hb dX4_pourForHour_32 rfl (lv_at hl 2 rfl) ?_
      refine g_cVi (As := []) (rest := [.int ((sT v) 0), .int (c_outH z v (sP v))]) hx hb hml hown hts hK hA hG hS (k_X0_room l D cy N L _ _ _ (by omega)  ) (cwV 0 hts gX4_pourForHour_X0_room rfl rfl rfl (by decide +kernel) ⟨Nat.le_of_ble_eq_true rfl, Nat.le_of_ble_eq_true rfl⟩) i_q1_0 hW_o (ci := 0) rfl rfl rfl rfl hl.1 (Nat.le_of_ble_eq_true rfl) dX4_pourForHour_33 ⟨Nat.zero_le _, Nat.zero_le _⟩ (fun H locs hG hS => ?_)
      refine va_mmin hx hb (hml.trans hl.1.symm) hown hm257 hmsmin hmi hmcmin (Nat.le_of_ble_eq_true rfl) (Nat.le_of_ble_eq_true rfl) (Nat.zero_le _) (Nat.zero_le _) dX4_pourForHour_36 ?_
      refine va_mmin hx hb (hml.trans hl.1.symm) hown hm257 hmsmin hmi hmcmin (Nat.le_of_ble_eq_true rfl) (Nat.le_of_ble_eq_true rfl) (Nat.zero_le _) (Nat.zero_le _) dX4_pourForHour_39 ?_
      refine lv_toI (y := c_out z v h) (by unfold c_out s_min; rfl) ?_
      refine lv_istore_n (lv' := [(3, .int (c_out z v h)), (0, .ref (L 0)), (1, .ref (L b)), (2, .ref (L b2))]) hx hb dX4_pourForHour_42 rfl hl (by decide) rfl (fun ls hl => ?_)
      refine lv_iload_n hx hb dX4_pourForHour_43 rfl (lv_at hl 0 rfl) ?_
      refine lv_aload_n hx hb dX4_pourForHour_44 rfl (lv_at hl 1 rfl) ?_
      refine lv_iload_n hx hb dX4_pourForHour_45 rfl (lv_at hl 0 rfl) ?_
      refine g_cVi (As := [.int (c_out z v h)]) (rest := [.int (c_out z v h)]) hx hb hml hown hts hK hA hG hS (k_X4_dustOf l D cy N L _  _ (by omega) (cE_h (by omega) (cE_s (by omega) hE)) (c_out z v h) ) (cwV 1 hts gX4_pourForHour_X4_dustOf rfl rfl rfl (by decide +kernel) ⟨Nat.le_of_ble_eq_true rfl, Nat.le_of_ble_eq_true rfl⟩) i_e0 (by rw [hW_n (by omega), sW_n (by omega)]; exact e0) (ci := 4) rfl rfl rfl rfl hl.1 (Nat.le_of_ble_eq_true rfl) dX4_pourForHour_46 ⟨Nat.zero_le _, Nat.zero_le _⟩ (fun H locs hG hS => ?_)
      refine lv_isub hx hb dX4_pourForHour_49 ?_
      refine lv_istore (lv' := [(4, .int ((c_out z v h) - (c_dust z (c_out z v h)))), (3, .int (c_out z v h)), (0, .ref (L 0)), (1, .ref (L b)), (2, .ref (L b2))]) hx hb dX4_pourForHour_50 hl (by decide) rfl (fun ls hl => ?_)
      refine lv_aload_n hx hb dX4_pourForHour_52 rfl (lv_at hl 3 rfl) ?_
      refine lv_iload_n hx hb dX4_pourForHour_53 rfl (lv_at hl 1 rfl) ?_
      have hG := hG.to (hs_comm (by omega))
      refine g_cVv (As := [.int (c_out z v h)]) (rest := []) hx hb hml hown hts hK hA hG hS (k_X1_takeFromLowest l D cy N L _ _ _ (by omega) (c_out z v h) (hn) (by omega)) (cwV 1 hts gX4_pourForHour_X1_takeFromLowest rfl rfl rfl (by decide +kernel) ⟨Nat.le_of_ble_eq_true rfl, Nat.le_of_ble_eq_true rfl⟩) i_q0_0 sW_o (ci := 1) rfl rfl rfl rfl hl.1 (Nat.le_of_ble_eq_true rfl) dX4_pourForHour_54 ⟨Nat.zero_le _, Nat.zero_le _⟩ (fun H locs hG hS => ?_)
      have hG := hG.to (hs_comm (by omega)).symm
      refine lv_aload_n hx hb dX4_pourForHour_57 rfl (lv_at hl 4 rfl) ?_
      refine lv_dup hx hb dX4_pourForHour_58 rfl ?_
      refine g_get (ci := 0) (C := RX0) (T := TX0) (M := 2) hx hb hts hinX0 hown hK hG i_q1_0 hW_o rfl 0 (by decide) hf75 rfl rfl dX4_pourForHour_59 ?_
      refine lv_iload hx hb dX4_pourForHour_62 (lv_at hl 0 rfl) ?_
      refine lv_iadd hx hb dX4_pourForHour_64 ?_
      refine g_put (ci := 0) (C := RX0) (T := TX0) (M := 2) (ty := .int) hx hb hts hinX0 tyX0 tyX0_ok nmX0 hown hK hG hS i_q1_0 hW_o rfl 0 (by decide) hf75 rfl rfl rfl rfl rfl (Nat.le_of_ble_eq_true rfl) dX4_pourForHour_65 rfl (fun H locs hG hS => ?_)
      have hG : GW D N L (gA N L s.heap.size) (hW (sW cy L F b (s_take v (c_out z v h))) b2 ((hT h) + ((c_out z v h) - (c_dust z (c_out z v h))), hH h)) H := hG.to hW_uo
      refine lv_iload hx hb dX4_pourForHour_68 (lv_at hl 0 rfl) ?_
      exact g_iret hx hb hr hlocks hK hG hS rfl dX4_pourForHour_70 ⟨(congrArg (fun z9 => some (Value.int z9)) (by simp only [c_hourR, c_4, c_12, if_true, if_false])), (by first | (simp only [c_hourV, c_hourH, c_4, c_12, if_true, if_false]; done) | (simp only [c_hourV, c_hourH, c_4, c_12, if_true, if_false]; rfl))⟩
    · skip
      refine lv_iconst (v := 0) hx hb dX4_pourForHour_15 (by decide) ?_
      exact g_iret hx hb hr hlocks hK hG hS rfl dX4_pourForHour_16 ⟨(congrArg (fun z9 => some (Value.int z9)) (by simp only [c_hourR, c_4, eq_true c_12, if_true, if_false])), (by first | (simp only [c_hourV, c_hourH, c_4, eq_true c_12, if_true, if_false]; done) | (simp only [c_hourV, c_hourH, c_4, eq_true c_12, if_true, if_false]; rfl))⟩
set_option maxHeartbeats 4000000 in
set_option maxRecDepth 100000 in
theorem k_X4_pour (l : Launch) (D : va_G) (cy : Nat → ClassId) (N : Nat) (L : Nat → Nat) (F : Nat → va_E) (b : Nat) (v : ST) (b2 : Nat) (h : HT) (z : Nat → Int32) (hb5 : 5 ≤ b) (hb : b + 3 ≤ N) (hb25 : 5 ≤ b2) (hb2 : b2 < N) (hd : b2 < b ∨ b + 3 ≤ b2) (hE : cE cy L F z)  (q : Nat) (hn : sN v ≤ 10) (hq : q < 1000) : GM l D cy N L yX4_pour wsX4_pour ({ frames := 3, cells := 0, slots := 0, locals := 68 }) [.ref (L 0), .ref (L b), .ref (L b2), .int (nI q)] (hW (sW cy L F b v) b2 h) (some (.int (c_poR z v h q))) (hW (sW cy L F b ((c_poS z v h q).1)) b2 ((c_poS z v h q).2)) := by
  refine GM.ofW (cc := cX4_pour) (maxL := 6) (ret := (some .int)) (by decide) rfl (Nat.le_of_ble_eq_true rfl) ?_
  intro p e s m below meth c ls hx hb hr hts hown hlocks hml hK hA hG hS hl
  have hl : lv_has ls 6 [(0, .ref (L 0)), (1, .ref (L b)), (2, .ref (L b2)), (3, .int (nI q))] := hl
  have i_q0_0 : b < N := by omega
  have i_q0_1 : b + 1 < N := by omega
  have i_q0_2 : b + 2 < N := by omega
  have i_q1_0 : b2 < N := by omega
  obtain ⟨⟨fs0, e0⟩, ⟨a1, a2, fs1, e1⟩, e4⟩ := id hE
  have i_e0 : 0 < N := by omega
  have i_e1 : 1 < N := by omega
  have i_e4 : 4 < N := by omega
  refine lv_iconst (v := 0) hx hb dX4_pour_0 (by decide) ?_
  refine lv_istore (lv' := [(4, .int 0), (0, .ref (L 0)), (1, .ref (L b)), (2, .ref (L b2)), (3, .int (nI q))]) hx hb dX4_pour_1 hl (by decide) rfl (fun ls hl => ?_)
  refine lv_iconst (v := 0) hx hb dX4_pour_3 (by decide) ?_
  refine lv_istore (lv' := [(5, .int 0), (4, .int 0), (0, .ref (L 0)), (1, .ref (L b)), (2, .ref (L b2)), (3, .int (nI q))]) hx hb dX4_pour_4 hl (by decide) rfl (fun ls hl => ?_)
  refine W.loop (σ := Nat) (fun i H locs ls => (i ≤ q) ∧ GW D N L (gA N L s.heap.size) (hW (sW cy L F b ((c_poS z v h i).1)) b2 ((c_poS z v h i).2)) H ∧ va_S (gA N L s.heap.size) s.heap H locs ∧ lv_has ls 6 [(4, .int (c_poR z v h i)), (5, .int (nI i)), (0, .ref (L 0)), (1, .ref (L b)), (2, .ref (L b2)), (3, .int (nI q))]) (fun i => q - i) 0 ⟨by omega, hG.to (rfl), hS, lv_to (lv_sub hl [1, 0, 2, 3, 4, 5] rfl) (rfl)⟩ ?_
  intro i H locs ls hP9 ih6
  obtain ⟨hi9, hG, hS, hl⟩ := hP9
  have hn9 := c_po_N (z := z) (h := h) hn i
  refine lv_iload hx hb dX4_pour_6 (lv_at hl 1 rfl) ?_
  refine lv_iload_n hx hb dX4_pour_8 rfl (lv_at hl 5 rfl) ?_
  refine lv_icmp_ge (tgt := 29) hx hb dX4_pour_9 (by decide) (fun c_9 => ?_) (fun c_9 => ?_)
  · skip
    have c_9 : q ≤ i := (nI_leI (a := q) (b := i) (by omega) (by omega)).mp c_9
    refine lv_iload hx hb dX4_pour_29 (lv_at hl 0 rfl) ?_
    exact g_iret hx hb hr hlocks hK hG hS rfl dX4_pour_31 ⟨(congrArg (fun z9 => some (Value.int z9)) (by rw [show i = q by omega])), (by rw [show i = q by omega])⟩
  · skip
    have c_9 : ¬ q ≤ i := fun h9 => c_9 ((nI_leI (a := q) (b := i) (by omega) (by omega)).mpr h9)
    refine lv_iload hx hb dX4_pour_12 (lv_at hl 0 rfl) ?_
    refine lv_aload_n hx hb dX4_pour_14 rfl (lv_at hl 2 rfl) ?_
    refine lv_aload_n hx hb dX4_pour_15 rfl (lv_at hl 3 rfl) ?_
    refine lv_aload_n hx hb dX4_pour_16 rfl (lv_at hl 4 rfl) ?_
    refine g_cVi (As := [.ref (L b), .ref (L b2)]) (rest := [.int (c_poR z v h i)]) hx hb hml hown hts hK hA hG hS (k_X4_pourForHour l D cy N L _ _ _ _ _ _ (by omega) (by omega) (by omega) (by omega) (by omega) hE  (hn9)) (cwV 2 hts gX4_pour_X4_pourForHour rfl rfl rfl (by decide +kernel) ⟨Nat.le_of_ble_eq_true rfl, Nat.le_of_ble_eq_true rfl⟩) i_e0 (by rw [hW_n (by omega), sW_n (by omega)]; exact e0) (ci := 4) rfl rfl rfl rfl hl.1 (Nat.le_of_ble_eq_true rfl) dX4_pour_17 ⟨Nat.zero_le _, Nat.zero_le _⟩ (fun H locs hG hS => ?_)
    refine lv_iadd hx hb dX4_pour_20 ?_
    refine lv_istore (lv' := [(4, .int ((c_poR z v h i) + (c_hourR z ((c_poS z v h i).1) ((c_poS z v h i).2)))), (5, .int (nI i)), (0, .ref (L 0)), (1, .ref (L b)), (2, .ref (L b2)), (3, .int (nI q))]) hx hb dX4_pour_21 hl (by decide) rfl (fun ls hl => ?_)
    refine lv_iinc (v := nI (i + 1)) (lv' := [(5, .int (nI (i + 1))), (4, .int ((c_poR z v h i) + (c_hourR z ((c_poS z v h i).1) ((c_poS z v h i).2)))), (0, .ref (L 0)), (1, .ref (L b)), (2, .ref (L b2)), (3, .int (nI q))]) hx hb dX4_pour_23 hl (k := 1) rfl (nI_add i 1) (by decide) rfl (fun ls hl => ?_)
    refine lv_goto (tgt := 6) hx hb dX4_pour_26 (by decide) ?_
    have hl : lv_has ls 6 [(4, .int ((c_poR z v h i) + (c_hourR z ((c_poS z v h i).1) ((c_poS z v h i).2)))), (5, .int (nI (i + 1))), (0, .ref (L 0)), (1, .ref (L b)), (2, .ref (L b2)), (3, .int (nI q))] := lv_sub hl [1, 0, 2, 3, 4, 5] rfl
    exact ih6 (i + 1) _ _ _ (by omega) ⟨by omega, hG.to (rfl), hS, lv_to hl (rfl)⟩
set_option maxHeartbeats 4000000 in
set_option maxRecDepth 100000 in
theorem k_X4_bringIn (l : Launch) (D : va_G) (cy : Nat → ClassId) (N : Nat) (L : Nat → Nat) (F : Nat → va_E) (b : Nat) (v : ST) (b2 : Nat) (h : HT) (z : Nat → Int32) (hb5 : 5 ≤ b) (hb : b + 3 ≤ N) (hb25 : 5 ≤ b2) (hb2 : b2 < N) (hd : b2 < b ∨ b + 3 ≤ b2) (hE : cE cy L F z)  (t : Int32) (hn : sN v ≤ 10) : GM l D cy N L yX4_bringIn wsX4_bringIn ({ frames := 3, cells := 0, slots := 0, locals := 64 }) [.ref (L 0), .ref (L b), .ref (L b2), .int t] (hW (sW cy L F b v) b2 h) (some (.int (c_brR v h t))) (hW (sW cy L F b (s_fill v (c_brR v h t))) b2 (hT h - c_brR v h t, hH h)) := by
  refine GM.ofW (cc := cX4_bringIn) (maxL := 5) (ret := (some .int)) (by decide) rfl (Nat.le_of_ble_eq_true rfl) ?_
  intro p e s m below meth c ls hx hb hr hts hown hlocks hml hK hA hG hS hl
  have hl : lv_has ls 5 [(0, .ref (L 0)), (1, .ref (L b)), (2, .ref (L b2)), (3, .int t)] := hl
  have i_q0_0 : b < N := by omega
  have i_q0_1 : b + 1 < N := by omega
  have i_q0_2 : b + 2 < N := by omega
  have i_q1_0 : b2 < N := by omega
  obtain ⟨⟨fs0, e0⟩, ⟨a1, a2, fs1, e1⟩, e4⟩ := id hE
  have i_e0 : 0 < N := by omega
  have i_e1 : 1 < N := by omega
  have i_e4 : 4 < N := by omega
  have hf75 := hts (.fieldLink RX4 75 "SiloPads$Ship" "tonnes" "I") (by decide +kernel)
  have hinX0 : ∀ w ∈ u_ws RX0 TX0 2, w ∈ wsX4_bringIn := by decide +kernel
  have hm257 := hts (.methodLink RX4 257 Lib.Math.min.name) (by decide +kernel)
  have hmsmin := hts (.static Lib.Math.min.name) (by decide +kernel)
  have hmcmin := hts (.code Lib.Math.min.name Lib.Math.min.code 2 (some .int)) (by decide +kernel)
  have hmi := hts (.initialized "java/lang/Math") (by decide +kernel)
  refine lv_iload_n hx hb dX4_bringIn_0 rfl (lv_at hl 3 rfl) ?_
  refine lv_aload_n hx hb dX4_bringIn_1 rfl (lv_at hl 2 rfl) ?_
  refine g_get (ci := 0) (C := RX0) (T := TX0) (M := 2) hx hb hts hinX0 hown hK hG i_q1_0 hW_o rfl 0 (by decide) hf75 rfl rfl dX4_bringIn_2 ?_
  refine lv_aload_n hx hb dX4_bringIn_5 rfl (lv_at hl 1 rfl) ?_
  have hG := hG.to (hs_comm (by omega))
  refine g_cVi (As := []) (rest := [.int (hT h), .int t]) hx hb hml hown hts hK hA hG hS (k_X1_place l D cy N L _ _ _ (by omega)  (hn)) (cwV 0 hts gX4_bringIn_X1_place rfl rfl rfl (by decide +kernel) ⟨Nat.le_of_ble_eq_true rfl, Nat.le_of_ble_eq_true rfl⟩) i_q0_0 sW_o (ci := 1) rfl rfl rfl rfl hl.1 (Nat.le_of_ble_eq_true rfl) dX4_bringIn_6 ⟨Nat.zero_le _, Nat.zero_le _⟩ (fun H locs hG hS => ?_)
  have hG := hG.to (hs_comm (by omega)).symm
  refine va_mmin hx hb (hml.trans hl.1.symm) hown hm257 hmsmin hmi hmcmin (Nat.le_of_ble_eq_true rfl) (Nat.le_of_ble_eq_true rfl) (Nat.zero_le _) (Nat.zero_le _) dX4_bringIn_9 ?_
  refine va_mmin hx hb (hml.trans hl.1.symm) hown hm257 hmsmin hmi hmcmin (Nat.le_of_ble_eq_true rfl) (Nat.le_of_ble_eq_true rfl) (Nat.zero_le _) (Nat.zero_le _) dX4_bringIn_12 ?_
  refine lv_toI (y := c_brR v h t) (by unfold c_brR s_min; rfl) ?_
  refine lv_istore (lv' := [(4, .int (c_brR v h t)), (0, .ref (L 0)), (1, .ref (L b)), (2, .ref (L b2)), (3, .int t)]) hx hb dX4_bringIn_15 hl (by decide) rfl (fun ls hl => ?_)
  refine lv_aload_n hx hb dX4_bringIn_17 rfl (lv_at hl 3 rfl) ?_
  refine lv_dup hx hb dX4_bringIn_18 rfl ?_
  refine g_get (ci := 0) (C := RX0) (T := TX0) (M := 2) hx hb hts hinX0 hown hK hG i_q1_0 hW_o rfl 0 (by decide) hf75 rfl rfl dX4_bringIn_19 ?_
  refine lv_iload hx hb dX4_bringIn_22 (lv_at hl 0 rfl) ?_
  refine lv_isub hx hb dX4_bringIn_24 ?_
  refine g_put (ci := 0) (C := RX0) (T := TX0) (M := 2) (ty := .int) hx hb hts hinX0 tyX0 tyX0_ok nmX0 hown hK hG hS i_q1_0 hW_o rfl 0 (by decide) hf75 rfl rfl rfl rfl rfl (Nat.le_of_ble_eq_true rfl) dX4_bringIn_25 rfl (fun H locs hG hS => ?_)
  have hG : GW D N L (gA N L s.heap.size) (hW (sW cy L F b v) b2 ((hT h) - (c_brR v h t), hH h)) H := hG.to hW_uo
  refine lv_aload_n hx hb dX4_bringIn_28 rfl (lv_at hl 2 rfl) ?_
  refine lv_iload hx hb dX4_bringIn_29 (lv_at hl 0 rfl) ?_
  have hG := hG.to (hs_comm (by omega))
  refine g_cVv (As := [.int (c_brR v h t)]) (rest := []) hx hb hml hown hts hK hA hG hS (k_X1_fill l D cy N L _ _ _ (by omega) (c_brR v h t) (hn)) (cwV 1 hts gX4_bringIn_X1_fill rfl rfl rfl (by decide +kernel) ⟨Nat.le_of_ble_eq_true rfl, Nat.le_of_ble_eq_true rfl⟩) i_q0_0 sW_o (ci := 1) rfl rfl rfl rfl hl.1 (Nat.le_of_ble_eq_true rfl) dX4_bringIn_31 ⟨Nat.zero_le _, Nat.zero_le _⟩ (fun H locs hG hS => ?_)
  have hG := hG.to (hs_comm (by omega)).symm
  refine lv_iload hx hb dX4_bringIn_34 (lv_at hl 0 rfl) ?_
  exact g_iret hx hb hr hlocks hK hG hS rfl dX4_bringIn_36 ⟨rfl, (by rfl)⟩
set_option maxHeartbeats 4000000 in
set_option maxRecDepth 100000 in
theorem k_X4_shakesToBreak (l : Launch) (D : va_G) (cy : Nat → ClassId) (N : Nat) (L : Nat → Nat) (F : Nat → va_E) (b : Nat) (v : ST) (z : Nat → Int32) (hb5 : 5 ≤ b) (hb : b + 3 ≤ N) (hE : cE cy L F z)   (hn : sN v ≤ 10) (hn1 : 1 ≤ sN v ∨ sC v = 2 ∨ sC v = 0) : GM l D cy N L yX4_shakesToBreak wsX4_shakesToBreak ({ frames := 2, cells := 0, slots := 0, locals := 43 }) [.ref (L 0), .ref (L b)] (sW cy L F b v) (some (.int (c_brk z v))) (sW cy L F b v) := by
  refine GM.ofW (cc := cX4_shakesToBreak) (maxL := 2) (ret := (some .int)) (by decide) rfl (Nat.le_of_ble_eq_true rfl) ?_
  intro p e s m below meth c ls hx hb hr hts hown hlocks hml hK hA hG hS hl
  have hl : lv_has ls 2 [(0, .ref (L 0)), (1, .ref (L b))] := hl
  have i_q0_0 : b < N := by omega
  have i_q0_1 : b + 1 < N := by omega
  have i_q0_2 : b + 2 < N := by omega
  obtain ⟨⟨fs0, e0⟩, ⟨a1, a2, fs1, e1⟩, e4⟩ := id hE
  have i_e0 : 0 < N := by omega
  have i_e1 : 1 < N := by omega
  have i_e4 : 4 < N := by omega
  have hf141 := hts (.fieldLink RX4 141 "SiloPads$Silo" "arch" "I") (by decide +kernel)
  have hinX1 : ∀ w ∈ u_ws RX1 TX1 6, w ∈ wsX4_shakesToBreak := by decide +kernel
  have hf10 := hts (.fieldLink RX4 10 "SiloPads" "now" "LSiloPads$Yard;") (by decide +kernel)
  have hinX4 : ∀ w ∈ u_ws RX4 TX4 8, w ∈ wsX4_shakesToBreak := by decide +kernel
  have hf117 := hts (.fieldLink RX4 117 "SiloPads$Yard" "settings" "[I") (by decide +kernel)
  have hinX3 : ∀ w ∈ u_ws RX3 TX3 9, w ∈ wsX4_shakesToBreak := by decide +kernel
  have hf134 := hts (.fieldLink RX4 134 "SiloPads$Silo" "shakes" "I") (by decide +kernel)
  have hm317 := hts (.methodLink RX4 317 Lib.Math.max.name) (by decide +kernel)
  have hmsmax := hts (.static Lib.Math.max.name) (by decide +kernel)
  have hmcmax := hts (.code Lib.Math.max.name Lib.Math.max.code 2 (some .int)) (by decide +kernel)
  have hmi := hts (.initialized "java/lang/Math") (by decide +kernel)
  refine lv_aload_n hx hb dX4_shakesToBreak_0 rfl (lv_at hl 1 rfl) ?_
  refine g_get (ci := 1) (C := RX1) (T := TX1) (M := 6) hx hb hts hinX1 hown hK hG i_q0_0 sW_o rfl 4 (by decide) hf141 rfl rfl dX4_shakesToBreak_1 ?_
  refine lv_if_ne (tgt := 9) hx hb dX4_shakesToBreak_4 (by decide) (fun c_4 => ?_) (fun c_4 => ?_)
  · skip
    refine lv_aload_n hx hb dX4_shakesToBreak_9 rfl (lv_at hl 1 rfl) ?_
    refine g_cVi (As := []) (rest := []) hx hb hml hown hts hK hA hG hS (k_X1_tonnesHeld l D cy N L _ _ _ (by omega)  (hn) (by rcases hn1 with h9 | h9 | h9 <;> first | exact Or.inl h9 | exact Or.inr h9 | exact absurd h9 c_4)) (cwV 0 hts gX4_shakesToBreak_X1_tonnesHeld rfl rfl rfl (by decide +kernel) ⟨Nat.le_of_ble_eq_true rfl, Nat.le_of_ble_eq_true rfl⟩) i_q0_0 sW_o (ci := 1) rfl rfl rfl rfl hl.1 (Nat.le_of_ble_eq_true rfl) dX4_shakesToBreak_10 ⟨Nat.zero_le _, Nat.zero_le _⟩ (fun H locs hG hS => ?_)
    refine lv_aload_n hx hb dX4_shakesToBreak_13 rfl (lv_at hl 0 rfl) ?_
    refine g_get (ci := 4) (C := RX4) (T := TX4) (M := 8) hx hb hts hinX4 hown hK hG i_e0 (by rw [sW_n (by omega)]; exact e0) rfl 0 (by decide) hf10 rfl rfl dX4_shakesToBreak_14 ?_
    refine g_get (ci := 3) (C := RX3) (T := TX3) (M := 9) hx hb hts hinX3 hown hK hG i_e1 (by rw [sW_n (by omega)]; exact e1) rfl 2 (by decide) hf117 rfl rfl dX4_shakesToBreak_17 ?_
    refine lv_iconst (v := 3) hx hb dX4_shakesToBreak_20 (by decide) ?_
    refine g_iald hx hb hK hG i_e4 (by rw [sW_n (by omega)]; exact e4) (k := 3) rfl (by omega) (by decide) dX4_shakesToBreak_21 ?_
    refine lv_icmp_lt (tgt := 27) hx hb dX4_shakesToBreak_22 (by decide) (fun c_22 => ?_) (fun c_22 => ?_)
    · skip
      refine lv_iconst (v := 1) hx hb dX4_shakesToBreak_27 (by decide) ?_
      refine lv_iconst (v := 3) hx hb dX4_shakesToBreak_28 (by decide) ?_
      refine lv_aload_n hx hb dX4_shakesToBreak_29 rfl (lv_at hl 1 rfl) ?_
      refine g_get (ci := 1) (C := RX1) (T := TX1) (M := 6) hx hb hts hinX1 hown hK hG i_q0_0 sW_o rfl 5 (by decide) hf134 rfl rfl dX4_shakesToBreak_30 ?_
      refine lv_isub hx hb dX4_shakesToBreak_33 ?_
      refine va_mmax hx hb (hml.trans hl.1.symm) hown hm317 hmsmax hmi hmcmax (Nat.le_of_ble_eq_true rfl) (Nat.le_of_ble_eq_true rfl) (Nat.zero_le _) (Nat.zero_le _) dX4_shakesToBreak_34 ?_
      exact g_iret hx hb hr hlocks hK hG hS rfl dX4_shakesToBreak_37 ⟨(congrArg (fun z9 => some (Value.int z9)) (by first | (simp only [c_brk, c_4, c_22, if_true, if_false, not_true_eq_false, not_false_eq_true]; done) | (simp [c_brk, c_4, c_22]; done) | rfl)), rfl⟩
    · skip
      refine lv_iconst (v := 1) hx hb dX4_shakesToBreak_25 (by decide) ?_
      exact g_iret hx hb hr hlocks hK hG hS rfl dX4_shakesToBreak_26 ⟨(congrArg (fun z9 => some (Value.int z9)) (by first | (simp only [c_brk, c_4, c_22, if_true, if_false, not_true_eq_false, not_false_eq_true]; done) | (simp [c_brk, c_4, c_22]; done) | rfl)), rfl⟩
  · skip
    refine lv_iconst (v := 0) hx hb dX4_shakesToBreak_7 (by decide) ?_
    exact g_iret hx hb hr hlocks hK hG hS rfl dX4_shakesToBreak_8 ⟨(congrArg (fun z9 => some (Value.int z9)) (by first | (simp only [c_brk, eq_true c_4, if_true, if_false, not_true_eq_false, not_false_eq_true]; done) | (simp [c_brk, eq_true c_4]; done) | rfl)), rfl⟩
set_option maxHeartbeats 4000000 in
set_option maxRecDepth 100000 in
theorem k_X4_softTonnes (l : Launch) (D : va_G) (cy : Nat → ClassId) (N : Nat) (L : Nat → Nat) (F : Nat → va_E) (b : Nat) (v : ST) (z : Nat → Int32) (hb5 : 5 ≤ b) (hb : b + 3 ≤ N) (hE : cE cy L F z)   (hn : sN v ≤ 10) : GM l D cy N L yX4_softTonnes wsX4_softTonnes ({ frames := 1, cells := 0, slots := 0, locals := 22 }) [.ref (L 0), .ref (L b)] (sW cy L F b v) (some (.int (c_soft z v (sN v)))) (sW cy L F b v) := by
  refine GM.ofW (cc := cX4_softTonnes) (maxL := 4) (ret := (some .int)) (by decide) rfl (Nat.le_of_ble_eq_true rfl) ?_
  intro p e s m below meth c ls hx hb hr hts hown hlocks hml hK hA hG hS hl
  have hl : lv_has ls 4 [(0, .ref (L 0)), (1, .ref (L b))] := hl
  have i_q0_0 : b < N := by omega
  have i_q0_1 : b + 1 < N := by omega
  have i_q0_2 : b + 2 < N := by omega
  obtain ⟨⟨fs0, e0⟩, ⟨a1, a2, fs1, e1⟩, e4⟩ := id hE
  have i_e0 : 0 < N := by omega
  have i_e1 : 1 < N := by omega
  have i_e4 : 4 < N := by omega
  have hf125 := hts (.fieldLink RX4 125 "SiloPads$Silo" "layers" "I") (by decide +kernel)
  have hinX1 : ∀ w ∈ u_ws RX1 TX1 6, w ∈ wsX4_softTonnes := by decide +kernel
  have hf203 := hts (.fieldLink RX4 203 "SiloPads$Silo" "ages" "[I") (by decide +kernel)
  have hf201 := hts (.fieldLink RX4 201 "SiloPads$Silo" "tonnes" "[I") (by decide +kernel)
  refine lv_iconst (v := 0) hx hb dX4_softTonnes_0 (by decide) ?_
  refine lv_istore_n (lv' := [(2, .int 0), (0, .ref (L 0)), (1, .ref (L b))]) hx hb dX4_softTonnes_1 rfl hl (by decide) rfl (fun ls hl => ?_)
  refine lv_iconst (v := 0) hx hb dX4_softTonnes_2 (by decide) ?_
  refine lv_istore_n (lv' := [(3, .int 0), (2, .int 0), (0, .ref (L 0)), (1, .ref (L b))]) hx hb dX4_softTonnes_3 rfl hl (by decide) rfl (fun ls hl => ?_)
  refine W.loop (σ := Nat) (fun i H locs ls => (i ≤ sN v) ∧ GW D N L (gA N L s.heap.size) (sW cy L F b v) H ∧ va_S (gA N L s.heap.size) s.heap H locs ∧ lv_has ls 4 [(2, .int (c_soft z v i)), (3, .int (nI i)), (0, .ref (L 0)), (1, .ref (L b))]) (fun i => sN v - i) 0 ⟨by omega, hG.to (rfl), hS, lv_to (lv_sub hl [1, 0, 2, 3] rfl) (rfl)⟩ ?_
  intro i H locs ls hP9 ih4
  obtain ⟨hi9, hG, hS, hl⟩ := hP9
  refine lv_iload_n hx hb dX4_softTonnes_4 rfl (lv_at hl 1 rfl) ?_
  refine lv_aload_n hx hb dX4_softTonnes_5 rfl (lv_at hl 3 rfl) ?_
  refine g_get (ci := 1) (C := RX1) (T := TX1) (M := 6) hx hb hts hinX1 hown hK hG i_q0_0 sW_o rfl 2 (by decide) hf125 rfl rfl dX4_softTonnes_6 ?_
  refine lv_icmp_ge (tgt := 40) hx hb dX4_softTonnes_9 (by decide) (fun c_9 => ?_) (fun c_9 => ?_)
  · skip
    have c_9 : (sN v) ≤ i := (nI_leI (a := sN v) (b := i) (by omega) (by omega)).mp c_9
    refine lv_iload_n hx hb dX4_softTonnes_40 rfl (lv_at hl 0 rfl) ?_
    exact g_iret hx hb hr hlocks hK hG hS rfl dX4_softTonnes_41 ⟨(congrArg (fun z9 => some (Value.int z9)) (by rw [show i = sN v by omega])), rfl⟩
  · skip
    have c_9 : ¬ (sN v) ≤ i := fun h9 => c_9 ((nI_leI (a := sN v) (b := i) (by omega) (by omega)).mpr h9)
    refine lv_aload_n hx hb dX4_softTonnes_12 rfl (lv_at hl 2 rfl) ?_
    refine lv_aload_n hx hb dX4_softTonnes_13 rfl (lv_at hl 3 rfl) ?_
    refine g_get (ci := 1) (C := RX1) (T := TX1) (M := 6) hx hb hts hinX1 hown hK hG i_q0_0 sW_o rfl 1 (by decide) hf203 rfl rfl dX4_softTonnes_14 ?_
    refine lv_iload_n hx hb dX4_softTonnes_17 rfl (lv_at hl 1 rfl) ?_
    refine g_iald hx hb hK hG i_q0_2 sW_a (k := i) rfl (by omega) (by decide) dX4_softTonnes_18 ?_
    refine g_cVi (As := [.int ((sA v) i)]) (rest := []) hx hb hml hown hts hK hA hG hS (k_X4_hardnessAt l D cy N L _  _ (by omega) (cE_s (by omega) hE) ((sA v) i) ) (cwV 1 hts gX4_softTonnes_X4_hardnessAt rfl rfl rfl (by decide +kernel) ⟨Nat.le_of_ble_eq_true rfl, Nat.le_of_ble_eq_true rfl⟩) i_e0 (by rw [sW_n (by omega)]; exact e0) (ci := 4) rfl rfl rfl rfl hl.1 (Nat.le_of_ble_eq_true rfl) dX4_softTonnes_19 ⟨Nat.zero_le _, Nat.zero_le _⟩ (fun H locs hG hS => ?_)
    refine lv_if_ne (tgt := 34) hx hb dX4_softTonnes_22 (by decide) (fun c_22 => ?_) (fun c_22 => ?_)
    · skip
      refine lv_iinc (v := nI (i + 1)) (lv' := [(3, .int (nI (i + 1))), (2, .int (c_soft z v i)), (0, .ref (L 0)), (1, .ref (L b))]) hx hb dX4_softTonnes_34 hl (k := 1) rfl (nI_add i 1) (by decide) rfl (fun ls hl => ?_)
      refine lv_goto (tgt := 4) hx hb dX4_softTonnes_37 (by decide) ?_
      have hl : lv_has ls 4 [(2, .int (c_soft z v i)), (3, .int (nI (i + 1))), (0, .ref (L 0)), (1, .ref (L b))] := lv_sub hl [1, 0, 2, 3] rfl
      exact ih4 (i + 1) _ _ _ (by omega) ⟨by omega, hG.to (rfl), hS, lv_to hl (by simp only [c_soft, c_9, c_22, if_true, if_false])⟩
    · skip
      refine lv_iload_n hx hb dX4_softTonnes_25 rfl (lv_at hl 0 rfl) ?_
      refine lv_aload_n hx hb dX4_softTonnes_26 rfl (lv_at hl 3 rfl) ?_
      refine g_get (ci := 1) (C := RX1) (T := TX1) (M := 6) hx hb hts hinX1 hown hK hG i_q0_0 sW_o rfl 0 (by decide) hf201 rfl rfl dX4_softTonnes_27 ?_
      refine lv_iload_n hx hb dX4_softTonnes_30 rfl (lv_at hl 1 rfl) ?_
      refine g_iald hx hb hK hG i_q0_1 sW_t (k := i) rfl (by omega) (by decide) dX4_softTonnes_31 ?_
      refine lv_iadd hx hb dX4_softTonnes_32 ?_
      refine lv_istore_n (lv' := [(2, .int ((c_soft z v i) + ((sT v) i))), (3, .int (nI i)), (0, .ref (L 0)), (1, .ref (L b))]) hx hb dX4_softTonnes_33 rfl hl (by decide) rfl (fun ls hl => ?_)
      refine lv_iinc (v := nI (i + 1)) (lv' := [(3, .int (nI (i + 1))), (2, .int ((c_soft z v i) + ((sT v) i))), (0, .ref (L 0)), (1, .ref (L b))]) hx hb dX4_softTonnes_34 hl (k := 1) rfl (nI_add i 1) (by decide) rfl (fun ls hl => ?_)
      refine lv_goto (tgt := 4) hx hb dX4_softTonnes_37 (by decide) ?_
      have hl : lv_has ls 4 [(2, .int ((c_soft z v i) + ((sT v) i))), (3, .int (nI (i + 1))), (0, .ref (L 0)), (1, .ref (L b))] := lv_sub hl [1, 0, 2, 3] rfl
      exact ih4 (i + 1) _ _ _ (by omega) ⟨by omega, hG.to (rfl), hS, lv_to hl (by simp only [c_soft, c_9, eq_true c_22, if_true, if_false])⟩
set_option maxHeartbeats 4000000 in
set_option maxRecDepth 100000 in
theorem k_X4_passDayIn (l : Launch) (D : va_G) (cy : Nat → ClassId) (N : Nat) (L : Nat → Nat) (F : Nat → va_E) (b : Nat) (v : ST) (z : Nat → Int32) (hb5 : 5 ≤ b) (hb : b + 3 ≤ N) (hE : cE cy L F z)   (hn : sN v ≤ 10) : GM l D cy N L yX4_passDayIn wsX4_passDayIn ({ frames := 1, cells := 0, slots := 0, locals := 22 }) [.ref (L 0), .ref (L b)] (sW cy L F b v) (some (.int (c_dayR z v))) (sW cy L F b (c_dayV z v)) := by
  refine GM.ofW (cc := cX4_passDayIn) (maxL := 2) (ret := (some .int)) (by decide) rfl (Nat.le_of_ble_eq_true rfl) ?_
  intro p e s m below meth c ls hx hb hr hts hown hlocks hml hK hA hG hS hl
  have hl : lv_has ls 2 [(0, .ref (L 0)), (1, .ref (L b))] := hl
  have i_q0_0 : b < N := by omega
  have i_q0_1 : b + 1 < N := by omega
  have i_q0_2 : b + 2 < N := by omega
  obtain ⟨⟨fs0, e0⟩, ⟨a1, a2, fs1, e1⟩, e4⟩ := id hE
  have i_e0 : 0 < N := by omega
  have i_e1 : 1 < N := by omega
  have i_e4 : 4 < N := by omega
  have hf203 := hts (.fieldLink RX4 203 "SiloPads$Silo" "ages" "[I") (by decide +kernel)
  have hinX1 : ∀ w ∈ u_ws RX1 TX1 6, w ∈ wsX4_passDayIn := by decide +kernel
  have hf141 := hts (.fieldLink RX4 141 "SiloPads$Silo" "arch" "I") (by decide +kernel)
  have hf134 := hts (.fieldLink RX4 134 "SiloPads$Silo" "shakes" "I") (by decide +kernel)
  refine lv_aload_n hx hb dX4_passDayIn_0 rfl (lv_at hl 1 rfl) ?_
  refine g_cVv (As := []) (rest := []) hx hb hml hown hts hK hA hG hS (k_X1_makeOlder l D cy N L _ _ _ (by omega)  (hn)) (cwV 0 hts gX4_passDayIn_X1_makeOlder rfl rfl rfl (by decide +kernel) ⟨Nat.le_of_ble_eq_true rfl, Nat.le_of_ble_eq_true rfl⟩) i_q0_0 sW_o (ci := 1) rfl rfl rfl rfl hl.1 (Nat.le_of_ble_eq_true rfl) dX4_passDayIn_1 ⟨Nat.zero_le _, Nat.zero_le _⟩ (fun H locs hG hS => ?_)
  refine lv_aload_n hx hb dX4_passDayIn_4 rfl (lv_at hl 1 rfl) ?_
  refine g_cVi (As := []) (rest := []) hx hb hml hown hts hK hA hG hS (k_X1_canGetArch l D cy N L _ _ _ (by omega)  (hn)) (cwV 0 hts gX4_passDayIn_X1_canGetArch rfl rfl rfl (by decide +kernel) ⟨Nat.le_of_ble_eq_true rfl, Nat.le_of_ble_eq_true rfl⟩) i_q0_0 sW_o (ci := 1) rfl rfl rfl rfl hl.1 (Nat.le_of_ble_eq_true rfl) dX4_passDayIn_5 ⟨Nat.zero_le _, Nat.zero_le _⟩ (fun H locs hG hS => ?_)
  refine lv_if_eq (tgt := 24) hx hb dX4_passDayIn_8 (by decide) (fun c_8 => ?_) (fun c_8 => ?_)
  · skip
    refine lv_iconst (v := 0) hx hb dX4_passDayIn_24 (by decide) ?_
    exact g_iret hx hb hr hlocks hK hG hS rfl dX4_passDayIn_25 ⟨(congrArg (fun z9 => some (Value.int z9)) (by first | (simp only [c_dayR, c_dayV, c_old, eq_true c_8, if_true, if_false, not_true_eq_false, not_false_eq_true]; done) | (simp [c_dayR, c_dayV, c_old, eq_true c_8]; done) | rfl)), (by first | (simp only [c_dayR, c_dayV, c_old, eq_true c_8, if_true, if_false, not_true_eq_false, not_false_eq_true]; done) | (simp [c_dayR, c_dayV, c_old, eq_true c_8]; done) | rfl)⟩
  · skip
    refine lv_aload_n hx hb dX4_passDayIn_11 rfl (lv_at hl 0 rfl) ?_
    refine lv_aload_n hx hb dX4_passDayIn_12 rfl (lv_at hl 1 rfl) ?_
    refine g_get (ci := 1) (C := RX1) (T := TX1) (M := 6) hx hb hts hinX1 hown hK hG i_q0_0 sW_o rfl 1 (by decide) hf203 rfl rfl dX4_passDayIn_13 ?_
    refine lv_iconst (v := 0) hx hb dX4_passDayIn_16 (by decide) ?_
    refine g_iald hx hb hK hG i_q0_2 sW_a (k := 0) rfl (by omega) (by decide) dX4_passDayIn_17 ?_
    refine g_cVi (As := [.int ((s_old (sA v) (sN v)) 0)]) (rest := []) hx hb hml hown hts hK hA hG hS (k_X4_hardnessAt l D cy N L _  _ (by omega) (cE_s (by omega) hE) ((s_old (sA v) (sN v)) 0) ) (cwV 1 hts gX4_passDayIn_X4_hardnessAt rfl rfl rfl (by decide +kernel) ⟨Nat.le_of_ble_eq_true rfl, Nat.le_of_ble_eq_true rfl⟩) i_e0 (by rw [sW_n (by omega)]; exact e0) (ci := 4) rfl rfl rfl rfl hl.1 (Nat.le_of_ble_eq_true rfl) dX4_passDayIn_18 ⟨Nat.zero_le _, Nat.zero_le _⟩ (fun H locs hG hS => ?_)
    refine lv_if_ne (tgt := 26) hx hb dX4_passDayIn_21 (by decide) (fun c_21 => ?_) (fun c_21 => ?_)
    · skip
      refine lv_aload_n hx hb dX4_passDayIn_26 rfl (lv_at hl 1 rfl) ?_
      refine lv_iconst (v := 1) hx hb dX4_passDayIn_27 (by decide) ?_
      refine g_put (ci := 1) (C := RX1) (T := TX1) (M := 6) (ty := .int) hx hb hts hinX1 tyX1 tyX1_ok nmX1 hown hK hG hS i_q0_0 sW_o rfl 4 (by decide) hf141 rfl rfl rfl rfl rfl (Nat.le_of_ble_eq_true rfl) dX4_passDayIn_28 rfl (fun H locs hG hS => ?_)
      have hG : GW D N L (gA N L s.heap.size) (sW cy L F b (sT v, s_old (sA v) (sN v), sN v, sP v, 1, sK v)) H := hG.to sW_uo
      refine lv_aload_n hx hb dX4_passDayIn_31 rfl (lv_at hl 1 rfl) ?_
      refine lv_iconst (v := 0) hx hb dX4_passDayIn_32 (by decide) ?_
      refine g_put (ci := 1) (C := RX1) (T := TX1) (M := 6) (ty := .int) hx hb hts hinX1 tyX1 tyX1_ok nmX1 hown hK hG hS i_q0_0 sW_o rfl 5 (by decide) hf134 rfl rfl rfl rfl rfl (Nat.le_of_ble_eq_true rfl) dX4_passDayIn_33 rfl (fun H locs hG hS => ?_)
      have hG : GW D N L (gA N L s.heap.size) (sW cy L F b (sT v, s_old (sA v) (sN v), sN v, sP v, 1, 0)) H := hG.to sW_uo
      refine lv_iconst (v := 1) hx hb dX4_passDayIn_36 (by decide) ?_
      exact g_iret hx hb hr hlocks hK hG hS rfl dX4_passDayIn_37 ⟨(congrArg (fun z9 => some (Value.int z9)) (by first | (simp only [c_dayR, c_dayV, c_old, c_8, c_21, if_true, if_false, not_true_eq_false, not_false_eq_true]; done) | (simp [c_dayR, c_dayV, c_old, c_8, c_21]; done) | rfl)), (by first | (simp only [c_dayR, c_dayV, c_old, c_8, c_21, if_true, if_false, not_true_eq_false, not_false_eq_true]; done) | (simp [c_dayR, c_dayV, c_old, c_8, c_21]; done) | rfl)⟩
    · skip
      refine lv_iconst (v := 0) hx hb dX4_passDayIn_24 (by decide) ?_
      exact g_iret hx hb hr hlocks hK hG hS rfl dX4_passDayIn_25 ⟨(congrArg (fun z9 => some (Value.int z9)) (by first | (simp only [c_dayR, c_dayV, c_old, c_8, eq_true c_21, if_true, if_false, not_true_eq_false, not_false_eq_true]; done) | (simp [c_dayR, c_dayV, c_old, c_8, eq_true c_21]; done) | rfl)), (by first | (simp only [c_dayR, c_dayV, c_old, c_8, eq_true c_21, if_true, if_false, not_true_eq_false, not_false_eq_true]; done) | (simp [c_dayR, c_dayV, c_old, c_8, eq_true c_21]; done) | rfl)⟩
set_option maxHeartbeats 4000000 in
set_option maxRecDepth 100000 in
theorem k_X4_isMoreUrgent (l : Launch) (D : va_G) (cy : Nat → ClassId) (N : Nat) (L : Nat → Nat) (F : Nat → va_E) (b2 : Nat) (v2 : ST) (b : Nat) (v : ST) (hb : b + 3 ≤ N) (hb2 : b2 + 3 ≤ N) (hd : b2 + 3 ≤ b ∨ b + 3 ≤ b2)   (hn : sN v ≤ 10) (hn2 : sN v2 ≤ 10) : GM l D cy N L yX4_isMoreUrgent wsX4_isMoreUrgent ({ frames := 2, cells := 0, slots := 0, locals := 43 }) [.ref (L b), .ref (L b2)] (sW cy L (sW cy L F b2 v2) b v) (some (.int (c_more v v2))) (sW cy L (sW cy L F b2 v2) b v) := by
  refine GM.ofW (cc := cX4_isMoreUrgent) (maxL := 2) (ret := (some .boolean)) (by decide) rfl (Nat.le_of_ble_eq_true rfl) ?_
  intro p e s m below meth c ls hx hb hr hts hown hlocks hml hK hA hG hS hl
  have hl : lv_has ls 2 [(0, .ref (L b)), (1, .ref (L b2))] := hl
  have i_q0_0 : b2 < N := by omega
  have i_q0_1 : b2 + 1 < N := by omega
  have i_q0_2 : b2 + 2 < N := by omega
  have i_q1_0 : b < N := by omega
  have i_q1_1 : b + 1 < N := by omega
  have i_q1_2 : b + 2 < N := by omega
  have hf203 := hts (.fieldLink RX4 203 "SiloPads$Silo" "ages" "[I") (by decide +kernel)
  have hinX1 : ∀ w ∈ u_ws RX1 TX1 6, w ∈ wsX4_isMoreUrgent := by decide +kernel
  refine lv_aload_n hx hb dX4_isMoreUrgent_0 rfl (lv_at hl 0 rfl) ?_
  refine g_get (ci := 1) (C := RX1) (T := TX1) (M := 6) hx hb hts hinX1 hown hK hG i_q1_0 sW_o rfl 1 (by decide) hf203 rfl rfl dX4_isMoreUrgent_1 ?_
  refine lv_iconst (v := 0) hx hb dX4_isMoreUrgent_4 (by decide) ?_
  refine g_iald hx hb hK hG i_q1_2 sW_a (k := 0) rfl (by omega) (by decide) dX4_isMoreUrgent_5 ?_
  refine lv_aload_n hx hb dX4_isMoreUrgent_6 rfl (lv_at hl 1 rfl) ?_
  refine g_get (ci := 1) (C := RX1) (T := TX1) (M := 6) hx hb hts hinX1 hown hK hG i_q0_0 (by rw [sW_n (by omega)]; exact sW_o) rfl 1 (by decide) hf203 rfl rfl dX4_isMoreUrgent_7 ?_
  refine lv_iconst (v := 0) hx hb dX4_isMoreUrgent_10 (by decide) ?_
  refine g_iald hx hb hK hG i_q0_2 (by rw [sW_n (by omega)]; exact sW_a) (k := 0) rfl (by omega) (by decide) dX4_isMoreUrgent_11 ?_
  refine lv_icmp_eq (tgt := 36) hx hb dX4_isMoreUrgent_12 (by decide) (fun c_12 => ?_) (fun c_12 => ?_)
  · skip
    refine lv_aload_n hx hb dX4_isMoreUrgent_36 rfl (lv_at hl 0 rfl) ?_
    refine g_cVi (As := []) (rest := []) hx hb hml hown hts hK hA hG hS (k_X1_total l D cy N L _ _ _ (by omega)  (hn)) (cwV 0 hts gX4_isMoreUrgent_X1_total rfl rfl rfl (by decide +kernel) ⟨Nat.le_of_ble_eq_true rfl, Nat.le_of_ble_eq_true rfl⟩) i_q1_0 sW_o (ci := 1) rfl rfl rfl rfl hl.1 (Nat.le_of_ble_eq_true rfl) dX4_isMoreUrgent_37 ⟨Nat.zero_le _, Nat.zero_le _⟩ (fun H locs hG hS => ?_)
    refine lv_aload_n hx hb dX4_isMoreUrgent_40 rfl (lv_at hl 1 rfl) ?_
    have hG := hG.to (ss_comm (by omega))
    refine g_cVi (As := []) (rest := [.int (s_total v)]) hx hb hml hown hts hK hA hG hS (k_X1_total l D cy N L _ _ _ (by omega)  (hn2)) (cwV 0 hts gX4_isMoreUrgent_X1_total rfl rfl rfl (by decide +kernel) ⟨Nat.le_of_ble_eq_true rfl, Nat.le_of_ble_eq_true rfl⟩) i_q0_0 sW_o (ci := 1) rfl rfl rfl rfl hl.1 (Nat.le_of_ble_eq_true rfl) dX4_isMoreUrgent_41 ⟨Nat.zero_le _, Nat.zero_le _⟩ (fun H locs hG hS => ?_)
    have hG := hG.to (ss_comm (by omega)).symm
    refine lv_icmp_le (tgt := 51) hx hb dX4_isMoreUrgent_44 (by decide) (fun c_44 => ?_) (fun c_44 => ?_)
    · skip
      refine lv_iconst (v := 0) hx hb dX4_isMoreUrgent_51 (by decide) ?_
      exact g_iret hx hb hr hlocks hK hG hS rfl dX4_isMoreUrgent_52 ⟨(congrArg (fun z9 => some (Value.int z9)) (by first | (simp only [c_more, eq_true c_12, c_44, if_true, if_false, not_true_eq_false, not_false_eq_true]; done) | (simp [c_more, eq_true c_12, c_44]; done) | rfl)), rfl⟩
    · skip
      refine lv_iconst (v := 1) hx hb dX4_isMoreUrgent_47 (by decide) ?_
      refine lv_goto (tgt := 52) hx hb dX4_isMoreUrgent_48 (by decide) ?_
      exact g_iret hx hb hr hlocks hK hG hS rfl dX4_isMoreUrgent_52 ⟨(congrArg (fun z9 => some (Value.int z9)) (by first | (simp only [c_more, eq_true c_12, c_44, if_true, if_false, not_true_eq_false, not_false_eq_true]; done) | (simp [c_more, eq_true c_12, c_44]; done) | rfl)), rfl⟩
  · skip
    refine lv_aload_n hx hb dX4_isMoreUrgent_15 rfl (lv_at hl 0 rfl) ?_
    refine g_get (ci := 1) (C := RX1) (T := TX1) (M := 6) hx hb hts hinX1 hown hK hG i_q1_0 sW_o rfl 1 (by decide) hf203 rfl rfl dX4_isMoreUrgent_16 ?_
    refine lv_iconst (v := 0) hx hb dX4_isMoreUrgent_19 (by decide) ?_
    refine g_iald hx hb hK hG i_q1_2 sW_a (k := 0) rfl (by omega) (by decide) dX4_isMoreUrgent_20 ?_
    refine lv_aload_n hx hb dX4_isMoreUrgent_21 rfl (lv_at hl 1 rfl) ?_
    refine g_get (ci := 1) (C := RX1) (T := TX1) (M := 6) hx hb hts hinX1 hown hK hG i_q0_0 (by rw [sW_n (by omega)]; exact sW_o) rfl 1 (by decide) hf203 rfl rfl dX4_isMoreUrgent_22 ?_
    refine lv_iconst (v := 0) hx hb dX4_isMoreUrgent_25 (by decide) ?_
    refine g_iald hx hb hK hG i_q0_2 (by rw [sW_n (by omega)]; exact sW_a) (k := 0) rfl (by omega) (by decide) dX4_isMoreUrgent_26 ?_
    refine lv_icmp_le (tgt := 34) hx hb dX4_isMoreUrgent_27 (by decide) (fun c_27 => ?_) (fun c_27 => ?_)
    · skip
      refine lv_iconst (v := 0) hx hb dX4_isMoreUrgent_34 (by decide) ?_
      exact g_iret hx hb hr hlocks hK hG hS rfl dX4_isMoreUrgent_35 ⟨(congrArg (fun z9 => some (Value.int z9)) (by first | (simp only [c_more, c_12, c_27, if_true, if_false, not_true_eq_false, not_false_eq_true]; done) | (simp [c_more, c_12, c_27]; done) | rfl)), rfl⟩
    · skip
      refine lv_iconst (v := 1) hx hb dX4_isMoreUrgent_30 (by decide) ?_
      refine lv_goto (tgt := 35) hx hb dX4_isMoreUrgent_31 (by decide) ?_
      exact g_iret hx hb hr hlocks hK hG hS rfl dX4_isMoreUrgent_35 ⟨(congrArg (fun z9 => some (Value.int z9)) (by first | (simp only [c_more, c_12, c_27, if_true, if_false, not_true_eq_false, not_false_eq_true]; done) | (simp [c_more, c_12, c_27]; done) | rfl)), rfl⟩
