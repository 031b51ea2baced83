set_option maxHeartbeats 4000000 in
set_option maxRecDepth 100000 in
theorem k_X5_tellsCount (l : Launch) (D : va_G) (cy : Nat → ClassId) (N : Nat) (L : Nat → Nat) (F : Nat → va_E) (hN : 168 ≤ N) (mt : Int32) (ms ma mv : Nat → Int32) (mn : Int32) (mb : Nat → Int32) (ml mp mw : Int32) (mr : Nat → Int32) (mq : Int32) (mh : Int64) (v : Int32) (hw : wfM ms) (hv : v = 0 ∨ v = 1 ∨ v = 2 ∨ v = 3 ∨ v = 4 ∨ v = 5 ∨ v = 6 ∨ v = 7 ∨ v = 8 ∨ v = 9 ∨ v = 10 ∨ v = 11 ∨ v = 12 ∨ v = 13 ∨ v = 14) : GM l D cy N L yX5_tellsCount wsX5_tellsCount ({ frames := 4, cells := 0, slots := 0, locals := 90 }) [.ref (L 162), .int v] (mW cy L F mt ms ma mv mn mb ml mp mw mr mq mh) (some (.int (g_count ms mn v))) (mW cy L F mt ms ma mv mn mb ml mp mw mr mq mh) := by
  refine GM.ofW (cc := cX5_tellsCount) (maxL := 2) (ret := (some .int)) (by decide) rfl (Nat.le_of_ble_eq_true rfl) ?_
  intro p e s m below meth c ls hx hb hr hts hown hlocks hml hK hA hG hS hl
  have hl : lv_has ls 2 [(0, .ref (L 162)), (1, .int v)] := hl
  have i162 : 162 < N := by omega
  have i163 : 163 < N := by omega
  have i164 : 164 < N := by omega
  have i165 : 165 < N := by omega
  have i166 : 166 < N := by omega
  have i167 : 167 < N := by omega
  have hf7 := hts (.fieldLink RX5 7 "SiloPadsModel" "s" "[I") (by decide +kernel)
  have hinX5 : ∀ w ∈ u_ws RX5 TX5 12, w ∈ wsX5_tellsCount := by decide +kernel
  have hf37 := hts (.fieldLink RX5 37 "SiloPadsModel" "savedMany" "I") (by decide +kernel)
  refine lv_iload_n hx hb dX5_tellsCount_0 rfl (lv_at hl 1 rfl) ?_
  refine lv_toI (y := v) rfl ?_
  by_cases c_1_0 : v = 0
  · skip
    refine lv_tableIn (off := 75) (tgt := 76) hx hb dX5_tellsCount_1 (by rw [c_1_0]; decide) (by rw [c_1_0]; decide) (by rw [c_1_0]; decide) (by decide) ?_
    subst c_1_0
    refine lv_aload_n hx hb dX5_tellsCount_76 rfl (lv_at hl 0 rfl) ?_
    refine g_get (ci := 5) (C := RX5) (T := TX5) (M := 12) hx hb hts hinX5 hown hK hG i162 mW_o rfl 1 (by decide) hf7 rfl rfl dX5_tellsCount_77 ?_
    refine lv_iconst (v := 0) hx hb dX5_tellsCount_80 (by decide) ?_
    refine g_iald hx hb hK hG i163 mW_a163 (k := 0) rfl (by omega) (by decide) dX5_tellsCount_81 ?_
    exact g_iret hx hb hr hlocks hK hG hS rfl dX5_tellsCount_82 ⟨(congrArg (fun z9 => some (Value.int z9)) (by rfl)), rfl⟩
  by_cases c_1_1 : v = 1
  · skip
    refine lv_tableIn (off := 82) (tgt := 83) hx hb dX5_tellsCount_1 (by rw [c_1_1]; decide) (by rw [c_1_1]; decide) (by rw [c_1_1]; decide) (by decide) ?_
    subst c_1_1
    refine lv_aload_n hx hb dX5_tellsCount_83 rfl (lv_at hl 0 rfl) ?_
    refine g_cVi (As := []) (rest := []) hx hb hml hown hts hK hA hG hS (k_X5_inSilos l D cy N L F hN mt ms ma mv mn mb ml mp mw mr mq mh  (hw)) (cwV 0 hts gX5_tellsCount_X5_inSilos rfl rfl rfl (by decide +kernel) ⟨Nat.le_of_ble_eq_true rfl, Nat.le_of_ble_eq_true rfl⟩) i162 mW_o (ci := 5) rfl rfl rfl rfl hl.1 (Nat.le_of_ble_eq_true rfl) dX5_tellsCount_84 ⟨Nat.zero_le _, Nat.zero_le _⟩ (fun H locs hG hS => ?_)
    exact g_iret hx hb hr hlocks hK hG hS rfl dX5_tellsCount_87 ⟨(congrArg (fun z9 => some (Value.int z9)) (by rfl)), rfl⟩
  by_cases c_1_2 : v = 2
  · skip
    refine lv_tableIn (off := 87) (tgt := 88) hx hb dX5_tellsCount_1 (by rw [c_1_2]; decide) (by rw [c_1_2]; decide) (by rw [c_1_2]; decide) (by decide) ?_
    subst c_1_2
    refine lv_aload_n hx hb dX5_tellsCount_88 rfl (lv_at hl 0 rfl) ?_
    refine g_cVi (As := []) (rest := []) hx hb hml hown hts hK hA hG hS (k_X5_inShips l D cy N L F hN mt ms ma mv mn mb ml mp mw mr mq mh  ) (cwV 0 hts gX5_tellsCount_X5_inShips rfl rfl rfl (by decide +kernel) ⟨Nat.le_of_ble_eq_true rfl, Nat.le_of_ble_eq_true rfl⟩) i162 mW_o (ci := 5) rfl rfl rfl rfl hl.1 (Nat.le_of_ble_eq_true rfl) dX5_tellsCount_89 ⟨Nat.zero_le _, Nat.zero_le _⟩ (fun H locs hG hS => ?_)
    exact g_iret hx hb hr hlocks hK hG hS rfl dX5_tellsCount_92 ⟨(congrArg (fun z9 => some (Value.int z9)) (by rfl)), rfl⟩
  by_cases c_1_3 : v = 3
  · skip
    refine lv_tableIn (off := 92) (tgt := 93) hx hb dX5_tellsCount_1 (by rw [c_1_3]; decide) (by rw [c_1_3]; decide) (by rw [c_1_3]; decide) (by decide) ?_
    subst c_1_3
    refine lv_aload_n hx hb dX5_tellsCount_93 rfl (lv_at hl 0 rfl) ?_
    refine g_get (ci := 5) (C := RX5) (T := TX5) (M := 12) hx hb hts hinX5 hown hK hG i162 mW_o rfl 1 (by decide) hf7 rfl rfl dX5_tellsCount_94 ?_
    refine lv_iconst (v := 1) hx hb dX5_tellsCount_97 (by decide) ?_
    refine lv_iload_n hx hb dX5_tellsCount_98 rfl (lv_at hl 1 rfl) ?_
    refine lv_iadd hx hb dX5_tellsCount_99 ?_
    refine lv_toI (y := 4) (by decide) ?_
    refine lv_iconst (v := 3) hx hb dX5_tellsCount_100 (by decide) ?_
    refine lv_isub hx hb dX5_tellsCount_101 ?_
    refine lv_toI (y := 1) (by decide) ?_
    refine g_iald hx hb hK hG i163 mW_a163 (k := 1) rfl (by omega) (by decide) dX5_tellsCount_102 ?_
    exact g_iret hx hb hr hlocks hK hG hS rfl dX5_tellsCount_103 ⟨(congrArg (fun z9 => some (Value.int z9)) (by rfl)), rfl⟩
  by_cases c_1_4 : v = 4
  · skip
    refine lv_tableIn (off := 92) (tgt := 93) hx hb dX5_tellsCount_1 (by rw [c_1_4]; decide) (by rw [c_1_4]; decide) (by rw [c_1_4]; decide) (by decide) ?_
    subst c_1_4
    refine lv_aload_n hx hb dX5_tellsCount_93 rfl (lv_at hl 0 rfl) ?_
    refine g_get (ci := 5) (C := RX5) (T := TX5) (M := 12) hx hb hts hinX5 hown hK hG i162 mW_o rfl 1 (by decide) hf7 rfl rfl dX5_tellsCount_94 ?_
    refine lv_iconst (v := 1) hx hb dX5_tellsCount_97 (by decide) ?_
    refine lv_iload_n hx hb dX5_tellsCount_98 rfl (lv_at hl 1 rfl) ?_
    refine lv_iadd hx hb dX5_tellsCount_99 ?_
    refine lv_toI (y := 5) (by decide) ?_
    refine lv_iconst (v := 3) hx hb dX5_tellsCount_100 (by decide) ?_
    refine lv_isub hx hb dX5_tellsCount_101 ?_
    refine lv_toI (y := 2) (by decide) ?_
    refine g_iald hx hb hK hG i163 mW_a163 (k := 2) rfl (by omega) (by decide) dX5_tellsCount_102 ?_
    exact g_iret hx hb hr hlocks hK hG hS rfl dX5_tellsCount_103 ⟨(congrArg (fun z9 => some (Value.int z9)) (by rfl)), rfl⟩
  by_cases c_1_5 : v = 5
  · skip
    refine lv_tableIn (off := 92) (tgt := 93) hx hb dX5_tellsCount_1 (by rw [c_1_5]; decide) (by rw [c_1_5]; decide) (by rw [c_1_5]; decide) (by decide) ?_
    subst c_1_5
    refine lv_aload_n hx hb dX5_tellsCount_93 rfl (lv_at hl 0 rfl) ?_
    refine g_get (ci := 5) (C := RX5) (T := TX5) (M := 12) hx hb hts hinX5 hown hK hG i162 mW_o rfl 1 (by decide) hf7 rfl rfl dX5_tellsCount_94 ?_
    refine lv_iconst (v := 1) hx hb dX5_tellsCount_97 (by decide) ?_
    refine lv_iload_n hx hb dX5_tellsCount_98 rfl (lv_at hl 1 rfl) ?_
    refine lv_iadd hx hb dX5_tellsCount_99 ?_
    refine lv_toI (y := 6) (by decide) ?_
    refine lv_iconst (v := 3) hx hb dX5_tellsCount_100 (by decide) ?_
    refine lv_isub hx hb dX5_tellsCount_101 ?_
    refine lv_toI (y := 3) (by decide) ?_
    refine g_iald hx hb hK hG i163 mW_a163 (k := 3) rfl (by omega) (by decide) dX5_tellsCount_102 ?_
    exact g_iret hx hb hr hlocks hK hG hS rfl dX5_tellsCount_103 ⟨(congrArg (fun z9 => some (Value.int z9)) (by rfl)), rfl⟩
  by_cases c_1_6 : v = 6
  · skip
    refine lv_tableIn (off := 103) (tgt := 104) hx hb dX5_tellsCount_1 (by rw [c_1_6]; decide) (by rw [c_1_6]; decide) (by rw [c_1_6]; decide) (by decide) ?_
    subst c_1_6
    refine lv_aload_n hx hb dX5_tellsCount_104 rfl (lv_at hl 0 rfl) ?_
    refine g_cVi (As := []) (rest := []) hx hb hml hown hts hK hA hG hS (k_X5_padsOn l D cy N L F hN mt ms ma mv mn mb ml mp mw mr mq mh  ) (cwV 0 hts gX5_tellsCount_X5_padsOn rfl rfl rfl (by decide +kernel) ⟨Nat.le_of_ble_eq_true rfl, Nat.le_of_ble_eq_true rfl⟩) i162 mW_o (ci := 5) rfl rfl rfl rfl hl.1 (Nat.le_of_ble_eq_true rfl) dX5_tellsCount_105 ⟨Nat.zero_le _, Nat.zero_le _⟩ (fun H locs hG hS => ?_)
    exact g_iret hx hb hr hlocks hK hG hS rfl dX5_tellsCount_108 ⟨(congrArg (fun z9 => some (Value.int z9)) (by rfl)), rfl⟩
  by_cases c_1_7 : v = 7
  · skip
    refine lv_tableIn (off := 108) (tgt := 109) hx hb dX5_tellsCount_1 (by rw [c_1_7]; decide) (by rw [c_1_7]; decide) (by rw [c_1_7]; decide) (by decide) ?_
    subst c_1_7
    refine lv_aload_n hx hb dX5_tellsCount_109 rfl (lv_at hl 0 rfl) ?_
    refine g_cVi (As := []) (rest := []) hx hb hml hown hts hK hA hG hS (k_X5_arches l D cy N L F hN mt ms ma mv mn mb ml mp mw mr mq mh  ) (cwV 0 hts gX5_tellsCount_X5_arches rfl rfl rfl (by decide +kernel) ⟨Nat.le_of_ble_eq_true rfl, Nat.le_of_ble_eq_true rfl⟩) i162 mW_o (ci := 5) rfl rfl rfl rfl hl.1 (Nat.le_of_ble_eq_true rfl) dX5_tellsCount_110 ⟨Nat.zero_le _, Nat.zero_le _⟩ (fun H locs hG hS => ?_)
    exact g_iret hx hb hr hlocks hK hG hS rfl dX5_tellsCount_113 ⟨(congrArg (fun z9 => some (Value.int z9)) (by rfl)), rfl⟩
  by_cases c_1_8 : v = 8
  · skip
    refine lv_tableIn (off := 118) (tgt := 119) hx hb dX5_tellsCount_1 (by rw [c_1_8]; decide) (by rw [c_1_8]; decide) (by rw [c_1_8]; decide) (by decide) ?_
    subst c_1_8
    refine lv_aload_n hx hb dX5_tellsCount_119 rfl (lv_at hl 0 rfl) ?_
    refine g_get (ci := 5) (C := RX5) (T := TX5) (M := 12) hx hb hts hinX5 hown hK hG i162 mW_o rfl 1 (by decide) hf7 rfl rfl dX5_tellsCount_120 ?_
    refine lv_iconst (v := 4) hx hb dX5_tellsCount_123 (by decide) ?_
    refine lv_iload_n hx hb dX5_tellsCount_124 rfl (lv_at hl 1 rfl) ?_
    refine lv_iadd hx hb dX5_tellsCount_125 ?_
    refine lv_toI (y := 12) (by decide) ?_
    refine lv_bipush (v := 8) hx hb dX5_tellsCount_126 (by decide) ?_
    refine lv_isub hx hb dX5_tellsCount_128 ?_
    refine lv_toI (y := 4) (by decide) ?_
    refine g_iald hx hb hK hG i163 mW_a163 (k := 4) rfl (by omega) (by decide) dX5_tellsCount_129 ?_
    exact g_iret hx hb hr hlocks hK hG hS rfl dX5_tellsCount_130 ⟨(congrArg (fun z9 => some (Value.int z9)) (by rfl)), rfl⟩
  by_cases c_1_9 : v = 9
  · skip
    refine lv_tableIn (off := 118) (tgt := 119) hx hb dX5_tellsCount_1 (by rw [c_1_9]; decide) (by rw [c_1_9]; decide) (by rw [c_1_9]; decide) (by decide) ?_
    subst c_1_9
    refine lv_aload_n hx hb dX5_tellsCount_119 rfl (lv_at hl 0 rfl) ?_
    refine g_get (ci := 5) (C := RX5) (T := TX5) (M := 12) hx hb hts hinX5 hown hK hG i162 mW_o rfl 1 (by decide) hf7 rfl rfl dX5_tellsCount_120 ?_
    refine lv_iconst (v := 4) hx hb dX5_tellsCount_123 (by decide) ?_
    refine lv_iload_n hx hb dX5_tellsCount_124 rfl (lv_at hl 1 rfl) ?_
    refine lv_iadd hx hb dX5_tellsCount_125 ?_
    refine lv_toI (y := 13) (by decide) ?_
    refine lv_bipush (v := 8) hx hb dX5_tellsCount_126 (by decide) ?_
    refine lv_isub hx hb dX5_tellsCount_128 ?_
    refine lv_toI (y := 5) (by decide) ?_
    refine g_iald hx hb hK hG i163 mW_a163 (k := 5) rfl (by omega) (by decide) dX5_tellsCount_129 ?_
    exact g_iret hx hb hr hlocks hK hG hS rfl dX5_tellsCount_130 ⟨(congrArg (fun z9 => some (Value.int z9)) (by rfl)), rfl⟩
  by_cases c_1_10 : v = 10
  · skip
    refine lv_tableIn (off := 118) (tgt := 119) hx hb dX5_tellsCount_1 (by rw [c_1_10]; decide) (by rw [c_1_10]; decide) (by rw [c_1_10]; decide) (by decide) ?_
    subst c_1_10
    refine lv_aload_n hx hb dX5_tellsCount_119 rfl (lv_at hl 0 rfl) ?_
    refine g_get (ci := 5) (C := RX5) (T := TX5) (M := 12) hx hb hts hinX5 hown hK hG i162 mW_o rfl 1 (by decide) hf7 rfl rfl dX5_tellsCount_120 ?_
    refine lv_iconst (v := 4) hx hb dX5_tellsCount_123 (by decide) ?_
    refine lv_iload_n hx hb dX5_tellsCount_124 rfl (lv_at hl 1 rfl) ?_
    refine lv_iadd hx hb dX5_tellsCount_125 ?_
    refine lv_toI (y := 14) (by decide) ?_
    refine lv_bipush (v := 8) hx hb dX5_tellsCount_126 (by decide) ?_
    refine lv_isub hx hb dX5_tellsCount_128 ?_
    refine lv_toI (y := 6) (by decide) ?_
    refine g_iald hx hb hK hG i163 mW_a163 (k := 6) rfl (by omega) (by decide) dX5_tellsCount_129 ?_
    exact g_iret hx hb hr hlocks hK hG hS rfl dX5_tellsCount_130 ⟨(congrArg (fun z9 => some (Value.int z9)) (by rfl)), rfl⟩
  by_cases c_1_11 : v = 11
  · skip
    refine lv_tableIn (off := 118) (tgt := 119) hx hb dX5_tellsCount_1 (by rw [c_1_11]; decide) (by rw [c_1_11]; decide) (by rw [c_1_11]; decide) (by decide) ?_
    subst c_1_11
    refine lv_aload_n hx hb dX5_tellsCount_119 rfl (lv_at hl 0 rfl) ?_
    refine g_get (ci := 5) (C := RX5) (T := TX5) (M := 12) hx hb hts hinX5 hown hK hG i162 mW_o rfl 1 (by decide) hf7 rfl rfl dX5_tellsCount_120 ?_
    refine lv_iconst (v := 4) hx hb dX5_tellsCount_123 (by decide) ?_
    refine lv_iload_n hx hb dX5_tellsCount_124 rfl (lv_at hl 1 rfl) ?_
    refine lv_iadd hx hb dX5_tellsCount_125 ?_
    refine lv_toI (y := 15) (by decide) ?_
    refine lv_bipush (v := 8) hx hb dX5_tellsCount_126 (by decide) ?_
    refine lv_isub hx hb dX5_tellsCount_128 ?_
    refine lv_toI (y := 7) (by decide) ?_
    refine g_iald hx hb hK hG i163 mW_a163 (k := 7) rfl (by omega) (by decide) dX5_tellsCount_129 ?_
    exact g_iret hx hb hr hlocks hK hG hS rfl dX5_tellsCount_130 ⟨(congrArg (fun z9 => some (Value.int z9)) (by rfl)), rfl⟩
  by_cases c_1_12 : v = 12
  · skip
    refine lv_tableIn (off := 118) (tgt := 119) hx hb dX5_tellsCount_1 (by rw [c_1_12]; decide) (by rw [c_1_12]; decide) (by rw [c_1_12]; decide) (by decide) ?_
    subst c_1_12
    refine lv_aload_n hx hb dX5_tellsCount_119 rfl (lv_at hl 0 rfl) ?_
    refine g_get (ci := 5) (C := RX5) (T := TX5) (M := 12) hx hb hts hinX5 hown hK hG i162 mW_o rfl 1 (by decide) hf7 rfl rfl dX5_tellsCount_120 ?_
    refine lv_iconst (v := 4) hx hb dX5_tellsCount_123 (by decide) ?_
    refine lv_iload_n hx hb dX5_tellsCount_124 rfl (lv_at hl 1 rfl) ?_
    refine lv_iadd hx hb dX5_tellsCount_125 ?_
    refine lv_toI (y := 16) (by decide) ?_
    refine lv_bipush (v := 8) hx hb dX5_tellsCount_126 (by decide) ?_
    refine lv_isub hx hb dX5_tellsCount_128 ?_
    refine lv_toI (y := 8) (by decide) ?_
    refine g_iald hx hb hK hG i163 mW_a163 (k := 8) rfl (by omega) (by decide) dX5_tellsCount_129 ?_
    exact g_iret hx hb hr hlocks hK hG hS rfl dX5_tellsCount_130 ⟨(congrArg (fun z9 => some (Value.int z9)) (by rfl)), rfl⟩
  by_cases c_1_13 : v = 13
  · skip
    refine lv_tableIn (off := 118) (tgt := 119) hx hb dX5_tellsCount_1 (by rw [c_1_13]; decide) (by rw [c_1_13]; decide) (by rw [c_1_13]; decide) (by decide) ?_
    subst c_1_13
    refine lv_aload_n hx hb dX5_tellsCount_119 rfl (lv_at hl 0 rfl) ?_
    refine g_get (ci := 5) (C := RX5) (T := TX5) (M := 12) hx hb hts hinX5 hown hK hG i162 mW_o rfl 1 (by decide) hf7 rfl rfl dX5_tellsCount_120 ?_
    refine lv_iconst (v := 4) hx hb dX5_tellsCount_123 (by decide) ?_
    refine lv_iload_n hx hb dX5_tellsCount_124 rfl (lv_at hl 1 rfl) ?_
    refine lv_iadd hx hb dX5_tellsCount_125 ?_
    refine lv_toI (y := 17) (by decide) ?_
    refine lv_bipush (v := 8) hx hb dX5_tellsCount_126 (by decide) ?_
    refine lv_isub hx hb dX5_tellsCount_128 ?_
    refine lv_toI (y := 9) (by decide) ?_
    refine g_iald hx hb hK hG i163 mW_a163 (k := 9) rfl (by omega) (by decide) dX5_tellsCount_129 ?_
    exact g_iret hx hb hr hlocks hK hG hS rfl dX5_tellsCount_130 ⟨(congrArg (fun z9 => some (Value.int z9)) (by rfl)), rfl⟩
  by_cases c_1_14 : v = 14
  · skip
    refine lv_tableIn (off := 113) (tgt := 114) hx hb dX5_tellsCount_1 (by rw [c_1_14]; decide) (by rw [c_1_14]; decide) (by rw [c_1_14]; decide) (by decide) ?_
    subst c_1_14
    refine lv_aload_n hx hb dX5_tellsCount_114 rfl (lv_at hl 0 rfl) ?_
    refine g_get (ci := 5) (C := RX5) (T := TX5) (M := 12) hx hb hts hinX5 hown hK hG i162 mW_o rfl 4 (by decide) hf37 rfl rfl dX5_tellsCount_115 ?_
    exact g_iret hx hb hr hlocks hK hG hS rfl dX5_tellsCount_118 ⟨(congrArg (fun z9 => some (Value.int z9)) (by rfl)), rfl⟩
  rcases hv with h9 | h9 | h9 | h9 | h9 | h9 | h9 | h9 | h9 | h9 | h9 | h9 | h9 | h9 | h9 <;> first | exact absurd h9 c_1_0 | exact absurd h9 c_1_1 | exact absurd h9 c_1_2 | exact absurd h9 c_1_3 | exact absurd h9 c_1_4 | exact absurd h9 c_1_5 | exact absurd h9 c_1_6 | exact absurd h9 c_1_7 | exact absurd h9 c_1_8 | exact absurd h9 c_1_9 | exact absurd h9 c_1_10 | exact absurd h9 c_1_11 | exact absurd h9 c_1_12 | exact absurd h9 c_1_13 | exact absurd h9 c_1_14
set_option maxHeartbeats 4000000 in
set_option maxRecDepth 100000 in
theorem k_X5_mostUrgent (l : Launch) (D : va_G) (cy : Nat → ClassId) (N : Nat) (L : Nat → Nat) (F : Nat → va_E) (hN : 168 ≤ N) (mt : Int32) (ms ma mv : Nat → Int32) (mn : Int32) (mb : Nat → Int32) (ml mp mw : Int32) (mr : Nat → Int32) (mq : Int32) (mh : Int64)  (hw : wfM ms) : GM l D cy N L yX5_mostUrgent wsX5_mostUrgent ({ frames := 4, cells := 0, slots := 0, locals := 91 }) [.ref (L 162)] (mW cy L F mt ms ma mv mn mb ml mp mw mr mq mh) (some (.int (g_bestI (g_best ms 4)))) (mW cy L F mt ms ma mv mn mb ml mp mw mr mq mh) := by
  refine GM.ofW (cc := cX5_mostUrgent) (maxL := 4) (ret := (some .int)) (by decide) rfl (Nat.le_of_ble_eq_true rfl) ?_
  intro p e s m below meth c ls hx hb hr hts hown hlocks hml hK hA hG hS hl
  have hl : lv_has ls 4 [(0, .ref (L 162))] := hl
  have i162 : 162 < N := by omega
  have i163 : 163 < N := by omega
  have i164 : 164 < N := by omega
  have i165 : 165 < N := by omega
  have i166 : 166 < N := by omega
  have i167 : 167 < N := by omega
  refine lv_iconst (v := -1) hx hb dX5_mostUrgent_0 (by decide) ?_
  refine lv_istore_n (lv' := [(1, .int (-1)), (0, .ref (L 162))]) hx hb dX5_mostUrgent_1 rfl hl (by decide) rfl (fun ls hl => ?_)
  refine lv_iconst (v := 0) hx hb dX5_mostUrgent_2 (by decide) ?_
  refine lv_istore_n (lv' := [(2, .int 0), (1, .int (-1)), (0, .ref (L 162))]) hx hb dX5_mostUrgent_3 rfl hl (by decide) rfl (fun ls hl => ?_)
  refine W.loop (σ := Nat) (fun k H locs ls => (k ≤ 4) ∧ GW D N L (gA N L s.heap.size) (mW cy L F mt ms ma mv mn mb ml mp mw mr mq mh) H ∧ va_S (gA N L s.heap.size) s.heap H locs ∧ lv_has ls 4 [(1, .int (g_bestI (g_best ms k))), (2, .int (nI k)), (0, .ref (L 162))]) (fun k => 4 - k) 0 ⟨by omega, hG.to (rfl), hS, lv_to (lv_sub hl [1, 0, 2] rfl) (rfl)⟩ ?_
  intro k H locs ls hP9 ih4
  obtain ⟨hk9, hG, hS, hl⟩ := hP9
  refine lv_iload_n hx hb dX5_mostUrgent_4 rfl (lv_at hl 1 rfl) ?_
  refine lv_iconst (v := 4) hx hb dX5_mostUrgent_5 (by decide) ?_
  refine lv_icmp_ge (tgt := 54) hx hb dX5_mostUrgent_6 (by decide) (fun c_6 => ?_) (fun c_6 => ?_)
  · skip
    have c_6 : 4 ≤ k := (nI_leI (a := 4) (b := k) (by omega) (by omega)).mp c_6
    refine lv_iload_n hx hb dX5_mostUrgent_54 rfl (lv_at hl 0 rfl) ?_
    exact g_iret hx hb hr hlocks hK hG hS rfl dX5_mostUrgent_55 ⟨(congrArg (fun z9 => some (Value.int z9)) (by rw [show k = 4 by omega])), rfl⟩
  · skip
    have c_6 : ¬ 4 ≤ k := fun h9 => c_6 ((nI_leI (a := 4) (b := k) (by omega) (by omega)).mpr h9)
    refine lv_aload_n hx hb dX5_mostUrgent_9 rfl (lv_at hl 2 rfl) ?_
    refine lv_iload_n hx hb dX5_mostUrgent_10 rfl (lv_at hl 1 rfl) ?_
    refine lv_iconst (v := 3) hx hb dX5_mostUrgent_11 (by decide) ?_
    refine g_cVi (As := [.int (nI k), .int 3]) (rest := []) hx hb hml hown hts hK hA hG hS (k_X5_of l D cy N L F hN mt ms ma mv mn mb ml mp mw mr mq mh k 3 (by omega)) (cwV 2 hts gX5_mostUrgent_X5_of rfl rfl rfl (by decide +kernel) ⟨Nat.le_of_ble_eq_true rfl, Nat.le_of_ble_eq_true rfl⟩) i162 mW_o (ci := 5) rfl rfl rfl rfl hl.1 (Nat.le_of_ble_eq_true rfl) dX5_mostUrgent_12 ⟨Nat.zero_le _, Nat.zero_le _⟩ (fun H locs hG hS => ?_)
    refine lv_if_le (tgt := 36) hx hb dX5_mostUrgent_15 (by decide) (fun c_15 => ?_) (fun c_15 => ?_)
    · skip
      refine lv_iconst (v := 0) hx hb dX5_mostUrgent_36 (by decide) ?_
      refine lv_istore_n (lv' := [(3, .int 0), (1, .int (g_bestI (g_best ms k))), (2, .int (nI k)), (0, .ref (L 162))]) hx hb dX5_mostUrgent_37 rfl hl (by decide) rfl (fun ls hl => ?_)
      refine lv_iload_n hx hb dX5_mostUrgent_38 rfl (lv_at hl 0 rfl) ?_
      refine lv_if_eq (tgt := 46) hx hb dX5_mostUrgent_39 (by decide) (fun c_39 => ?_) (fun c_39 => ?_)
      · skip
        refine lv_iload_n hx hb dX5_mostUrgent_46 rfl (lv_at hl 1 rfl) ?_
        refine lv_istore_n (lv' := [(1, .int (g_bestI (g_best ms k))), (3, .int 0), (2, .int (nI k)), (0, .ref (L 162))]) hx hb dX5_mostUrgent_47 rfl hl (by decide) rfl (fun ls hl => ?_)
        refine lv_iinc (v := nI (k + 1)) (lv' := [(2, .int (nI (k + 1))), (1, .int (g_bestI (g_best ms k))), (3, .int 0), (0, .ref (L 162))]) hx hb dX5_mostUrgent_48 hl (k := 2) rfl (nI_add k 1) (by decide) rfl (fun ls hl => ?_)
        refine lv_goto (tgt := 4) hx hb dX5_mostUrgent_51 (by decide) ?_
        have hl : lv_has ls 4 [(1, .int (g_bestI (g_best ms k))), (2, .int (nI (k + 1))), (0, .ref (L 162))] := lv_sub hl [1, 0, 3] rfl
        exact ih4 (k + 1) _ _ _ (by omega) ⟨by omega, hG.to (rfl), hS, lv_to hl (by first | (simp only [g_best, hb8, c_6, c_15, if_true, if_false, g_bestI_of9 (show k < 4 by omega)]; done) | (simp only [g_best, c_6, c_15, if_true, if_false]; done))⟩
      · skip
        exact absurd c_39 (by decide)
    · skip
      refine lv_iload_n hx hb dX5_mostUrgent_18 rfl (lv_at hl 0 rfl) ?_
      refine lv_iconst (v := -1) hx hb dX5_mostUrgent_19 (by decide) ?_
      refine lv_icmp_eq (tgt := 32) hx hb dX5_mostUrgent_20 (by decide) (fun c_20 => ?_) (fun c_20 => ?_)
      · skip
        have hb8 : g_best ms k = 4 := g_bestI_49 (g_best_lt (s := ms) k) (by omega) c_20
        refine lv_iconst (v := 1) hx hb dX5_mostUrgent_32 (by decide) ?_
        refine lv_goto (tgt := 37) hx hb dX5_mostUrgent_33 (by decide) ?_
        refine lv_istore_n (lv' := [(3, .int 1), (1, .int (g_bestI (g_best ms k))), (2, .int (nI k)), (0, .ref (L 162))]) hx hb dX5_mostUrgent_37 rfl hl (by decide) rfl (fun ls hl => ?_)
        refine lv_iload_n hx hb dX5_mostUrgent_38 rfl (lv_at hl 0 rfl) ?_
        refine lv_if_eq (tgt := 46) hx hb dX5_mostUrgent_39 (by decide) (fun c_39 => ?_) (fun c_39 => ?_)
        · skip
          exact absurd c_39 (by decide)
        · skip
          refine lv_iload_n hx hb dX5_mostUrgent_42 rfl (lv_at hl 2 rfl) ?_
          refine lv_goto (tgt := 47) hx hb dX5_mostUrgent_43 (by decide) ?_
          refine lv_istore_n (lv' := [(1, .int (nI k)), (3, .int 1), (2, .int (nI k)), (0, .ref (L 162))]) hx hb dX5_mostUrgent_47 rfl hl (by decide) rfl (fun ls hl => ?_)
          refine lv_iinc (v := nI (k + 1)) (lv' := [(2, .int (nI (k + 1))), (1, .int (nI k)), (3, .int 1), (0, .ref (L 162))]) hx hb dX5_mostUrgent_48 hl (k := 2) rfl (nI_add k 1) (by decide) rfl (fun ls hl => ?_)
          refine lv_goto (tgt := 4) hx hb dX5_mostUrgent_51 (by decide) ?_
          have hl : lv_has ls 4 [(1, .int (nI k)), (2, .int (nI (k + 1))), (0, .ref (L 162))] := lv_sub hl [1, 0, 3] rfl
          exact ih4 (k + 1) _ _ _ (by omega) ⟨by omega, hG.to (rfl), hS, lv_to hl (by first | (simp only [g_best, hb8, c_6, c_15, eq_true c_20, if_true, if_false, g_bestI_of9 (show k < 4 by omega)]; done) | (simp only [g_best, c_6, c_15, eq_true c_20, if_true, if_false]; done))⟩
      · skip
        have hb8 : ¬ g_best ms k = 4 := fun h9 => c_20 (by rw [h9]; rfl)
        have hb7 := g_best_lt (s := ms) k
        refine lv_aload_n hx hb dX5_mostUrgent_23 rfl (lv_at hl 2 rfl) ?_
        refine lv_iload_n hx hb dX5_mostUrgent_24 rfl (lv_at hl 1 rfl) ?_
        refine lv_iload_n hx hb dX5_mostUrgent_25 rfl (lv_at hl 0 rfl) ?_
        refine lv_toN (k := g_best ms k) (g_bestI_of9 (by omega)) ?_
        refine g_cVi (As := [.int (nI k), .int (nI (g_best ms k))]) (rest := []) hx hb hml hown hts hK hA hG hS (k_X5_isMoreUrgent l D cy N L F hN mt ms ma mv mn mb ml mp mw mr mq mh k (g_best ms k) (hw) (by omega) (by omega)) (cwV 2 hts gX5_mostUrgent_X5_isMoreUrgent rfl rfl rfl (by decide +kernel) ⟨Nat.le_of_ble_eq_true rfl, Nat.le_of_ble_eq_true rfl⟩) i162 mW_o (ci := 5) rfl rfl rfl rfl hl.1 (Nat.le_of_ble_eq_true rfl) dX5_mostUrgent_26 ⟨Nat.zero_le _, Nat.zero_le _⟩ (fun H locs hG hS => ?_)
        refine lv_if_eq (tgt := 36) hx hb dX5_mostUrgent_29 (by decide) (fun c_29 => ?_) (fun c_29 => ?_)
        · skip
          refine lv_iconst (v := 0) hx hb dX5_mostUrgent_36 (by decide) ?_
          refine lv_istore_n (lv' := [(3, .int 0), (1, .int (g_bestI (g_best ms k))), (2, .int (nI k)), (0, .ref (L 162))]) hx hb dX5_mostUrgent_37 rfl hl (by decide) rfl (fun ls hl => ?_)
          refine lv_iload_n hx hb dX5_mostUrgent_38 rfl (lv_at hl 0 rfl) ?_
          refine lv_if_eq (tgt := 46) hx hb dX5_mostUrgent_39 (by decide) (fun c_39 => ?_) (fun c_39 => ?_)
          · skip
            refine lv_iload_n hx hb dX5_mostUrgent_46 rfl (lv_at hl 1 rfl) ?_
            refine lv_istore_n (lv' := [(1, .int (g_bestI (g_best ms k))), (3, .int 0), (2, .int (nI k)), (0, .ref (L 162))]) hx hb dX5_mostUrgent_47 rfl hl (by decide) rfl (fun ls hl => ?_)
            refine lv_iinc (v := nI (k + 1)) (lv' := [(2, .int (nI (k + 1))), (1, .int (g_bestI (g_best ms k))), (3, .int 0), (0, .ref (L 162))]) hx hb dX5_mostUrgent_48 hl (k := 2) rfl (nI_add k 1) (by decide) rfl (fun ls hl => ?_)
            refine lv_goto (tgt := 4) hx hb dX5_mostUrgent_51 (by decide) ?_
            have hl : lv_has ls 4 [(1, .int (g_bestI (g_best ms k))), (2, .int (nI (k + 1))), (0, .ref (L 162))] := lv_sub hl [1, 0, 3] rfl
            exact ih4 (k + 1) _ _ _ (by omega) ⟨by omega, hG.to (rfl), hS, lv_to hl (by first | (simp only [g_best, hb8, c_6, c_15, c_20, eq_true c_29, if_true, if_false, g_bestI_of9 (show k < 4 by omega)]; done) | (simp only [g_best, c_6, c_15, c_20, eq_true c_29, if_true, if_false]; done))⟩
          · skip
            exact absurd c_39 (by decide)
        · skip
          refine lv_iconst (v := 1) hx hb dX5_mostUrgent_32 (by decide) ?_
          refine lv_goto (tgt := 37) hx hb dX5_mostUrgent_33 (by decide) ?_
          refine lv_istore_n (lv' := [(3, .int 1), (1, .int (g_bestI (g_best ms k))), (2, .int (nI k)), (0, .ref (L 162))]) hx hb dX5_mostUrgent_37 rfl hl (by decide) rfl (fun ls hl => ?_)
          refine lv_iload_n hx hb dX5_mostUrgent_38 rfl (lv_at hl 0 rfl) ?_
          refine lv_if_eq (tgt := 46) hx hb dX5_mostUrgent_39 (by decide) (fun c_39 => ?_) (fun c_39 => ?_)
          · skip
            exact absurd c_39 (by decide)
          · skip
            refine lv_iload_n hx hb dX5_mostUrgent_42 rfl (lv_at hl 2 rfl) ?_
            refine lv_goto (tgt := 47) hx hb dX5_mostUrgent_43 (by decide) ?_
            refine lv_istore_n (lv' := [(1, .int (nI k)), (3, .int 1), (2, .int (nI k)), (0, .ref (L 162))]) hx hb dX5_mostUrgent_47 rfl hl (by decide) rfl (fun ls hl => ?_)
            refine lv_iinc (v := nI (k + 1)) (lv' := [(2, .int (nI (k + 1))), (1, .int (nI k)), (3, .int 1), (0, .ref (L 162))]) hx hb dX5_mostUrgent_48 hl (k := 2) rfl (nI_add k 1) (by decide) rfl (fun ls hl => ?_)
            refine lv_goto (tgt := 4) hx hb dX5_mostUrgent_51 (by decide) ?_
            have hl : lv_has ls 4 [(1, .int (nI k)), (2, .int (nI (k + 1))), (0, .ref (L 162))] := lv_sub hl [1, 0, 3] rfl
            exact ih4 (k + 1) _ _ _ (by omega) ⟨by omega, hG.to (rfl), hS, lv_to hl (by first | (simp only [g_best, hb8, c_6, c_15, c_20, c_29, if_true, if_false, g_bestI_of9 (show k < 4 by omega)]; done) | (simp only [g_best, c_6, c_15, c_20, c_29, if_true, if_false]; done))⟩
set_option maxHeartbeats 4000000 in
set_option maxRecDepth 100000 in
theorem k_X5_archAhead (l : Launch) (D : va_G) (cy : Nat → ClassId) (N : Nat) (L : Nat → Nat) (F : Nat → va_E) (hN : 168 ≤ N) (mt : Int32) (ms ma mv : Nat → Int32) (mn : Int32) (mb : Nat → Int32) (ml mp mw : Int32) (mr : Nat → Int32) (mq : Int32) (mh : Int64)  (hw : wfM ms) : GM l D cy N L yX5_archAhead wsX5_archAhead ({ frames := 5, cells := 0, slots := 0, locals := 111 }) [.ref (L 162)] (mW cy L F mt ms ma mv mn mb ml mp mw mr mq mh) (some (.int (g_ah ms (g_stop ms 60 0)))) (mW cy L F mt ms (cpN ma ms (0) (0) 118) mv mn mb ml mp mw mr mq mh) := by
  refine GM.ofW (cc := cX5_archAhead) (maxL := 3) (ret := (some .int)) (by decide) rfl (Nat.le_of_ble_eq_true rfl) ?_
  intro p e s m below meth c ls hx hb hr hts hown hlocks hml hK hA hG hS hl
  have hl : lv_has ls 3 [(0, .ref (L 162))] := hl
  have i162 : 162 < N := by omega
  have i163 : 163 < N := by omega
  have i164 : 164 < N := by omega
  have i165 : 165 < N := by omega
  have i166 : 166 < N := by omega
  have i167 : 167 < N := by omega
  refine lv_aload_n hx hb dX5_archAhead_0 rfl (lv_at hl 0 rfl) ?_
  refine g_cVv (As := []) (rest := []) hx hb hml hown hts hK hA hG hS (k_X5_putAside l D cy N L F hN mt ms ma mv mn mb ml mp mw mr mq mh  ) (cwV 0 hts gX5_archAhead_X5_putAside rfl rfl rfl (by decide +kernel) ⟨Nat.le_of_ble_eq_true rfl, Nat.le_of_ble_eq_true rfl⟩) i162 mW_o (ci := 5) rfl rfl rfl rfl hl.1 (Nat.le_of_ble_eq_true rfl) dX5_archAhead_1 ⟨Nat.zero_le _, Nat.zero_le _⟩ (fun H locs hG hS => ?_)
  refine lv_iconst (v := -1) hx hb dX5_archAhead_4 (by decide) ?_
  refine lv_istore_n (lv' := [(1, .int (-1)), (0, .ref (L 162))]) hx hb dX5_archAhead_5 rfl hl (by decide) rfl (fun ls hl => ?_)
  refine lv_iconst (v := 1) hx hb dX5_archAhead_6 (by decide) ?_
  refine lv_istore_n (lv' := [(2, .int 1), (1, .int (-1)), (0, .ref (L 162))]) hx hb dX5_archAhead_7 rfl hl (by decide) rfl (fun ls hl => ?_)
  refine W.loop (σ := Nat) (fun d H locs ls => (d ≤ 60 ∧ g_stop ms (60 - d) d = g_stop ms 60 0) ∧ GW D N L (gA N L s.heap.size) (mW cy L F mt (g_daysS ms d) (cpN ma ms (0) (0) 118) mv mn mb ml mp mw mr mq mh) H ∧ va_S (gA N L s.heap.size) s.heap H locs ∧ lv_has ls 3 [(1, .int (g_ah ms d)), (2, .int (nI (d + 1))), (0, .ref (L 162))]) (fun d => 60 - d) 0 ⟨⟨by omega, rfl⟩, hG.to (rfl), hS, lv_to (lv_sub hl [1, 0, 2] rfl) (rfl)⟩ ?_
  intro d H locs ls hP9 ih8
  obtain ⟨⟨hd9, hd8⟩, hG, hS, hl⟩ := hP9
  refine lv_iload_n hx hb dX5_archAhead_8 rfl (lv_at hl 1 rfl) ?_
  refine lv_bipush (v := 60) hx hb dX5_archAhead_9 (by decide) ?_
  refine lv_icmp_gt (tgt := 38) hx hb dX5_archAhead_11 (by decide) (fun c_11 => ?_) (fun c_11 => ?_)
  · skip
    have c_11 : 60 < (d + 1) := (nI_ltI (a := 60) (b := d + 1) (by omega) (by omega)).mp c_11
    have hst : g_stop ms 60 0 = d := g_stop_60 hd8 (by omega)
    refine lv_aload_n hx hb dX5_archAhead_38 rfl (lv_at hl 2 rfl) ?_
    refine g_cVv (As := []) (rest := []) hx hb hml hown hts hK hA hG hS (k_X5_takeBack l D cy N L F hN mt (g_daysS ms d) (cpN ma ms (0) (0) 118) mv mn mb ml mp mw mr mq mh  ) (cwV 0 hts gX5_archAhead_X5_takeBack rfl rfl rfl (by decide +kernel) ⟨Nat.le_of_ble_eq_true rfl, Nat.le_of_ble_eq_true rfl⟩) i162 mW_o (ci := 5) rfl rfl rfl rfl hl.1 (Nat.le_of_ble_eq_true rfl) dX5_archAhead_39 ⟨Nat.zero_le _, Nat.zero_le _⟩ (fun H locs hG hS => ?_)
    have hG : GW D N L _ (mW cy L F mt ms (cpN ma ms (0) (0) 118) mv mn mb ml mp mw mr mq mh) _ := mW_ms hG (fun i hi => cpN_back hi)
    refine lv_iload_n hx hb dX5_archAhead_42 rfl (lv_at hl 0 rfl) ?_
    exact g_iret hx hb hr hlocks hK hG hS rfl dX5_archAhead_43 ⟨(congrArg (fun z9 => some (Value.int z9)) (by rw [hst])), rfl⟩
  · skip
    have c_11 : ¬ 60 < (d + 1) := fun h9 => c_11 ((nI_ltI (a := 60) (b := d + 1) (by omega) (by omega)).mpr h9)
    refine lv_iload_n hx hb dX5_archAhead_14 rfl (lv_at hl 0 rfl) ?_
    refine lv_iconst (v := -1) hx hb dX5_archAhead_15 (by decide) ?_
    refine lv_icmp_ne (tgt := 38) hx hb dX5_archAhead_16 (by decide) (fun c_16 => ?_) (fun c_16 => ?_)
    · skip
      have hst : g_stop ms 60 0 = d := g_stop_x hd8 c_16
      refine lv_aload_n hx hb dX5_archAhead_38 rfl (lv_at hl 2 rfl) ?_
      refine g_cVv (As := []) (rest := []) hx hb hml hown hts hK hA hG hS (k_X5_takeBack l D cy N L F hN mt (g_daysS ms d) (cpN ma ms (0) (0) 118) mv mn mb ml mp mw mr mq mh  ) (cwV 0 hts gX5_archAhead_X5_takeBack rfl rfl rfl (by decide +kernel) ⟨Nat.le_of_ble_eq_true rfl, Nat.le_of_ble_eq_true rfl⟩) i162 mW_o (ci := 5) rfl rfl rfl rfl hl.1 (Nat.le_of_ble_eq_true rfl) dX5_archAhead_39 ⟨Nat.zero_le _, Nat.zero_le _⟩ (fun H locs hG hS => ?_)
      have hG : GW D N L _ (mW cy L F mt ms (cpN ma ms (0) (0) 118) mv mn mb ml mp mw mr mq mh) _ := mW_ms hG (fun i hi => cpN_back hi)
      refine lv_iload_n hx hb dX5_archAhead_42 rfl (lv_at hl 0 rfl) ?_
      exact g_iret hx hb hr hlocks hK hG hS rfl dX5_archAhead_43 ⟨(congrArg (fun z9 => some (Value.int z9)) (by rw [hst])), rfl⟩
    · skip
      have hn9 : g_ah ms d = -1 := c_16
      refine lv_aload_n hx hb dX5_archAhead_19 rfl (lv_at hl 2 rfl) ?_
      refine g_cVi (As := []) (rest := []) hx hb hml hown hts hK hA hG hS (k_X5_passesDay l D cy N L F hN mt (g_daysS ms d) (cpN ma ms (0) (0) 118) mv mn mb ml mp mw mr mq mh  (wfM_days hw d)) (cwV 0 hts gX5_archAhead_X5_passesDay rfl rfl rfl (by decide +kernel) ⟨Nat.le_of_ble_eq_true rfl, Nat.le_of_ble_eq_true rfl⟩) i162 mW_o (ci := 5) rfl rfl rfl rfl hl.1 (Nat.le_of_ble_eq_true rfl) dX5_archAhead_20 ⟨Nat.zero_le _, Nat.zero_le _⟩ (fun H locs hG hS => ?_)
      refine lv_if_le (tgt := 30) hx hb dX5_archAhead_23 (by decide) (fun c_23 => ?_) (fun c_23 => ?_)
      · skip
        refine lv_iconst (v := -1) hx hb dX5_archAhead_30 (by decide) ?_
        refine lv_istore_n (lv' := [(1, .int (-1)), (2, .int (nI (d + 1))), (0, .ref (L 162))]) hx hb dX5_archAhead_31 rfl hl (by decide) rfl (fun ls hl => ?_)
        refine lv_iinc (v := nI ((d + 1) + 1)) (lv' := [(2, .int (nI ((d + 1) + 1))), (1, .int (-1)), (0, .ref (L 162))]) hx hb dX5_archAhead_32 hl (k := 1) rfl (nI_add (d + 1) 1) (by decide) rfl (fun ls hl => ?_)
        refine lv_goto (tgt := 8) hx hb dX5_archAhead_35 (by decide) ?_
        have hl : lv_has ls 3 [(1, .int (-1)), (2, .int (nI ((d + 1) + 1))), (0, .ref (L 162))] := lv_sub hl [1, 0, 2] rfl
        exact ih8 (d + 1) _ _ _ (by omega) ⟨⟨by omega, (g_stop_s hd8 (by omega) hn9)⟩, hG.to (rfl), hS, lv_to hl (by simp only [g_ah, c_11, eq_true c_16, c_23, if_true, if_false])⟩
      · skip
        refine lv_iload_n hx hb dX5_archAhead_26 rfl (lv_at hl 1 rfl) ?_
        refine lv_goto (tgt := 31) hx hb dX5_archAhead_27 (by decide) ?_
        refine lv_istore_n (lv' := [(1, .int (nI (d + 1))), (2, .int (nI (d + 1))), (0, .ref (L 162))]) hx hb dX5_archAhead_31 rfl hl (by decide) rfl (fun ls hl => ?_)
        refine lv_iinc (v := nI ((d + 1) + 1)) (lv' := [(2, .int (nI ((d + 1) + 1))), (1, .int (nI (d + 1))), (0, .ref (L 162))]) hx hb dX5_archAhead_32 hl (k := 1) rfl (nI_add (d + 1) 1) (by decide) rfl (fun ls hl => ?_)
        refine lv_goto (tgt := 8) hx hb dX5_archAhead_35 (by decide) ?_
        have hl : lv_has ls 3 [(1, .int (nI (d + 1))), (2, .int (nI ((d + 1) + 1))), (0, .ref (L 162))] := lv_sub hl [1, 0, 2] rfl
        exact ih8 (d + 1) _ _ _ (by omega) ⟨⟨by omega, (g_stop_s hd8 (by omega) hn9)⟩, hG.to (rfl), hS, lv_to hl (by simp only [g_ah, c_11, eq_true c_16, c_23, if_true, if_false])⟩
set_option maxHeartbeats 4000000 in
set_option maxRecDepth 100000 in
theorem k_X5_soft (l : Launch) (D : va_G) (cy : Nat → ClassId) (N : Nat) (L : Nat → Nat) (F : Nat → va_E) (hN : 168 ≤ N) (mt : Int32) (ms ma mv : Nat → Int32) (mn : Int32) (mb : Nat → Int32) (ml mp mw : Int32) (mr : Nat → Int32) (mq : Int32) (mh : Int64)  (hw : wfM ms) (hf : ¬ g_inSilos ms 4 = 0 → vf_n64 (FP.ddiv (FP.i2d (g_softS ms 4)) (FP.i2d (g_inSilos ms 4)))) : GM l D cy N L yX5_soft wsX5_soft ({ frames := 4, cells := 0, slots := 0, locals := 90 }) [.ref (L 162)] (mW cy L F mt ms ma mv mn mb ml mp mw mr mq mh) (some (.double (g_softD ms))) (mW cy L F mt ms ma mv mn mb ml mp mw mr mq mh) := by
  refine GM.ofW (cc := cX5_soft) (maxL := 4) (ret := (some .double)) (by decide) rfl (Nat.le_of_ble_eq_true rfl) ?_
  intro p e s m below meth c ls hx hb hr hts hown hlocks hml hK hA hG hS hl
  have hl : lv_has ls 4 [(0, .ref (L 162))] := hl
  have i162 : 162 < N := by omega
  have i163 : 163 < N := by omega
  have i164 : 164 < N := by omega
  have i165 : 165 < N := by omega
  have i166 : 166 < N := by omega
  have i167 : 167 < N := by omega
  refine lv_iconst (v := 0) hx hb dX5_soft_0 (by decide) ?_
  refine lv_istore_n (lv' := [(1, .int 0), (0, .ref (L 162))]) hx hb dX5_soft_1 rfl hl (by decide) rfl (fun ls hl => ?_)
  refine lv_iconst (v := 0) hx hb dX5_soft_2 (by decide) ?_
  refine lv_istore_n (lv' := [(2, .int 0), (1, .int 0), (0, .ref (L 162))]) hx hb dX5_soft_3 rfl hl (by decide) rfl (fun ls hl => ?_)
  refine W.loop (σ := Nat) (fun k H locs ls => (k ≤ 4) ∧ GW D N L (gA N L s.heap.size) (mW cy L F mt ms ma mv mn mb ml mp mw mr mq mh) H ∧ va_S (gA N L s.heap.size) s.heap H locs ∧ lv_has ls 4 [(1, .int (g_softS ms k)), (2, .int (nI k)), (0, .ref (L 162))]) (fun k => 4 - k) 0 ⟨by omega, hG.to (rfl), hS, lv_to (lv_sub hl [1, 0, 2] rfl) (rfl)⟩ ?_
  intro k H locs ls hP9 ih4
  obtain ⟨hk9, hG, hS, hl⟩ := hP9
  refine lv_iload_n hx hb dX5_soft_4 rfl (lv_at hl 1 rfl) ?_
  refine lv_iconst (v := 4) hx hb dX5_soft_5 (by decide) ?_
  refine lv_icmp_ge (tgt := 55) hx hb dX5_soft_6 (by decide) (fun c_6 => ?_) (fun c_6 => ?_)
  · skip
    have c_6 : 4 ≤ k := (nI_leI (a := 4) (b := k) (by omega) (by omega)).mp c_6
    refine lv_aload_n hx hb dX5_soft_55 rfl (lv_at hl 2 rfl) ?_
    refine g_cVi (As := []) (rest := []) hx hb hml hown hts hK hA hG hS (k_X5_inSilos l D cy N L F hN mt ms ma mv mn mb ml mp mw mr mq mh  (hw)) (cwV 0 hts gX5_soft_X5_inSilos rfl rfl rfl (by decide +kernel) ⟨Nat.le_of_ble_eq_true rfl, Nat.le_of_ble_eq_true rfl⟩) i162 mW_o (ci := 5) rfl rfl rfl rfl hl.1 (Nat.le_of_ble_eq_true rfl) dX5_soft_56 ⟨Nat.zero_le _, Nat.zero_le _⟩ (fun H locs hG hS => ?_)
    refine lv_istore_n (lv' := [(2, .int (g_inSilos ms 4)), (1, .int (g_softS ms k)), (0, .ref (L 162))]) hx hb dX5_soft_59 rfl hl (by decide) rfl (fun ls hl => ?_)
    refine lv_iload_n hx hb dX5_soft_60 rfl (lv_at hl 0 rfl) ?_
    refine lv_if_ne (tgt := 68) hx hb dX5_soft_61 (by decide) (fun c_61 => ?_) (fun c_61 => ?_)
    · skip
      refine lv_iload_n hx hb dX5_soft_68 rfl (lv_at hl 1 rfl) ?_
      refine lv_i2d hx hb dX5_soft_69 ?_
      refine lv_iload_n hx hb dX5_soft_70 rfl (lv_at hl 0 rfl) ?_
      refine lv_i2d hx hb dX5_soft_71 ?_
      refine lv_ddiv hx hb dX5_soft_72 (by rw [show k = 4 by omega]; exact hf c_61) ?_
      exact g_dret hx hb hr hlocks hK hG hS dX5_soft_73 ⟨(congrArg (fun z9 => some (Value.double z9)) (by first | (simp only [g_softD, c_6, c_61, if_true, if_false]; done) | (rw [show k = 4 by omega]; simp only [g_softD, c_6, c_61, if_true, if_false]))), rfl⟩
    · skip
      refine lv_dconst1 hx hb dX5_soft_64 ?_
      refine lv_goto (tgt := 73) hx hb dX5_soft_65 (by decide) ?_
      exact g_dret hx hb hr hlocks hK hG hS dX5_soft_73 ⟨(congrArg (fun z9 => some (Value.double z9)) (by first | (simp only [g_softD, c_6, eq_true c_61, if_true, if_false]; done) | (rw [show k = 4 by omega]; simp only [g_softD, c_6, eq_true c_61, if_true, if_false]))), rfl⟩
  · skip
    have c_6 : ¬ 4 ≤ k := fun h9 => c_6 ((nI_leI (a := 4) (b := k) (by omega) (by omega)).mpr h9)
    have hw8 := hw.1 k (by omega)
    refine lv_iconst (v := 0) hx hb dX5_soft_9 (by decide) ?_
    refine lv_istore_n (lv' := [(3, .int 0), (1, .int (g_softS ms k)), (2, .int (nI k)), (0, .ref (L 162))]) hx hb dX5_soft_10 rfl hl (by decide) rfl (fun ls hl => ?_)
    refine W.loop (σ := Nat) (fun i H locs ls => (i ≤ Nn ms k) ∧ GW D N L (gA N L s.heap.size) (mW cy L F mt ms ma mv mn mb ml mp mw mr mq mh) H ∧ va_S (gA N L s.heap.size) s.heap H locs ∧ lv_has ls 4 [(1, .int (g_softL (g_softS ms k) ms k i)), (3, .int (nI i)), (2, .int (nI k)), (0, .ref (L 162))]) (fun i => Nn ms k - i) 0 ⟨by omega, hG.to (rfl), hS, lv_to (lv_sub hl [1, 0, 2, 3] rfl) (rfl)⟩ ?_
    intro i H locs ls hP9 ih11
    obtain ⟨hi9, hG, hS, hl⟩ := hP9
    refine lv_iload_n hx hb dX5_soft_11 rfl (lv_at hl 1 rfl) ?_
    refine lv_aload_n hx hb dX5_soft_12 rfl (lv_at hl 3 rfl) ?_
    refine lv_iload_n hx hb dX5_soft_13 rfl (lv_at hl 2 rfl) ?_
    refine lv_iconst (v := 3) hx hb dX5_soft_14 (by decide) ?_
    refine g_cVi (As := [.int (nI k), .int 3]) (rest := [.int (nI i)]) hx hb hml hown hts hK hA hG hS (k_X5_of l D cy N L F hN mt ms ma mv mn mb ml mp mw mr mq mh k 3 (by omega)) (cwV 2 hts gX5_soft_X5_of rfl rfl rfl (by decide +kernel) ⟨Nat.le_of_ble_eq_true rfl, Nat.le_of_ble_eq_true rfl⟩) i162 mW_o (ci := 5) rfl rfl rfl rfl hl.1 (Nat.le_of_ble_eq_true rfl) dX5_soft_15 ⟨Nat.zero_le _, Nat.zero_le _⟩ (fun H locs hG hS => ?_)
    refine lv_toN (k := Nn ms k) (hw8.1) ?_
    refine lv_icmp_ge (tgt := 49) hx hb dX5_soft_18 (by decide) (fun c_18 => ?_) (fun c_18 => ?_)
    · skip
      have c_18 : (Nn ms k) ≤ i := (nI_leI (a := Nn ms k) (b := i) (by omega) (by omega)).mp c_18
      refine lv_iinc (v := nI (k + 1)) (lv' := [(2, .int (nI (k + 1))), (1, .int (g_softL (g_softS ms k) ms k i)), (3, .int (nI i)), (0, .ref (L 162))]) hx hb dX5_soft_49 hl (k := 2) rfl (nI_add k 1) (by decide) rfl (fun ls hl => ?_)
      refine lv_goto (tgt := 4) hx hb dX5_soft_52 (by decide) ?_
      have hl : lv_has ls 4 [(1, .int (g_softL (g_softS ms k) ms k i)), (2, .int (nI (k + 1))), (0, .ref (L 162))] := lv_sub hl [1, 0, 3] rfl
      exact ih4 (k + 1) _ _ _ (by omega) ⟨by omega, hG.to (rfl), hS, lv_to hl (by rw [show i = Nn ms k by omega]; rfl)⟩
    · skip
      have c_18 : ¬ (Nn ms k) ≤ i := fun h9 => c_18 ((nI_leI (a := Nn ms k) (b := i) (by omega) (by omega)).mpr h9)
      refine lv_iload_n hx hb dX5_soft_21 rfl (lv_at hl 0 rfl) ?_
      refine lv_aload_n hx hb dX5_soft_22 rfl (lv_at hl 3 rfl) ?_
      refine lv_iload_n hx hb dX5_soft_23 rfl (lv_at hl 2 rfl) ?_
      refine lv_iload_n hx hb dX5_soft_24 rfl (lv_at hl 1 rfl) ?_
      refine g_cVi (As := [.int (nI k), .int (nI i)]) (rest := [.int (g_softL (g_softS ms k) ms k i)]) hx hb hml hown hts hK hA hG hS (k_X5_setOf l D cy N L F hN mt ms ma mv mn mb ml mp mw mr mq mh k i (by omega)) (cwV 2 hts gX5_soft_X5_setOf rfl rfl rfl (by decide +kernel) ⟨Nat.le_of_ble_eq_true rfl, Nat.le_of_ble_eq_true rfl⟩) i162 mW_o (ci := 5) rfl rfl rfl rfl hl.1 (Nat.le_of_ble_eq_true rfl) dX5_soft_25 ⟨Nat.zero_le _, Nat.zero_le _⟩ (fun H locs hG hS => ?_)
      refine lv_if_ne (tgt := 40) hx hb dX5_soft_28 (by decide) (fun c_28 => ?_) (fun c_28 => ?_)
      · skip
        refine lv_iconst (v := 0) hx hb dX5_soft_40 (by decide) ?_
        refine lv_iadd hx hb dX5_soft_41 ?_
        refine lv_istore_n (lv' := [(1, .int ((g_softL (g_softS ms k) ms k i) + 0)), (3, .int (nI i)), (2, .int (nI k)), (0, .ref (L 162))]) hx hb dX5_soft_42 rfl hl (by decide) rfl (fun ls hl => ?_)
        refine lv_iinc (v := nI (i + 1)) (lv' := [(3, .int (nI (i + 1))), (1, .int ((g_softL (g_softS ms k) ms k i) + 0)), (2, .int (nI k)), (0, .ref (L 162))]) hx hb dX5_soft_43 hl (k := 1) rfl (nI_add i 1) (by decide) rfl (fun ls hl => ?_)
        refine lv_goto (tgt := 11) hx hb dX5_soft_46 (by decide) ?_
        have hl : lv_has ls 4 [(1, .int ((g_softL (g_softS ms k) ms k i) + 0)), (3, .int (nI (i + 1))), (2, .int (nI k)), (0, .ref (L 162))] := lv_sub hl [1, 0, 2, 3] rfl
        exact ih11 (i + 1) _ _ _ (by omega) ⟨by omega, hG.to (rfl), hS, lv_to hl (by simp only [g_softL, c_6, c_18, c_28, if_true, if_false])⟩
      · skip
        refine lv_aload_n hx hb dX5_soft_31 rfl (lv_at hl 3 rfl) ?_
        refine lv_iload_n hx hb dX5_soft_32 rfl (lv_at hl 2 rfl) ?_
        refine lv_iload_n hx hb dX5_soft_33 rfl (lv_at hl 1 rfl) ?_
        refine g_cVi (As := [.int (nI k), .int (nI i)]) (rest := [.int (g_softL (g_softS ms k) ms k i)]) hx hb hml hown hts hK hA hG hS (k_X5_tonnes l D cy N L F hN mt ms ma mv mn mb ml mp mw mr mq mh k i (by omega)) (cwV 2 hts gX5_soft_X5_tonnes rfl rfl rfl (by decide +kernel) ⟨Nat.le_of_ble_eq_true rfl, Nat.le_of_ble_eq_true rfl⟩) i162 mW_o (ci := 5) rfl rfl rfl rfl hl.1 (Nat.le_of_ble_eq_true rfl) dX5_soft_34 ⟨Nat.zero_le _, Nat.zero_le _⟩ (fun H locs hG hS => ?_)
        refine lv_goto (tgt := 41) hx hb dX5_soft_37 (by decide) ?_
        refine lv_iadd hx hb dX5_soft_41 ?_
        refine lv_istore_n (lv' := [(1, .int ((g_softL (g_softS ms k) ms k i) + (ms (10 + 24 * k + (4 + 2 * i))))), (3, .int (nI i)), (2, .int (nI k)), (0, .ref (L 162))]) hx hb dX5_soft_42 rfl hl (by decide) rfl (fun ls hl => ?_)
        refine lv_iinc (v := nI (i + 1)) (lv' := [(3, .int (nI (i + 1))), (1, .int ((g_softL (g_softS ms k) ms k i) + (ms (10 + 24 * k + (4 + 2 * i))))), (2, .int (nI k)), (0, .ref (L 162))]) hx hb dX5_soft_43 hl (k := 1) rfl (nI_add i 1) (by decide) rfl (fun ls hl => ?_)
        refine lv_goto (tgt := 11) hx hb dX5_soft_46 (by decide) ?_
        have hl : lv_has ls 4 [(1, .int ((g_softL (g_softS ms k) ms k i) + (ms (10 + 24 * k + (4 + 2 * i))))), (3, .int (nI (i + 1))), (2, .int (nI k)), (0, .ref (L 162))] := lv_sub hl [1, 0, 2, 3] rfl
        exact ih11 (i + 1) _ _ _ (by omega) ⟨by omega, hG.to (rfl), hS, lv_to hl (by simp only [g_softL, c_6, c_18, eq_true c_28, if_true, if_false])⟩
set_option maxHeartbeats 4000000 in
set_option maxRecDepth 100000 in
theorem k_X5_hashesSilo (l : Launch) (D : va_G) (cy : Nat → ClassId) (N : Nat) (L : Nat → Nat) (F : Nat → va_E) (hN : 168 ≤ N) (mt : Int32) (ms ma mv : Nat → Int32) (mn : Int32) (mb : Nat → Int32) (ml mp mw : Int32) (mr : Nat → Int32) (mq : Int32) (mh : Int64) (k n : Nat) (hk : k < 4) (hn : ms (10 + 24 * k + 3) = nI n) (hn10 : n ≤ 10) (hw : wfM ms) (hn1 : 1 ≤ n ∨ ms (10 + 24 * k + 1) = 2 ∨ ms (10 + 24 * k + 1) = 0) : GM l D cy N L yX5_hashesSilo wsX5_hashesSilo ({ frames := 7, cells := 0, slots := 0, locals := 164 }) [.ref (L 162), .int (nI k)] (mW cy L F mt ms ma mv mn mb ml mp mw mr mq mh) (none) (mW cy L F mt ms (cpN ma ms (0) (0) 118) mv mn mb ml mp mw mr mq (g_hsh mh ms k n)) := by
  refine GM.ofW (cc := cX5_hashesSilo) (maxL := 3) (ret := none) (by decide) rfl (Nat.le_of_ble_eq_true rfl) ?_
  intro p e s m below meth c ls hx hb hr hts hown hlocks hml hK hA hG hS hl
  have hl : lv_has ls 3 [(0, .ref (L 162)), (1, .int (nI k))] := hl
  have i162 : 162 < N := by omega
  have i163 : 163 < N := by omega
  have i164 : 164 < N := by omega
  have i165 : 165 < N := by omega
  have i166 : 166 < N := by omega
  have i167 : 167 < N := by omega
  refine lv_iconst (v := 0) hx hb dX5_hashesSilo_0 (by decide) ?_
  refine lv_istore_n (lv' := [(2, .int 0), (0, .ref (L 162)), (1, .int (nI k))]) hx hb dX5_hashesSilo_1 rfl hl (by decide) rfl (fun ls hl => ?_)
  refine W.loop (σ := Nat) (fun i H locs ls => (i ≤ 6) ∧ GW D N L (gA N L s.heap.size) (mW cy L F mt ms ma mv mn mb ml mp mw mr mq (g_hs6 mh ms k n i)) H ∧ va_S (gA N L s.heap.size) s.heap H locs ∧ lv_has ls 3 [(2, .int (nI i)), (0, .ref (L 162)), (1, .int (nI k))]) (fun i => 6 - i) 0 ⟨by omega, hG.to (rfl), hS, lv_to (lv_sub hl [0, 1, 2] rfl) (rfl)⟩ ?_
  intro i H locs ls hP9 ih2
  obtain ⟨hi9, hG, hS, hl⟩ := hP9
  refine lv_iload_n hx hb dX5_hashesSilo_2 rfl (lv_at hl 0 rfl) ?_
  refine lv_bipush (v := 6) hx hb dX5_hashesSilo_3 (by decide) ?_
  refine lv_icmp_ge (tgt := 25) hx hb dX5_hashesSilo_5 (by decide) (fun c_5 => ?_) (fun c_5 => ?_)
  · skip
    have c_5 : 6 ≤ i := (nI_leI (a := 6) (b := i) (by omega) (by omega)).mp c_5
    refine lv_iconst (v := 0) hx hb dX5_hashesSilo_25 (by decide) ?_
    refine lv_istore_n (lv' := [(2, .int 0), (0, .ref (L 162)), (1, .int (nI k))]) hx hb dX5_hashesSilo_26 rfl hl (by decide) rfl (fun ls hl => ?_)
    refine W.loop (σ := Nat) (fun i H locs ls => (i ≤ 3 * n) ∧ GW D N L (gA N L s.heap.size) (mW cy L F mt ms ma mv mn mb ml mp mw mr mq (g_hs3 (g_hs6 mh ms k n 6) ms k i)) H ∧ va_S (gA N L s.heap.size) s.heap H locs ∧ lv_has ls 3 [(2, .int (nI i)), (0, .ref (L 162)), (1, .int (nI k))]) (fun i => 3 * n - i) 0 ⟨by omega, hG.to (by rw [show i = 6 by omega]; rfl), hS, lv_to (lv_sub hl [0, 1, 2] rfl) (rfl)⟩ ?_
    intro i H locs ls hP9 ih27
    obtain ⟨hi8, hG, hS, hl⟩ := hP9
    refine lv_iload_n hx hb dX5_hashesSilo_27 rfl (lv_at hl 0 rfl) ?_
    refine lv_iconst (v := 3) hx hb dX5_hashesSilo_28 (by decide) ?_
    refine lv_aload_n hx hb dX5_hashesSilo_29 rfl (lv_at hl 1 rfl) ?_
    refine lv_iload_n hx hb dX5_hashesSilo_30 rfl (lv_at hl 2 rfl) ?_
    refine lv_iconst (v := 3) hx hb dX5_hashesSilo_31 (by decide) ?_
    refine g_cVi (As := [.int (nI k), .int 3]) (rest := [.int 3, .int (nI i)]) hx hb hml hown hts hK hA hG hS (k_X5_of l D cy N L F hN mt ms ma mv mn mb ml mp mw mr mq (g_hs3 (g_hs6 mh ms k n 6) ms k i) k 3 (by omega)) (cwV 2 hts gX5_hashesSilo_X5_of rfl rfl rfl (by decide +kernel) ⟨Nat.le_of_ble_eq_true rfl, Nat.le_of_ble_eq_true rfl⟩) i162 mW_o (ci := 5) rfl rfl rfl rfl hl.1 (Nat.le_of_ble_eq_true rfl) dX5_hashesSilo_32 ⟨Nat.zero_le _, Nat.zero_le _⟩ (fun H locs hG hS => ?_)
    refine lv_toN (k := n) (hn) ?_
    refine lv_imul hx hb dX5_hashesSilo_35 ?_
    refine lv_toN (k := 3 * n) (pk_mul 3 n) ?_
    refine lv_icmp_ge (tgt := 61) hx hb dX5_hashesSilo_36 (by decide) (fun c_36 => ?_) (fun c_36 => ?_)
    · skip
      have c_36 : (3 * n) ≤ i := (nI_leI (a := 3 * n) (b := i) (by omega) (by omega)).mp c_36
      refine lv_aload_n hx hb dX5_hashesSilo_61 rfl (lv_at hl 1 rfl) ?_
      refine lv_aload_n hx hb dX5_hashesSilo_62 rfl (lv_at hl 1 rfl) ?_
      refine lv_iload_n hx hb dX5_hashesSilo_63 rfl (lv_at hl 2 rfl) ?_
      refine g_cVi (As := [.int (nI k)]) (rest := [.ref (L 162)]) hx hb hml hown hts hK hA hG hS (k_X5_needed l D cy N L F hN mt ms ma mv mn mb ml mp mw mr mq (g_hs3 (g_hs6 mh ms k n 6) ms k i) k n (by omega) (hn) (by omega) (hn1)) (cwV 1 hts gX5_hashesSilo_X5_needed rfl rfl rfl (by decide +kernel) ⟨Nat.le_of_ble_eq_true rfl, Nat.le_of_ble_eq_true rfl⟩) i162 mW_o (ci := 5) rfl rfl rfl rfl hl.1 (Nat.le_of_ble_eq_true rfl) dX5_hashesSilo_64 ⟨Nat.zero_le _, Nat.zero_le _⟩ (fun H locs hG hS => ?_)
      refine lv_i2l hx hb dX5_hashesSilo_67 rfl ?_
      refine g_cVv (As := [.long ((g_need ms k n).toInt64)]) (rest := []) hx hb hml hown hts hK hA hG hS (k_X5_hashes l D cy N L F hN mt ms ma mv mn mb ml mp mw mr mq (g_hs3 (g_hs6 mh ms k n 6) ms k i) ((g_need ms k n).toInt64) ) (cwV 1 hts gX5_hashesSilo_X5_hashes rfl rfl rfl (by decide +kernel) ⟨Nat.le_of_ble_eq_true rfl, Nat.le_of_ble_eq_true rfl⟩) i162 mW_o (ci := 5) rfl rfl rfl rfl hl.1 (Nat.le_of_ble_eq_true rfl) dX5_hashesSilo_68 ⟨Nat.zero_le _, Nat.zero_le _⟩ (fun H locs hG hS => ?_)
      refine lv_aload_n hx hb dX5_hashesSilo_71 rfl (lv_at hl 1 rfl) ?_
      refine lv_aload_n hx hb dX5_hashesSilo_72 rfl (lv_at hl 1 rfl) ?_
      refine lv_iload_n hx hb dX5_hashesSilo_73 rfl (lv_at hl 2 rfl) ?_
      refine lv_iconst (v := 0) hx hb dX5_hashesSilo_74 (by decide) ?_
      refine g_cVi (As := [.int (nI k), .int 0]) (rest := [.ref (L 162)]) hx hb hml hown hts hK hA hG hS (k_X5_reason l D cy N L F hN mt ms ma mv mn mb ml mp mw mr mq (31 * (g_hs3 (g_hs6 mh ms k n 6) ms k i) + ((g_need ms k n).toInt64)) k 0 (by omega) (by omega)) (cwV 2 hts gX5_hashesSilo_X5_reason rfl rfl rfl (by decide +kernel) ⟨Nat.le_of_ble_eq_true rfl, Nat.le_of_ble_eq_true rfl⟩) i162 mW_o (ci := 5) rfl rfl rfl rfl hl.1 (Nat.le_of_ble_eq_true rfl) dX5_hashesSilo_75 ⟨Nat.zero_le _, Nat.zero_le _⟩ (fun H locs hG hS => ?_)
      refine lv_i2l hx hb dX5_hashesSilo_78 rfl ?_
      refine g_cVv (As := [.long ((g_reason ms k 0).toInt64)]) (rest := []) hx hb hml hown hts hK hA hG hS (k_X5_hashes l D cy N L F hN mt ms ma mv mn mb ml mp mw mr mq (31 * (g_hs3 (g_hs6 mh ms k n 6) ms k i) + ((g_need ms k n).toInt64)) ((g_reason ms k 0).toInt64) ) (cwV 1 hts gX5_hashesSilo_X5_hashes rfl rfl rfl (by decide +kernel) ⟨Nat.le_of_ble_eq_true rfl, Nat.le_of_ble_eq_true rfl⟩) i162 mW_o (ci := 5) rfl rfl rfl rfl hl.1 (Nat.le_of_ble_eq_true rfl) dX5_hashesSilo_79 ⟨Nat.zero_le _, Nat.zero_le _⟩ (fun H locs hG hS => ?_)
      refine lv_aload_n hx hb dX5_hashesSilo_82 rfl (lv_at hl 1 rfl) ?_
      refine lv_aload_n hx hb dX5_hashesSilo_83 rfl (lv_at hl 1 rfl) ?_
      refine lv_iload_n hx hb dX5_hashesSilo_84 rfl (lv_at hl 2 rfl) ?_
      refine lv_iconst (v := 0) hx hb dX5_hashesSilo_85 (by decide) ?_
      refine lv_iconst (v := 4) hx hb dX5_hashesSilo_86 (by decide) ?_
      refine lv_iconst (v := 4) hx hb dX5_hashesSilo_87 (by decide) ?_
      refine g_cVi (As := [.int (nI k), .int 0, .int 4, .int 4]) (rest := [.ref (L 162)]) hx hb hml hown hts hK hA hG hS (k_X5_wouldFlow l D cy N L F hN mt ms ma mv mn mb ml mp mw mr mq (31 * (31 * (g_hs3 (g_hs6 mh ms k n 6) ms k i) + ((g_need ms k n).toInt64)) + ((g_reason ms k 0).toInt64)) k 0 4 4 (by omega) (by omega) (by omega) (hw)) (cwV 4 hts gX5_hashesSilo_X5_wouldFlow rfl rfl rfl (by decide +kernel) ⟨Nat.le_of_ble_eq_true rfl, Nat.le_of_ble_eq_true rfl⟩) i162 mW_o (ci := 5) rfl rfl rfl rfl hl.1 (Nat.le_of_ble_eq_true rfl) dX5_hashesSilo_88 ⟨Nat.zero_le _, Nat.zero_le _⟩ (fun H locs hG hS => ?_)
      refine lv_i2l hx hb dX5_hashesSilo_91 rfl ?_
      refine g_cVv (As := [.long ((g_hoursR (upd ms (10 + 24 * k + 0) 4) k 0 4).toInt64)]) (rest := []) hx hb hml hown hts hK hA hG hS (k_X5_hashes l D cy N L F hN mt ms (cpN ma ms (0) (0) 118) mv mn mb ml mp mw mr mq (31 * (31 * (g_hs3 (g_hs6 mh ms k n 6) ms k i) + ((g_need ms k n).toInt64)) + ((g_reason ms k 0).toInt64)) ((g_hoursR (upd ms (10 + 24 * k + 0) 4) k 0 4).toInt64) ) (cwV 1 hts gX5_hashesSilo_X5_hashes rfl rfl rfl (by decide +kernel) ⟨Nat.le_of_ble_eq_true rfl, Nat.le_of_ble_eq_true rfl⟩) i162 mW_o (ci := 5) rfl rfl rfl rfl hl.1 (Nat.le_of_ble_eq_true rfl) dX5_hashesSilo_92 ⟨Nat.zero_le _, Nat.zero_le _⟩ (fun H locs hG hS => ?_)
      exact g_vret hx hb hr hlocks hK hG hS dX5_hashesSilo_95 ⟨rfl, (by rw [show i = 3 * n by omega]; rfl)⟩
    · skip
      have c_36 : ¬ (3 * n) ≤ i := fun h9 => c_36 ((nI_leI (a := 3 * n) (b := i) (by omega) (by omega)).mpr h9)
      refine lv_aload_n hx hb dX5_hashesSilo_39 rfl (lv_at hl 1 rfl) ?_
      refine lv_aload_n hx hb dX5_hashesSilo_40 rfl (lv_at hl 1 rfl) ?_
      refine lv_iload_n hx hb dX5_hashesSilo_41 rfl (lv_at hl 2 rfl) ?_
      refine lv_iload_n hx hb dX5_hashesSilo_42 rfl (lv_at hl 0 rfl) ?_
      refine lv_iconst (v := 3) hx hb dX5_hashesSilo_43 (by decide) ?_
      refine lv_idiv hx hb dX5_hashesSilo_44 (by decide) ?_
      refine lv_toN (k := i / 3) (pk_div (a := i) (d := 3) (by omega) (by omega) (by omega)) ?_
      refine lv_iload_n hx hb dX5_hashesSilo_45 rfl (lv_at hl 0 rfl) ?_
      refine lv_iconst (v := 3) hx hb dX5_hashesSilo_46 (by decide) ?_
      refine lv_irem hx hb dX5_hashesSilo_47 (by decide) ?_
      refine lv_toN (k := i % 3) (pk_rem (a := i) (d := 3) (by omega) (by omega) (by omega)) ?_
      refine g_cVi (As := [.int (nI k), .int (nI (i / 3)), .int (nI (i % 3))]) (rest := [.ref (L 162)]) hx hb hml hown hts hK hA hG hS (k_X5_tellsLayer l D cy N L F hN mt ms ma mv mn mb ml mp mw mr mq (g_hs3 (g_hs6 mh ms k n 6) ms k i) k (i / 3) (nI (i % 3)) (by omega) (by omega)) (cwV 3 hts gX5_hashesSilo_X5_tellsLayer rfl rfl rfl (by decide +kernel) ⟨Nat.le_of_ble_eq_true rfl, Nat.le_of_ble_eq_true rfl⟩) i162 mW_o (ci := 5) rfl rfl rfl rfl hl.1 (Nat.le_of_ble_eq_true rfl) dX5_hashesSilo_48 ⟨Nat.zero_le _, Nat.zero_le _⟩ (fun H locs hG hS => ?_)
      refine lv_i2l hx hb dX5_hashesSilo_51 rfl ?_
      refine g_cVv (As := [.long ((g_tellL ms k (i / 3) (nI (i % 3))).toInt64)]) (rest := []) hx hb hml hown hts hK hA hG hS (k_X5_hashes l D cy N L F hN mt ms ma mv mn mb ml mp mw mr mq (g_hs3 (g_hs6 mh ms k n 6) ms k i) ((g_tellL ms k (i / 3) (nI (i % 3))).toInt64) ) (cwV 1 hts gX5_hashesSilo_X5_hashes rfl rfl rfl (by decide +kernel) ⟨Nat.le_of_ble_eq_true rfl, Nat.le_of_ble_eq_true rfl⟩) i162 mW_o (ci := 5) rfl rfl rfl rfl hl.1 (Nat.le_of_ble_eq_true rfl) dX5_hashesSilo_52 ⟨Nat.zero_le _, Nat.zero_le _⟩ (fun H locs hG hS => ?_)
      refine lv_iinc (v := nI (i + 1)) (lv' := [(2, .int (nI (i + 1))), (0, .ref (L 162)), (1, .int (nI k))]) hx hb dX5_hashesSilo_55 hl (k := 0) rfl (nI_add i 1) (by decide) rfl (fun ls hl => ?_)
      refine lv_goto (tgt := 27) hx hb dX5_hashesSilo_58 (by decide) ?_
      have hl : lv_has ls 3 [(2, .int (nI (i + 1))), (0, .ref (L 162)), (1, .int (nI k))] := lv_sub hl [0, 1, 2] rfl
      exact ih27 (i + 1) _ _ _ (by omega) ⟨by omega, hG.to (rfl), hS, lv_to hl (rfl)⟩
  · skip
    have c_5 : ¬ 6 ≤ i := fun h9 => c_5 ((nI_leI (a := 6) (b := i) (by omega) (by omega)).mpr h9)
    refine lv_aload_n hx hb dX5_hashesSilo_8 rfl (lv_at hl 1 rfl) ?_
    refine lv_aload_n hx hb dX5_hashesSilo_9 rfl (lv_at hl 1 rfl) ?_
    refine lv_iload_n hx hb dX5_hashesSilo_10 rfl (lv_at hl 2 rfl) ?_
    refine lv_iload_n hx hb dX5_hashesSilo_11 rfl (lv_at hl 0 rfl) ?_
    refine g_cVi (As := [.int (nI k), .int (nI i)]) (rest := [.ref (L 162)]) hx hb hml hown hts hK hA hG hS (k_X5_tellsSilo l D cy N L F hN mt ms ma mv mn mb ml mp mw mr mq (g_hs6 mh ms k n i) k n (nI i) (by omega) (hn) (by omega)) (cwV 2 hts gX5_hashesSilo_X5_tellsSilo rfl rfl rfl (by decide +kernel) ⟨Nat.le_of_ble_eq_true rfl, Nat.le_of_ble_eq_true rfl⟩) i162 mW_o (ci := 5) rfl rfl rfl rfl hl.1 (Nat.le_of_ble_eq_true rfl) dX5_hashesSilo_12 ⟨Nat.zero_le _, Nat.zero_le _⟩ (fun H locs hG hS => ?_)
    refine lv_i2l hx hb dX5_hashesSilo_15 rfl ?_
    refine g_cVv (As := [.long ((g_tellS ms k n (nI i)).toInt64)]) (rest := []) hx hb hml hown hts hK hA hG hS (k_X5_hashes l D cy N L F hN mt ms ma mv mn mb ml mp mw mr mq (g_hs6 mh ms k n i) ((g_tellS ms k n (nI i)).toInt64) ) (cwV 1 hts gX5_hashesSilo_X5_hashes rfl rfl rfl (by decide +kernel) ⟨Nat.le_of_ble_eq_true rfl, Nat.le_of_ble_eq_true rfl⟩) i162 mW_o (ci := 5) rfl rfl rfl rfl hl.1 (Nat.le_of_ble_eq_true rfl) dX5_hashesSilo_16 ⟨Nat.zero_le _, Nat.zero_le _⟩ (fun H locs hG hS => ?_)
    refine lv_iinc (v := nI (i + 1)) (lv' := [(2, .int (nI (i + 1))), (0, .ref (L 162)), (1, .int (nI k))]) hx hb dX5_hashesSilo_19 hl (k := 0) rfl (nI_add i 1) (by decide) rfl (fun ls hl => ?_)
    refine lv_goto (tgt := 2) hx hb dX5_hashesSilo_22 (by decide) ?_
    have hl : lv_has ls 3 [(2, .int (nI (i + 1))), (0, .ref (L 162)), (1, .int (nI k))] := lv_sub hl [0, 1, 2] rfl
    exact ih2 (i + 1) _ _ _ (by omega) ⟨by omega, hG.to (rfl), hS, lv_to hl (rfl)⟩
