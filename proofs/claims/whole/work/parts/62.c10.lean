set_option maxHeartbeats 4000000 in
set_option maxRecDepth 100000 in
theorem k_X4_hashWithSilo (l : Launch) (D : va_G) (cy : Nat → ClassId) (N : Nat) (L : Nat → Nat) (F : Nat → va_E) (hN : 162 ≤ N) (C : CT) (h : Int64) (k : Nat) (hy : wfY (cY C)) (hk : k < 4) (hn1 : 1 ≤ sN (yS (cY C) k) ∨ sC (yS (cY C) k) = 2 ∨ sC (yS (cY C) k) = 0) : GM l D cy N L yX4_hashWithSilo wsX4_hashWithSilo ({ frames := 8, cells := 0, slots := 0, locals := 174 }) [.ref (L 0), .long h, .int (nI k)] (cW cy L F C) (some (.long (d_hs C h k))) (cW cy L F (c_ifS C k 0 4 4)) := by
  refine GM.ofW (cc := cX4_hashWithSilo) (maxL := 9) (ret := (some .long)) (by decide) rfl (Nat.le_of_ble_eq_true rfl) ?_
  intro p e s m below meth c ls hx hb hr hts hown hlocks hml hK hA hG hS hl
  have hl : lv_has ls 9 [(0, .ref (L 0)), (1, .long h), (3, .int (nI k))] := hl
  have hf10 := hts (.fieldLink RX4 10 "SiloPads" "now" "LSiloPads$Yard;") (by decide +kernel)
  have hinX4 : ∀ w ∈ u_ws RX4 TX4 8, w ∈ wsX4_hashWithSilo := by decide +kernel
  have hf94 := hts (.fieldLink RX4 94 "SiloPads$Yard" "silos" "[LSiloPads$Silo;") (by decide +kernel)
  have hinX3 : ∀ w ∈ u_ws RX3 TX3 9, w ∈ wsX4_hashWithSilo := by decide +kernel
  have hf125 := hts (.fieldLink RX4 125 "SiloPads$Silo" "layers" "I") (by decide +kernel)
  have hinX1 : ∀ w ∈ u_ws RX1 TX1 6, w ∈ wsX4_hashWithSilo := by decide +kernel
  have hn10 := hy k hk
  refine lv_lload_n hx hb dX4_hashWithSilo_0 rfl (lv_at hl 1 rfl) ?_
  refine lv_lstore (lv' := [(4, .long h), (0, .ref (L 0)), (1, .long h), (3, .int (nI k))]) hx hb dX4_hashWithSilo_1 hl (by decide) rfl (fun ls hl => ?_)
  refine lv_iconst (v := 0) hx hb dX4_hashWithSilo_3 (by decide) ?_
  refine lv_istore (lv' := [(6, .int 0), (4, .long h), (0, .ref (L 0)), (1, .long h), (3, .int (nI k))]) hx hb dX4_hashWithSilo_4 hl (by decide) rfl (fun ls hl => ?_)
  refine W.loop (σ := Nat) (fun v H locs ls => (v ≤ 6) ∧ GW D N L (gA N L s.heap.size) (cW cy L F C) H ∧ va_S (gA N L s.heap.size) s.heap H locs ∧ lv_has ls 9 [(4, .long (d_S (cY C) k h v)), (6, .int (nI v)), (0, .ref (L 0)), (1, .long h), (3, .int (nI k))]) (fun v => 6 - v) 0 ⟨by omega, hG.to (rfl), hS, lv_to (lv_sub hl [1, 0, 2, 3, 4] rfl) (rfl)⟩ ?_
  intro v H locs ls hP9 ih6
  obtain ⟨hv9, hG, hS, hl⟩ := hP9
  refine lv_iload hx hb dX4_hashWithSilo_6 (lv_at hl 1 rfl) ?_
  refine lv_iconst (v := 5) hx hb dX4_hashWithSilo_8 (by decide) ?_
  refine lv_icmp_gt (tgt := 35) hx hb dX4_hashWithSilo_9 (by decide) (fun c_9 => ?_) (fun c_9 => ?_)
  · skip
    have c_9 : 5 < v := (nI_ltI (a := 5) (b := v) (by omega) (by omega)).mp c_9
    refine lv_aload_n hx hb dX4_hashWithSilo_35 rfl (lv_at hl 2 rfl) ?_
    refine g_get (ci := 4) (C := RX4) (T := TX4) (M := 8) hx hb hts hinX4 hown hK hG (by omega) cW_o rfl 0 (by decide) hf10 rfl rfl dX4_hashWithSilo_36 ?_
    refine g_get (ci := 3) (C := RX3) (T := TX3) (M := 9) hx hb hts hinX3 hown hK hG (by omega) cW_yo rfl 0 (by decide) hf94 rfl rfl dX4_hashWithSilo_39 ?_
    refine lv_iload_n hx hb dX4_hashWithSilo_42 rfl (lv_at hl 4 rfl) ?_
    refine g_aald (j := 1 + 4 + 3 * k) hx hb hK hG (by omega) cW_ys (t0 := 1) rfl (k := k) rfl (by omega) (by decide) rfl dX4_hashWithSilo_43 ?_
    refine g_get (ci := 1) (C := RX1) (T := TX1) (M := 6) hx hb hts hinX1 hown hK hG (by omega) (cW_so (k := k) (by omega)) rfl 2 (by decide) hf125 rfl rfl dX4_hashWithSilo_44 ?_
    refine lv_istore (lv' := [(6, .int (nI (sN (yS (cY C) k)))), (4, .long (d_S (cY C) k h v)), (0, .ref (L 0)), (1, .long h), (3, .int (nI k))]) hx hb dX4_hashWithSilo_47 hl (by decide) rfl (fun ls hl => ?_)
    refine lv_iconst (v := 0) hx hb dX4_hashWithSilo_49 (by decide) ?_
    refine lv_istore (lv' := [(7, .int 0), (6, .int (nI (sN (yS (cY C) k)))), (4, .long (d_S (cY C) k h v)), (0, .ref (L 0)), (1, .long h), (3, .int (nI k))]) hx hb dX4_hashWithSilo_50 hl (by decide) rfl (fun ls hl => ?_)
    refine W.loop (σ := Nat) (fun j H locs ls => (j ≤ sN (yS (cY C) k)) ∧ GW D N L (gA N L s.heap.size) (cW cy L F C) H ∧ va_S (gA N L s.heap.size) s.heap H locs ∧ lv_has ls 9 [(4, .long (d_L (cY C) k (d_S (cY C) k h 6) j)), (7, .int (nI j)), (6, .int (nI (sN (yS (cY C) k)))), (0, .ref (L 0)), (1, .long h), (3, .int (nI k))]) (fun j => sN (yS (cY C) k) - j) 0 ⟨by omega, hG.to (rfl), hS, lv_to (lv_sub hl [2, 0, 1, 3, 4, 5] rfl) (by rw [show v = 6 by omega]; rfl)⟩ ?_
    intro j H locs ls hP9 ih52
    obtain ⟨hj9, hG, hS, hl⟩ := hP9
    refine lv_iload hx hb dX4_hashWithSilo_52 (lv_at hl 1 rfl) ?_
    refine lv_iload hx hb dX4_hashWithSilo_54 (lv_at hl 2 rfl) ?_
    refine lv_icmp_ge (tgt := 99) hx hb dX4_hashWithSilo_56 (by decide) (fun c_56 => ?_) (fun c_56 => ?_)
    · skip
      have c_56 : (sN (yS (cY C) k)) ≤ j := (nI_leI (a := sN (yS (cY C) k)) (b := j) (by omega) (by omega)).mp c_56
      refine lv_ldc2 (v := 31) hx hb hown (hts (.constantLong RX4 268 31) (by decide +kernel)) dX4_hashWithSilo_99 ?_
      refine lv_lload hx hb dX4_hashWithSilo_102 (lv_at hl 0 rfl) ?_
      refine lv_lmul hx hb dX4_hashWithSilo_104 ?_
      refine lv_aload_n hx hb dX4_hashWithSilo_105 rfl (lv_at hl 3 rfl) ?_
      refine lv_iload_n hx hb dX4_hashWithSilo_106 rfl (lv_at hl 5 rfl) ?_
      refine g_cVi (As := [.int (nI k)]) (rest := [.long (31 * (d_L (cY C) k (d_S (cY C) k h 6) j))]) hx hb hml hown hts hK hA hG hS (k_X4_shakesNeeded_ok l D cy N L _ (by omega) C k (hy) (by omega) (hn1)) (cwV 1 hts gX4_hashWithSilo_X4_shakesNeeded rfl rfl rfl (by decide +kernel) ⟨Nat.le_of_ble_eq_true rfl, Nat.le_of_ble_eq_true rfl⟩) (by omega) cW_o (ci := 4) rfl rfl rfl rfl hl.1 (Nat.le_of_ble_eq_true rfl) dX4_hashWithSilo_107 ⟨Nat.zero_le _, Nat.zero_le _⟩ (fun H locs hG hS => ?_)
      refine lv_i2l hx hb dX4_hashWithSilo_110 rfl ?_
      refine lv_ladd hx hb dX4_hashWithSilo_111 ?_
      refine lv_lstore (lv' := [(4, .long ((31 * (d_L (cY C) k (d_S (cY C) k h 6) j)) + ((c_brk (yZ (cY C)) (yS (cY C) k)).toInt64))), (7, .int (nI j)), (6, .int (nI (sN (yS (cY C) k)))), (0, .ref (L 0)), (1, .long h), (3, .int (nI k))]) hx hb dX4_hashWithSilo_112 hl (by decide) rfl (fun ls hl => ?_)
      refine lv_ldc2 (v := 31) hx hb hown (hts (.constantLong RX4 268 31) (by decide +kernel)) dX4_hashWithSilo_114 ?_
      refine lv_lload hx hb dX4_hashWithSilo_117 (lv_at hl 0 rfl) ?_
      refine lv_lmul hx hb dX4_hashWithSilo_119 ?_
      refine lv_aload_n hx hb dX4_hashWithSilo_120 rfl (lv_at hl 3 rfl) ?_
      refine lv_iload_n hx hb dX4_hashWithSilo_121 rfl (lv_at hl 5 rfl) ?_
      refine lv_iconst (v := 0) hx hb dX4_hashWithSilo_122 (by decide) ?_
      refine g_cVi (As := [.int (nI k), .int 0]) (rest := [.long (31 * ((31 * (d_L (cY C) k (d_S (cY C) k h 6) j)) + ((c_brk (yZ (cY C)) (yS (cY C) k)).toInt64)))]) hx hb hml hown hts hK hA hG hS (k_X4_whyNot_ok l D cy N L _ (by omega) C k 0 (hy) (by omega) (by omega)) (cwV 2 hts gX4_hashWithSilo_X4_whyNot rfl rfl rfl (by decide +kernel) ⟨Nat.le_of_ble_eq_true rfl, Nat.le_of_ble_eq_true rfl⟩) (by omega) cW_o (ci := 4) rfl rfl rfl rfl hl.1 (Nat.le_of_ble_eq_true rfl) dX4_hashWithSilo_123 ⟨Nat.zero_le _, Nat.zero_le _⟩ (fun H locs hG hS => ?_)
      refine lv_i2l hx hb dX4_hashWithSilo_126 rfl ?_
      refine lv_ladd hx hb dX4_hashWithSilo_127 ?_
      refine lv_lstore (lv' := [(4, .long ((31 * ((31 * (d_L (cY C) k (d_S (cY C) k h 6) j)) + ((c_brk (yZ (cY C)) (yS (cY C) k)).toInt64))) + ((y_why (cY C) k 0).toInt64))), (7, .int (nI j)), (6, .int (nI (sN (yS (cY C) k)))), (0, .ref (L 0)), (1, .long h), (3, .int (nI k))]) hx hb dX4_hashWithSilo_128 hl (by decide) rfl (fun ls hl => ?_)
      refine lv_ldc2 (v := 31) hx hb hown (hts (.constantLong RX4 268 31) (by decide +kernel)) dX4_hashWithSilo_130 ?_
      refine lv_lload hx hb dX4_hashWithSilo_133 (lv_at hl 0 rfl) ?_
      refine lv_lmul hx hb dX4_hashWithSilo_135 ?_
      refine lv_aload_n hx hb dX4_hashWithSilo_136 rfl (lv_at hl 3 rfl) ?_
      refine lv_iload_n hx hb dX4_hashWithSilo_137 rfl (lv_at hl 5 rfl) ?_
      refine lv_iconst (v := 0) hx hb dX4_hashWithSilo_138 (by decide) ?_
      refine lv_iconst (v := 4) hx hb dX4_hashWithSilo_139 (by decide) ?_
      refine lv_iconst (v := 4) hx hb dX4_hashWithSilo_140 (by decide) ?_
      refine g_cVi (As := [.int (nI k), .int 0, .int 4, .int 4]) (rest := [.long (31 * ((31 * ((31 * (d_L (cY C) k (d_S (cY C) k h 6) j)) + ((c_brk (yZ (cY C)) (yS (cY C) k)).toInt64))) + ((y_why (cY C) k 0).toInt64)))]) hx hb hml hown hts hK hA hG hS (k_X4_ifFlowed_ok l D cy N L _ (by omega) C k 0 4 4 (hy) (by omega) (by omega) (by omega) (by omega) (by decide) (by decide)) (cwV 4 hts gX4_hashWithSilo_X4_ifFlowed rfl rfl rfl (by decide +kernel) ⟨Nat.le_of_ble_eq_true rfl, Nat.le_of_ble_eq_true rfl⟩) (by omega) cW_o (ci := 4) rfl rfl rfl rfl hl.1 (Nat.le_of_ble_eq_true rfl) dX4_hashWithSilo_141 ⟨Nat.zero_le _, Nat.zero_le _⟩ (fun H locs hG hS => ?_)
      refine lv_i2l hx hb dX4_hashWithSilo_144 rfl ?_
      refine lv_ladd hx hb dX4_hashWithSilo_145 ?_
      exact g_lret hx hb hr hlocks hK hG hS dX4_hashWithSilo_146 ⟨(congrArg (fun z9 => some (Value.long z9)) (by rw [show j = sN (yS (cY C) k) by omega]; rfl)), rfl⟩
    · skip
      have c_56 : ¬ (sN (yS (cY C) k)) ≤ j := fun h9 => c_56 ((nI_leI (a := sN (yS (cY C) k)) (b := j) (by omega) (by omega)).mpr h9)
      refine lv_iconst (v := 0) hx hb dX4_hashWithSilo_59 (by decide) ?_
      refine lv_istore (lv' := [(8, .int 0), (4, .long (d_L (cY C) k (d_S (cY C) k h 6) j)), (7, .int (nI j)), (6, .int (nI (sN (yS (cY C) k)))), (0, .ref (L 0)), (1, .long h), (3, .int (nI k))]) hx hb dX4_hashWithSilo_60 hl (by decide) rfl (fun ls hl => ?_)
      refine W.loop (σ := Nat) (fun v H locs ls => (v ≤ 3) ∧ GW D N L (gA N L s.heap.size) (cW cy L F C) H ∧ va_S (gA N L s.heap.size) s.heap H locs ∧ lv_has ls 9 [(4, .long (d_L1 (cY C) k j (d_L (cY C) k (d_S (cY C) k h 6) j) v)), (8, .int (nI v)), (7, .int (nI j)), (6, .int (nI (sN (yS (cY C) k)))), (0, .ref (L 0)), (1, .long h), (3, .int (nI k))]) (fun v => 3 - v) 0 ⟨by omega, hG.to (rfl), hS, lv_to (lv_sub hl [1, 0, 2, 3, 4, 5, 6] rfl) (rfl)⟩ ?_
      intro v H locs ls hP9 ih62
      obtain ⟨hv8, hG, hS, hl⟩ := hP9
      refine lv_iload hx hb dX4_hashWithSilo_62 (lv_at hl 1 rfl) ?_
      refine lv_iconst (v := 2) hx hb dX4_hashWithSilo_64 (by decide) ?_
      refine lv_icmp_gt (tgt := 93) hx hb dX4_hashWithSilo_65 (by decide) (fun c_65 => ?_) (fun c_65 => ?_)
      · skip
        have c_65 : 2 < v := (nI_ltI (a := 2) (b := v) (by omega) (by omega)).mp c_65
        refine lv_iinc (v := nI (j + 1)) (lv' := [(7, .int (nI (j + 1))), (4, .long (d_L1 (cY C) k j (d_L (cY C) k (d_S (cY C) k h 6) j) v)), (8, .int (nI v)), (6, .int (nI (sN (yS (cY C) k)))), (0, .ref (L 0)), (1, .long h), (3, .int (nI k))]) hx hb dX4_hashWithSilo_93 hl (k := 2) rfl (nI_add j 1) (by decide) rfl (fun ls hl => ?_)
        refine lv_goto (tgt := 52) hx hb dX4_hashWithSilo_96 (by decide) ?_
        have hl : lv_has ls 9 [(4, .long (d_L1 (cY C) k j (d_L (cY C) k (d_S (cY C) k h 6) j) v)), (7, .int (nI (j + 1))), (6, .int (nI (sN (yS (cY C) k)))), (0, .ref (L 0)), (1, .long h), (3, .int (nI k))] := lv_sub hl [1, 0, 3, 4, 5, 6] rfl
        exact ih52 (j + 1) _ _ _ (by omega) ⟨by omega, hG.to (rfl), hS, lv_to hl (by rw [show v = 3 by omega]; rfl)⟩
      · skip
        have c_65 : ¬ 2 < v := fun h9 => c_65 ((nI_ltI (a := 2) (b := v) (by omega) (by omega)).mpr h9)
        refine lv_ldc2 (v := 31) hx hb hown (hts (.constantLong RX4 268 31) (by decide +kernel)) dX4_hashWithSilo_68 ?_
        refine lv_lload hx hb dX4_hashWithSilo_71 (lv_at hl 0 rfl) ?_
        refine lv_lmul hx hb dX4_hashWithSilo_73 ?_
        refine lv_aload_n hx hb dX4_hashWithSilo_74 rfl (lv_at hl 4 rfl) ?_
        refine lv_iload_n hx hb dX4_hashWithSilo_75 rfl (lv_at hl 6 rfl) ?_
        refine lv_iload hx hb dX4_hashWithSilo_76 (lv_at hl 2 rfl) ?_
        refine lv_iload hx hb dX4_hashWithSilo_78 (lv_at hl 1 rfl) ?_
        refine g_cVi (As := [.int (nI k), .int (nI j), .int (nI v)]) (rest := [.long (31 * (d_L1 (cY C) k j (d_L (cY C) k (d_S (cY C) k h 6) j) v))]) hx hb hml hown hts hK hA hG hS (k_X4_layer_ok l D cy N L _ (by omega) C k j (nI v) (hy) (by omega) (by omega) (by rcases (show v = 0 ∨ v = 1 ∨ v = 2 by omega) with rfl | rfl | rfl <;> decide)) (cwV 3 hts gX4_hashWithSilo_X4_layer rfl rfl rfl (by decide +kernel) ⟨Nat.le_of_ble_eq_true rfl, Nat.le_of_ble_eq_true rfl⟩) (by omega) cW_o (ci := 4) rfl rfl rfl rfl hl.1 (Nat.le_of_ble_eq_true rfl) dX4_hashWithSilo_80 ⟨Nat.zero_le _, Nat.zero_le _⟩ (fun H locs hG hS => ?_)
        refine lv_i2l hx hb dX4_hashWithSilo_83 rfl ?_
        refine lv_ladd hx hb dX4_hashWithSilo_84 ?_
        refine lv_lstore (lv' := [(4, .long ((31 * (d_L1 (cY C) k j (d_L (cY C) k (d_S (cY C) k h 6) j) v)) + ((y_tellL (cY C) k j (nI v)).toInt64))), (8, .int (nI v)), (7, .int (nI j)), (6, .int (nI (sN (yS (cY C) k)))), (0, .ref (L 0)), (1, .long h), (3, .int (nI k))]) hx hb dX4_hashWithSilo_85 hl (by decide) rfl (fun ls hl => ?_)
        refine lv_iinc (v := nI (v + 1)) (lv' := [(8, .int (nI (v + 1))), (4, .long ((31 * (d_L1 (cY C) k j (d_L (cY C) k (d_S (cY C) k h 6) j) v)) + ((y_tellL (cY C) k j (nI v)).toInt64))), (7, .int (nI j)), (6, .int (nI (sN (yS (cY C) k)))), (0, .ref (L 0)), (1, .long h), (3, .int (nI k))]) hx hb dX4_hashWithSilo_87 hl (k := 1) rfl (nI_add v 1) (by decide) rfl (fun ls hl => ?_)
        refine lv_goto (tgt := 62) hx hb dX4_hashWithSilo_90 (by decide) ?_
        have hl : lv_has ls 9 [(4, .long ((31 * (d_L1 (cY C) k j (d_L (cY C) k (d_S (cY C) k h 6) j) v)) + ((y_tellL (cY C) k j (nI v)).toInt64))), (8, .int (nI (v + 1))), (7, .int (nI j)), (6, .int (nI (sN (yS (cY C) k)))), (0, .ref (L 0)), (1, .long h), (3, .int (nI k))] := lv_sub hl [1, 0, 2, 3, 4, 5, 6] rfl
        exact ih62 (v + 1) _ _ _ (by omega) ⟨by omega, hG.to (rfl), hS, lv_to hl (rfl)⟩
  · skip
    have c_9 : ¬ 5 < v := fun h9 => c_9 ((nI_ltI (a := 5) (b := v) (by omega) (by omega)).mpr h9)
    refine lv_ldc2 (v := 31) hx hb hown (hts (.constantLong RX4 268 31) (by decide +kernel)) dX4_hashWithSilo_12 ?_
    refine lv_lload hx hb dX4_hashWithSilo_15 (lv_at hl 0 rfl) ?_
    refine lv_lmul hx hb dX4_hashWithSilo_17 ?_
    refine lv_aload_n hx hb dX4_hashWithSilo_18 rfl (lv_at hl 2 rfl) ?_
    refine lv_iload_n hx hb dX4_hashWithSilo_19 rfl (lv_at hl 4 rfl) ?_
    refine lv_iload hx hb dX4_hashWithSilo_20 (lv_at hl 1 rfl) ?_
    refine g_cVi (As := [.int (nI k), .int (nI v)]) (rest := [.long (31 * (d_S (cY C) k h v))]) hx hb hml hown hts hK hA hG hS (k_X4_silo_ok l D cy N L _ (by omega) C k (nI v) (hy) (by omega) (by rcases (show v = 0 ∨ v = 1 ∨ v = 2 ∨ v = 3 ∨ v = 4 ∨ v = 5 by omega) with rfl | rfl | rfl | rfl | rfl | rfl <;> decide)) (cwV 2 hts gX4_hashWithSilo_X4_silo rfl rfl rfl (by decide +kernel) ⟨Nat.le_of_ble_eq_true rfl, Nat.le_of_ble_eq_true rfl⟩) (by omega) cW_o (ci := 4) rfl rfl rfl rfl hl.1 (Nat.le_of_ble_eq_true rfl) dX4_hashWithSilo_22 ⟨Nat.zero_le _, Nat.zero_le _⟩ (fun H locs hG hS => ?_)
    refine lv_i2l hx hb dX4_hashWithSilo_25 rfl ?_
    refine lv_ladd hx hb dX4_hashWithSilo_26 ?_
    refine lv_lstore (lv' := [(4, .long ((31 * (d_S (cY C) k h v)) + ((y_tellS (cY C) k (nI v)).toInt64))), (6, .int (nI v)), (0, .ref (L 0)), (1, .long h), (3, .int (nI k))]) hx hb dX4_hashWithSilo_27 hl (by decide) rfl (fun ls hl => ?_)
    refine lv_iinc (v := nI (v + 1)) (lv' := [(6, .int (nI (v + 1))), (4, .long ((31 * (d_S (cY C) k h v)) + ((y_tellS (cY C) k (nI v)).toInt64))), (0, .ref (L 0)), (1, .long h), (3, .int (nI k))]) hx hb dX4_hashWithSilo_29 hl (k := 1) rfl (nI_add v 1) (by decide) rfl (fun ls hl => ?_)
    refine lv_goto (tgt := 6) hx hb dX4_hashWithSilo_32 (by decide) ?_
    have hl : lv_has ls 9 [(4, .long ((31 * (d_S (cY C) k h v)) + ((y_tellS (cY C) k (nI v)).toInt64))), (6, .int (nI (v + 1))), (0, .ref (L 0)), (1, .long h), (3, .int (nI k))] := lv_sub hl [1, 0, 2, 3, 4] rfl
    exact ih6 (v + 1) _ _ _ (by omega) ⟨by omega, hG.to (rfl), hS, lv_to hl (rfl)⟩
set_option maxHeartbeats 4000000 in
set_option maxRecDepth 100000 in
theorem k_X4_bitsOfShare_zero (l : Launch) (D : va_G) (cy : Nat → ClassId) (N : Nat) (L : Nat → Nat) (F : Nat → va_E) (x : UInt64) (hz : ¬ 0 < Op.cmpValue (FP.dcmp x FP.dconst0) .g) : GM l D cy N L yX4_bitsOfShare wsX4_bitsOfShare ({ frames := 0, cells := 0, slots := 0, locals := 0 }) [.double x] (F) (some (.long 0)) (F) := by
  refine GM.ofW (cc := cX4_bitsOfShare) (maxL := 7) (ret := (some .long)) (by decide) rfl (Nat.le_of_ble_eq_true rfl) ?_
  intro p e s m below meth c ls hx hb hr hts hown hlocks hml hK hA hG hS hl
  have hl : lv_has ls 7 [(0, .double x)] := hl
  refine lv_dload_n hx hb dX4_bitsOfShare_0 rfl (lv_at hl 0 rfl) ?_
  refine lv_dconst0 hx hb dX4_bitsOfShare_1 ?_
  refine lv_dcmp hx hb dX4_bitsOfShare_2 ?_
  refine lv_if_gt (tgt := 8) hx hb dX4_bitsOfShare_3 (by decide) (fun c_3 => ?_) (fun c_3 => ?_)
  · skip
    exact absurd c_3 hz
  · skip
    refine lv_lconst (v := 0) hx hb dX4_bitsOfShare_6 (by decide) ?_
    exact g_lret hx hb hr hlocks hK hG hS dX4_bitsOfShare_7 ⟨rfl, rfl⟩
set_option maxHeartbeats 4000000 in
set_option maxRecDepth 100000 in
theorem k_X4_bitsOfShare_pos (l : Launch) (D : va_G) (cy : Nat → ClassId) (N : Nat) (L : Nat → Nat) (F : Nat → va_E) (x : UInt64) (w9 : Nat) (hz : 0 < Op.cmpValue (FP.dcmp x FP.dconst0) .g) (hm : w9 ≤ 1022) (hlt : ∀ i, i < w9 → ¬ 0 ≤ Op.cmpValue (FP.dcmp (b_h x i) FP.dconst1) .g) (hge : w9 = 1022 ∨ 0 ≤ Op.cmpValue (FP.dcmp (b_h x w9) FP.dconst1) .g) (hn : ∀ i, i < w9 → vf_n64 (b_h x (i + 1))) (hn1 : vf_n64 (FP.dsub (b_h x w9) FP.dconst1)) (hn2 : vf_n64 (FP.dmul (FP.dsub (b_h x w9) FP.dconst1) 4841369599423283200)) : GM l D cy N L yX4_bitsOfShare wsX4_bitsOfShare ({ frames := 0, cells := 0, slots := 0, locals := 0 }) [.double x] (F) (some (.long (b_v x w9))) (F) := by
  refine GM.ofW (cc := cX4_bitsOfShare) (maxL := 7) (ret := (some .long)) (by decide) rfl (Nat.le_of_ble_eq_true rfl) ?_
  intro p e s m below meth c ls hx hb hr hts hown hlocks hml hK hA hG hS hl
  have hl : lv_has ls 7 [(0, .double x)] := hl
  refine lv_dload_n hx hb dX4_bitsOfShare_0 rfl (lv_at hl 0 rfl) ?_
  refine lv_dconst0 hx hb dX4_bitsOfShare_1 ?_
  refine lv_dcmp hx hb dX4_bitsOfShare_2 ?_
  refine lv_if_gt (tgt := 8) hx hb dX4_bitsOfShare_3 (by decide) (fun c_3 => ?_) (fun c_3 => ?_)
  · skip
    refine lv_dload_n hx hb dX4_bitsOfShare_8 rfl (lv_at hl 0 rfl) ?_
    refine lv_dstore_n (lv' := [(2, .double x), (0, .double x)]) hx hb dX4_bitsOfShare_9 rfl hl (by decide) rfl (fun ls hl => ?_)
    refine lv_ldc2 (v := 1023) hx hb hown (hts (.constantLong RX4 354 1023) (by decide +kernel)) dX4_bitsOfShare_10 ?_
    refine lv_lstore (lv' := [(4, .long 1023), (2, .double x), (0, .double x)]) hx hb dX4_bitsOfShare_13 hl (by decide) rfl (fun ls hl => ?_)
    refine lv_iconst (v := 0) hx hb dX4_bitsOfShare_15 (by decide) ?_
    refine lv_istore (lv' := [(6, .int 0), (4, .long 1023), (2, .double x), (0, .double x)]) hx hb dX4_bitsOfShare_16 hl (by decide) rfl (fun ls hl => ?_)
    refine W.loop (σ := Nat) (fun i H locs ls => (i ≤ w9) ∧ GW D N L (gA N L s.heap.size) (F) H ∧ va_S (gA N L s.heap.size) s.heap H locs ∧ lv_has ls 7 [(2, .double (b_h x i)), (4, .long (b_e i)), (6, .int (nI i)), (0, .double x)]) (fun i => 1022 - i) 0 ⟨by omega, hG.to (rfl), hS, lv_to (lv_sub hl [2, 1, 0, 3] rfl) (rfl)⟩ ?_
    intro i H locs ls hP9 ih18
    obtain ⟨hi9, hG, hS, hl⟩ := hP9
    refine lv_iload hx hb dX4_bitsOfShare_18 (lv_at hl 2 rfl) ?_
    refine lv_sipush (v := 1022) hx hb dX4_bitsOfShare_20 (by decide) ?_
    refine lv_icmp_ge (tgt := 50) hx hb dX4_bitsOfShare_23 (by decide) (fun c_23 => ?_) (fun c_23 => ?_)
    · skip
      have c_23 : 1022 ≤ i := (nI_leI (a := 1022) (b := i) (by omega) (by omega)).mp c_23
      have him : i = w9 := by omega
      refine lv_lload hx hb dX4_bitsOfShare_50 (lv_at hl 1 rfl) ?_
      refine lv_bipush (v := 52) hx hb dX4_bitsOfShare_52 (by decide) ?_
      refine lv_lshl hx hb dX4_bitsOfShare_54 rfl ?_
      refine lv_dload_n hx hb dX4_bitsOfShare_55 rfl (lv_at hl 0 rfl) ?_
      refine lv_dconst1 hx hb dX4_bitsOfShare_56 ?_
      refine lv_dsub hx hb dX4_bitsOfShare_57 (by rw [him]; exact hn1) ?_
      refine lv_ldc2d (v := 4841369599423283200) hx hb hown (hts (.constantDouble RX4 358 4841369599423283200) (by decide +kernel)) dX4_bitsOfShare_58 ?_
      refine lv_dmul hx hb dX4_bitsOfShare_61 (by rw [him]; exact hn2) ?_
      refine lv_d2l hx hb dX4_bitsOfShare_62 ?_
      refine lv_ladd hx hb dX4_bitsOfShare_63 ?_
      exact g_lret hx hb hr hlocks hK hG hS dX4_bitsOfShare_64 ⟨(congrArg (fun z9 => some (Value.long z9)) (by rw [him]; rfl)), rfl⟩
    · skip
      have c_23 : ¬ 1022 ≤ i := fun h9 => c_23 ((nI_leI (a := 1022) (b := i) (by omega) (by omega)).mpr h9)
      refine lv_dload_n hx hb dX4_bitsOfShare_26 rfl (lv_at hl 0 rfl) ?_
      refine lv_dconst1 hx hb dX4_bitsOfShare_27 ?_
      refine lv_dcmp hx hb dX4_bitsOfShare_28 ?_
      refine lv_if_ge (tgt := 50) hx hb dX4_bitsOfShare_29 (by decide) (fun c_29 => ?_) (fun c_29 => ?_)
      · skip
        have him : i = w9 := Nat.le_antisymm hi9 (Nat.le_of_not_lt (fun h9 => hlt i h9 c_29))
        refine lv_lload hx hb dX4_bitsOfShare_50 (lv_at hl 1 rfl) ?_
        refine lv_bipush (v := 52) hx hb dX4_bitsOfShare_52 (by decide) ?_
        refine lv_lshl hx hb dX4_bitsOfShare_54 rfl ?_
        refine lv_dload_n hx hb dX4_bitsOfShare_55 rfl (lv_at hl 0 rfl) ?_
        refine lv_dconst1 hx hb dX4_bitsOfShare_56 ?_
        refine lv_dsub hx hb dX4_bitsOfShare_57 (by rw [him]; exact hn1) ?_
        refine lv_ldc2d (v := 4841369599423283200) hx hb hown (hts (.constantDouble RX4 358 4841369599423283200) (by decide +kernel)) dX4_bitsOfShare_58 ?_
        refine lv_dmul hx hb dX4_bitsOfShare_61 (by rw [him]; exact hn2) ?_
        refine lv_d2l hx hb dX4_bitsOfShare_62 ?_
        refine lv_ladd hx hb dX4_bitsOfShare_63 ?_
        exact g_lret hx hb hr hlocks hK hG hS dX4_bitsOfShare_64 ⟨(congrArg (fun z9 => some (Value.long z9)) (by rw [him]; rfl)), rfl⟩
      · skip
        have him : i < w9 := by
          rcases Nat.lt_or_ge i w9 with h9 | h9
          · exact h9
          · exfalso
            have h7 : i = w9 := by omega
            subst h7
            rcases hge with h8 | h8
            · omega
            · exact c_29 h8
        refine lv_dload_n hx hb dX4_bitsOfShare_32 rfl (lv_at hl 0 rfl) ?_
        refine lv_ldc2d (v := 4611686018427387904) hx hb hown (hts (.constantDouble RX4 356 4611686018427387904) (by decide +kernel)) dX4_bitsOfShare_33 ?_
        refine lv_dmul hx hb dX4_bitsOfShare_36 (hn i him) ?_
        refine lv_dstore_n (lv' := [(2, .double (FP.dmul (b_h x i) 4611686018427387904)), (4, .long (b_e i)), (6, .int (nI i)), (0, .double x)]) hx hb dX4_bitsOfShare_37 rfl hl (by decide) rfl (fun ls hl => ?_)
        refine lv_lload hx hb dX4_bitsOfShare_38 (lv_at hl 1 rfl) ?_
        refine lv_lconst (v := 1) hx hb dX4_bitsOfShare_40 (by decide) ?_
        refine lv_lsub hx hb dX4_bitsOfShare_41 ?_
        refine lv_lstore (lv' := [(4, .long ((b_e i) - 1)), (2, .double (FP.dmul (b_h x i) 4611686018427387904)), (6, .int (nI i)), (0, .double x)]) hx hb dX4_bitsOfShare_42 hl (by decide) rfl (fun ls hl => ?_)
        refine lv_iinc (v := nI (i + 1)) (lv' := [(6, .int (nI (i + 1))), (4, .long ((b_e i) - 1)), (2, .double (FP.dmul (b_h x i) 4611686018427387904)), (0, .double x)]) hx hb dX4_bitsOfShare_44 hl (k := 2) rfl (nI_add i 1) (by decide) rfl (fun ls hl => ?_)
        refine lv_goto (tgt := 18) hx hb dX4_bitsOfShare_47 (by decide) ?_
        have hl : lv_has ls 7 [(2, .double (FP.dmul (b_h x i) 4611686018427387904)), (4, .long ((b_e i) - 1)), (6, .int (nI (i + 1))), (0, .double x)] := lv_sub hl [2, 1, 0, 3] rfl
        exact ih18 (i + 1) _ _ _ (by omega) ⟨by omega, hG.to (rfl), hS, lv_to hl (rfl)⟩
  · skip
    exact absurd hz c_3
set_option maxHeartbeats 4000000 in
set_option maxRecDepth 100000 in
theorem k_X4_digest_zero (l : Launch) (D : va_G) (cy : Nat → ClassId) (N : Nat) (L : Nat → Nat) (F : Nat → va_E) (hN : 162 ≤ N) (C : CT)  (hy : wfY (cY C)) (hl60 : cL C ≤ 60) (hn1 : ∀ k, k < 4 → 1 ≤ sN (yS (cY C) k) ∨ sC (yS (cY C) k) = 2 ∨ sC (yS (cY C) k) = 0) (hf : ¬ y_silos (cY C) 4 = 0 → vf_n64 (FP.ddiv (FP.i2d (y_soft (cY C) 4)) (FP.i2d (y_silos (cY C) 4)))) (hz : ¬ 0 < Op.cmpValue (FP.dcmp (y_softD (cY C)) FP.dconst0) .g) : GM l D cy N L yX4_digest wsX4_digest ({ frames := 9, cells := 0, slots := 0, locals := 202 }) [.ref (L 0)] (cW cy L F C) (some (.long (d_2 C 3533 (0)))) (cW cy L F (cY C, cV C, cM C, cQ C, cB C, cL C, cR C, cT (d_C C 4), cU (d_C C 4))) := by
  refine GM.ofW (cc := cX4_digest) (maxL := 4) (ret := (some .long)) (by decide) rfl (Nat.le_of_ble_eq_true rfl) ?_
  intro p e s m below meth c ls hx hb hr hts hown hlocks hml hK hA hG hS hl
  have hl : lv_has ls 4 [(0, .ref (L 0))] := hl
  have hf28 := hts (.fieldLink RX4 28 "SiloPads" "length" "I") (by decide +kernel)
  have hinX4 : ∀ w ∈ u_ws RX4 TX4 8, w ∈ wsX4_digest := by decide +kernel
  have hf24 := hts (.fieldLink RX4 24 "SiloPads" "codes" "[I") (by decide +kernel)
  refine lv_ldc2 (v := 3533) hx hb hown (hts (.constantLong RX4 266 3533) (by decide +kernel)) dX4_digest_0 ?_
  refine lv_lstore_n (lv' := [(1, .long 3533), (0, .ref (L 0))]) hx hb dX4_digest_3 rfl hl (by decide) rfl (fun ls hl => ?_)
  refine lv_iconst (v := 0) hx hb dX4_digest_4 (by decide) ?_
  refine lv_istore_n (lv' := [(3, .int 0), (1, .long 3533), (0, .ref (L 0))]) hx hb dX4_digest_5 rfl hl (by decide) rfl (fun ls hl => ?_)
  refine W.loop (σ := Nat) (fun v H locs ls => (v ≤ 15) ∧ GW D N L (gA N L s.heap.size) (cW cy L F C) H ∧ va_S (gA N L s.heap.size) s.heap H locs ∧ lv_has ls 4 [(1, .long (d_N C 3533 v)), (3, .int (nI v)), (0, .ref (L 0))]) (fun v => 15 - v) 0 ⟨by omega, hG.to (rfl), hS, lv_to (lv_sub hl [1, 0, 2] rfl) (rfl)⟩ ?_
  intro v H locs ls hP9 ih6
  obtain ⟨hv9, hG, hS, hl⟩ := hP9
  refine lv_iload_n hx hb dX4_digest_6 rfl (lv_at hl 1 rfl) ?_
  refine lv_bipush (v := 14) hx hb dX4_digest_7 (by decide) ?_
  refine lv_icmp_gt (tgt := 31) hx hb dX4_digest_9 (by decide) (fun c_9 => ?_) (fun c_9 => ?_)
  · skip
    have c_9 : 14 < v := (nI_ltI (a := 14) (b := v) (by omega) (by omega)).mp c_9
    refine lv_iconst (v := 0) hx hb dX4_digest_31 (by decide) ?_
    refine lv_istore_n (lv' := [(3, .int 0), (1, .long (d_N C 3533 v)), (0, .ref (L 0))]) hx hb dX4_digest_32 rfl hl (by decide) rfl (fun ls hl => ?_)
    refine W.loop (σ := Nat) (fun k H locs ls => (k ≤ 4) ∧ GW D N L (gA N L s.heap.size) (cW cy L F (cY C, cV C, cM C, cQ C, cB C, cL C, cR C, cT (d_C C k), cU (d_C C k))) H ∧ va_S (gA N L s.heap.size) s.heap H locs ∧ lv_has ls 4 [(1, .long (d_K C (d_N C 3533 15) k)), (3, .int (nI k)), (0, .ref (L 0))]) (fun k => 4 - k) 0 ⟨by omega, hG.to (rfl), hS, lv_to (lv_sub hl [1, 0, 2] rfl) (by rw [show v = 15 by omega]; rfl)⟩ ?_
    intro k H locs ls hP9 ih33
    obtain ⟨hk9, hG, hS, hl⟩ := hP9
    refine lv_iload_n hx hb dX4_digest_33 rfl (lv_at hl 1 rfl) ?_
    refine lv_iconst (v := 4) hx hb dX4_digest_34 (by decide) ?_
    refine lv_icmp_ge (tgt := 51) hx hb dX4_digest_35 (by decide) (fun c_35 => ?_) (fun c_35 => ?_)
    · skip
      have c_35 : 4 ≤ k := (nI_leI (a := 4) (b := k) (by omega) (by omega)).mp c_35
      refine lv_iconst (v := 0) hx hb dX4_digest_51 (by decide) ?_
      refine lv_istore_n (lv' := [(3, .int 0), (1, .long (d_K C (d_N C 3533 15) k)), (0, .ref (L 0))]) hx hb dX4_digest_52 rfl hl (by decide) rfl (fun ls hl => ?_)
      refine W.loop (σ := Nat) (fun j H locs ls => (j ≤ 6) ∧ GW D N L (gA N L s.heap.size) (cW cy L F (cY C, cV C, cM C, cQ C, cB C, cL C, cR C, cT (d_C C 4), cU (d_C C 4))) H ∧ va_S (gA N L s.heap.size) s.heap H locs ∧ lv_has ls 4 [(1, .long (d_J C (d_K C (d_N C 3533 15) 4) j)), (3, .int (nI j)), (0, .ref (L 0))]) (fun j => 6 - j) 0 ⟨by omega, hG.to (by rw [show k = 4 by omega]), hS, lv_to (lv_sub hl [1, 0, 2] rfl) (by rw [show k = 4 by omega]; rfl)⟩ ?_
      intro j H locs ls hP9 ih53
      obtain ⟨hj9, hG, hS, hl⟩ := hP9
      refine lv_iload_n hx hb dX4_digest_53 rfl (lv_at hl 1 rfl) ?_
      refine lv_bipush (v := 6) hx hb dX4_digest_54 (by decide) ?_
      refine lv_icmp_ge (tgt := 93) hx hb dX4_digest_56 (by decide) (fun c_56 => ?_) (fun c_56 => ?_)
      · skip
        have c_56 : 6 ≤ j := (nI_leI (a := 6) (b := j) (by omega) (by omega)).mp c_56
        refine lv_ldc2 (v := 31) hx hb hown (hts (.constantLong RX4 268 31) (by decide +kernel)) dX4_digest_93 ?_
        refine lv_lload_n hx hb dX4_digest_96 rfl (lv_at hl 0 rfl) ?_
        refine lv_lmul hx hb dX4_digest_97 ?_
        refine lv_aload_n hx hb dX4_digest_98 rfl (lv_at hl 2 rfl) ?_
        refine g_cVi (As := []) (rest := [.long (31 * (d_J C (d_K C (d_N C 3533 15) 4) j))]) hx hb hml hown hts hK hA hG hS (k_X4_urgent l D cy N L _ (by omega) (cY C, cV C, cM C, cQ C, cB C, cL C, cR C, cT (d_C C 4), cU (d_C C 4))  (hy)) (cwV 0 hts gX4_digest_X4_urgent rfl rfl rfl (by decide +kernel) ⟨Nat.le_of_ble_eq_true rfl, Nat.le_of_ble_eq_true rfl⟩) (by omega) cW_o (ci := 4) rfl rfl rfl rfl hl.1 (Nat.le_of_ble_eq_true rfl) dX4_digest_99 ⟨Nat.zero_le _, Nat.zero_le _⟩ (fun H locs hG hS => ?_)
        refine lv_i2l hx hb dX4_digest_102 rfl ?_
        refine lv_ladd hx hb dX4_digest_103 ?_
        refine lv_lstore_n (lv' := [(1, .long ((31 * (d_J C (d_K C (d_N C 3533 15) 4) j)) + ((g_bestI (y_best (cY (cY C, cV C, cM C, cQ C, cB C, cL C, cR C, cT (d_C C 4), cU (d_C C 4))) 4)).toInt64))), (3, .int (nI j)), (0, .ref (L 0))]) hx hb dX4_digest_104 rfl hl (by decide) rfl (fun ls hl => ?_)
        refine lv_ldc2 (v := 31) hx hb hown (hts (.constantLong RX4 268 31) (by decide +kernel)) dX4_digest_105 ?_
        refine lv_lload_n hx hb dX4_digest_108 rfl (lv_at hl 0 rfl) ?_
        refine lv_lmul hx hb dX4_digest_109 ?_
        refine lv_aload_n hx hb dX4_digest_110 rfl (lv_at hl 2 rfl) ?_
        refine g_cVi (As := []) (rest := [.long (31 * ((31 * (d_J C (d_K C (d_N C 3533 15) 4) j)) + ((g_bestI (y_best (cY (cY C, cV C, cM C, cQ C, cB C, cL C, cR C, cT (d_C C 4), cU (d_C C 4))) 4)).toInt64)))]) hx hb hml hown hts hK hA hG hS (k_X4_nextArch l D cy N L _ (by omega) (cY C, cV C, cM C, cQ C, cB C, cL C, cR C, cT (d_C C 4), cU (d_C C 4))  (hy)) (cwV 0 hts gX4_digest_X4_nextArch rfl rfl rfl (by decide +kernel) ⟨Nat.le_of_ble_eq_true rfl, Nat.le_of_ble_eq_true rfl⟩) (by omega) cW_o (ci := 4) rfl rfl rfl rfl hl.1 (Nat.le_of_ble_eq_true rfl) dX4_digest_111 ⟨Nat.zero_le _, Nat.zero_le _⟩ (fun H locs hG hS => ?_)
        refine lv_i2l hx hb dX4_digest_114 rfl ?_
        refine lv_ladd hx hb dX4_digest_115 ?_
        refine lv_lstore_n (lv' := [(1, .long ((31 * ((31 * (d_J C (d_K C (d_N C 3533 15) 4) j)) + ((g_bestI (y_best (cY (cY C, cV C, cM C, cQ C, cB C, cL C, cR C, cT (d_C C 4), cU (d_C C 4))) 4)).toInt64))) + ((y_next (cY (cY C, cV C, cM C, cQ C, cB C, cL C, cR C, cT (d_C C 4), cU (d_C C 4))) 4).toInt64))), (3, .int (nI j)), (0, .ref (L 0))]) hx hb dX4_digest_116 rfl hl (by decide) rfl (fun ls hl => ?_)
        refine lv_ldc2 (v := 31) hx hb hown (hts (.constantLong RX4 268 31) (by decide +kernel)) dX4_digest_117 ?_
        refine lv_lload_n hx hb dX4_digest_120 rfl (lv_at hl 0 rfl) ?_
        refine lv_lmul hx hb dX4_digest_121 ?_
        refine lv_aload_n hx hb dX4_digest_122 rfl (lv_at hl 2 rfl) ?_
        refine g_cVd (As := []) (rest := [.long (31 * ((31 * ((31 * (d_J C (d_K C (d_N C 3533 15) 4) j)) + ((g_bestI (y_best (cY (cY C, cV C, cM C, cQ C, cB C, cL C, cR C, cT (d_C C 4), cU (d_C C 4))) 4)).toInt64))) + ((y_next (cY (cY C, cV C, cM C, cQ C, cB C, cL C, cR C, cT (d_C C 4), cU (d_C C 4))) 4).toInt64)))]) hx hb hml hown hts hK hA hG hS (k_X4_softness l D cy N L _ (by omega) (cY C, cV C, cM C, cQ C, cB C, cL C, cR C, cT (d_C C 4), cU (d_C C 4))  (hy) (hf)) (cwV 0 hts gX4_digest_X4_softness rfl rfl rfl (by decide +kernel) ⟨Nat.le_of_ble_eq_true rfl, Nat.le_of_ble_eq_true rfl⟩) (by omega) cW_o (ci := 4) rfl rfl rfl rfl hl.1 (Nat.le_of_ble_eq_true rfl) dX4_digest_123 ⟨Nat.zero_le _, Nat.zero_le _⟩ (fun H locs hG hS => ?_)
        refine g_cSl (As := [.double (y_softD (cY (cY C, cV C, cM C, cQ C, cB C, cL C, cR C, cT (d_C C 4), cU (d_C C 4))))]) (rest := [.long (31 * ((31 * ((31 * (d_J C (d_K C (d_N C 3533 15) 4) j)) + ((g_bestI (y_best (cY (cY C, cV C, cM C, cQ C, cB C, cL C, cR C, cT (d_C C 4), cU (d_C C 4))) 4)).toInt64))) + ((y_next (cY (cY C, cV C, cM C, cQ C, cB C, cL C, cR C, cT (d_C C 4), cU (d_C C 4))) 4).toInt64)))]) hx hb hml hown hts hK hA hG hS (k_X4_bitsOfShare_zero l D cy N L _ (y_softD (cY (cY C, cV C, cM C, cQ C, cB C, cL C, cR C, cT (d_C C 4), cU (d_C C 4)))) (hz)) (g_cwS 1 hts gX4_digest_X4_bitsOfShare rfl rfl rfl (by decide +kernel) ⟨Nat.le_of_ble_eq_true rfl, Nat.le_of_ble_eq_true rfl⟩) rfl rfl hl.1 (Nat.le_of_ble_eq_true rfl) dX4_digest_126 ⟨Nat.zero_le _, Nat.zero_le _⟩ (fun H locs hG hS => ?_)
        refine lv_ladd hx hb dX4_digest_129 ?_
        refine lv_lstore_n (lv' := [(1, .long ((31 * ((31 * ((31 * (d_J C (d_K C (d_N C 3533 15) 4) j)) + ((g_bestI (y_best (cY (cY C, cV C, cM C, cQ C, cB C, cL C, cR C, cT (d_C C 4), cU (d_C C 4))) 4)).toInt64))) + ((y_next (cY (cY C, cV C, cM C, cQ C, cB C, cL C, cR C, cT (d_C C 4), cU (d_C C 4))) 4).toInt64))) + 0)), (3, .int (nI j)), (0, .ref (L 0))]) hx hb dX4_digest_130 rfl hl (by decide) rfl (fun ls hl => ?_)
        refine lv_ldc2 (v := 31) hx hb hown (hts (.constantLong RX4 268 31) (by decide +kernel)) dX4_digest_131 ?_
        refine lv_lload_n hx hb dX4_digest_134 rfl (lv_at hl 0 rfl) ?_
        refine lv_lmul hx hb dX4_digest_135 ?_
        refine lv_aload_n hx hb dX4_digest_136 rfl (lv_at hl 2 rfl) ?_
        refine g_get (ci := 4) (C := RX4) (T := TX4) (M := 8) hx hb hts hinX4 hown hK hG (by omega) cW_o rfl 4 (by decide) hf28 rfl rfl dX4_digest_137 ?_
        refine lv_i2l hx hb dX4_digest_140 rfl ?_
        refine lv_ladd hx hb dX4_digest_141 ?_
        refine lv_lstore_n (lv' := [(1, .long ((31 * ((31 * ((31 * ((31 * (d_J C (d_K C (d_N C 3533 15) 4) j)) + ((g_bestI (y_best (cY (cY C, cV C, cM C, cQ C, cB C, cL C, cR C, cT (d_C C 4), cU (d_C C 4))) 4)).toInt64))) + ((y_next (cY (cY C, cV C, cM C, cQ C, cB C, cL C, cR C, cT (d_C C 4), cU (d_C C 4))) 4).toInt64))) + 0)) + ((nI (cL C)).toInt64))), (3, .int (nI j)), (0, .ref (L 0))]) hx hb dX4_digest_142 rfl hl (by decide) rfl (fun ls hl => ?_)
        refine lv_iconst (v := 0) hx hb dX4_digest_143 (by decide) ?_
        refine lv_istore_n (lv' := [(3, .int 0), (1, .long ((31 * ((31 * ((31 * ((31 * (d_J C (d_K C (d_N C 3533 15) 4) j)) + ((g_bestI (y_best (cY (cY C, cV C, cM C, cQ C, cB C, cL C, cR C, cT (d_C C 4), cU (d_C C 4))) 4)).toInt64))) + ((y_next (cY (cY C, cV C, cM C, cQ C, cB C, cL C, cR C, cT (d_C C 4), cU (d_C C 4))) 4).toInt64))) + 0)) + ((nI (cL C)).toInt64))), (0, .ref (L 0))]) hx hb dX4_digest_144 rfl hl (by decide) rfl (fun ls hl => ?_)
        refine W.loop (σ := Nat) (fun i H locs ls => (i ≤ cL C) ∧ GW D N L (gA N L s.heap.size) (cW cy L F (cY C, cV C, cM C, cQ C, cB C, cL C, cR C, cT (d_C C 4), cU (d_C C 4))) H ∧ va_S (gA N L s.heap.size) s.heap H locs ∧ lv_has ls 4 [(1, .long (d_B C (31 * (31 * (31 * (31 * d_1 C 3533 + (g_bestI (y_best (cY C) 4)).toInt64) + (y_next (cY C) 4).toInt64) + 0) + (nI (cL C)).toInt64) i)), (3, .int (nI i)), (0, .ref (L 0))]) (fun i => cL C - i) 0 ⟨by omega, hG.to (rfl), hS, lv_to (lv_sub hl [1, 0, 2] rfl) (by rw [show j = 6 by omega]; rfl)⟩ ?_
        intro i H locs ls hP9 ih145
        obtain ⟨hi9, hG, hS, hl⟩ := hP9
        refine lv_iload_n hx hb dX4_digest_145 rfl (lv_at hl 1 rfl) ?_
        refine lv_aload_n hx hb dX4_digest_146 rfl (lv_at hl 2 rfl) ?_
        refine g_get (ci := 4) (C := RX4) (T := TX4) (M := 8) hx hb hts hinX4 hown hK hG (by omega) cW_o rfl 4 (by decide) hf28 rfl rfl dX4_digest_147 ?_
        refine lv_icmp_ge (tgt := 173) hx hb dX4_digest_150 (by decide) (fun c_150 => ?_) (fun c_150 => ?_)
        · skip
          have c_150 : (cL C) ≤ i := (nI_leI (a := cL C) (b := i) (by omega) (by omega)).mp c_150
          refine lv_lload_n hx hb dX4_digest_173 rfl (lv_at hl 0 rfl) ?_
          exact g_lret hx hb hr hlocks hK hG hS dX4_digest_174 ⟨(congrArg (fun z9 => some (Value.long z9)) (by rw [show i = cL C by omega]; rfl)), rfl⟩
        · skip
          have c_150 : ¬ (cL C) ≤ i := fun h9 => c_150 ((nI_leI (a := cL C) (b := i) (by omega) (by omega)).mpr h9)
          refine lv_ldc2 (v := 31) hx hb hown (hts (.constantLong RX4 268 31) (by decide +kernel)) dX4_digest_153 ?_
          refine lv_lload_n hx hb dX4_digest_156 rfl (lv_at hl 0 rfl) ?_
          refine lv_lmul hx hb dX4_digest_157 ?_
          refine lv_aload_n hx hb dX4_digest_158 rfl (lv_at hl 2 rfl) ?_
          refine g_get (ci := 4) (C := RX4) (T := TX4) (M := 8) hx hb hts hinX4 hown hK hG (by omega) cW_o rfl 3 (by decide) hf24 rfl rfl dX4_digest_159 ?_
          refine lv_iload_n hx hb dX4_digest_162 rfl (lv_at hl 1 rfl) ?_
          refine g_iald hx hb hK hG (by omega) cW_b (k := i) rfl (by omega) (by decide) dX4_digest_163 ?_
          refine lv_i2l hx hb dX4_digest_164 rfl ?_
          refine lv_ladd hx hb dX4_digest_165 ?_
          refine lv_lstore_n (lv' := [(1, .long ((31 * (d_B C (31 * (31 * (31 * (31 * d_1 C 3533 + (g_bestI (y_best (cY C) 4)).toInt64) + (y_next (cY C) 4).toInt64) + 0) + (nI (cL C)).toInt64) i)) + (((cB C) i).toInt64))), (3, .int (nI i)), (0, .ref (L 0))]) hx hb dX4_digest_166 rfl hl (by decide) rfl (fun ls hl => ?_)
          refine lv_iinc (v := nI (i + 1)) (lv' := [(3, .int (nI (i + 1))), (1, .long ((31 * (d_B C (31 * (31 * (31 * (31 * d_1 C 3533 + (g_bestI (y_best (cY C) 4)).toInt64) + (y_next (cY C) 4).toInt64) + 0) + (nI (cL C)).toInt64) i)) + (((cB C) i).toInt64))), (0, .ref (L 0))]) hx hb dX4_digest_167 hl (k := 1) rfl (nI_add i 1) (by decide) rfl (fun ls hl => ?_)
          refine lv_goto (tgt := 145) hx hb dX4_digest_170 (by decide) ?_
          have hl : lv_has ls 4 [(1, .long ((31 * (d_B C (31 * (31 * (31 * (31 * d_1 C 3533 + (g_bestI (y_best (cY C) 4)).toInt64) + (y_next (cY C) 4).toInt64) + 0) + (nI (cL C)).toInt64) i)) + (((cB C) i).toInt64))), (3, .int (nI (i + 1))), (0, .ref (L 0))] := lv_sub hl [1, 0, 2] rfl
          exact ih145 (i + 1) _ _ _ (by omega) ⟨by omega, hG.to (rfl), hS, lv_to hl (rfl)⟩
      · skip
        have c_56 : ¬ 6 ≤ j := fun h9 => c_56 ((nI_leI (a := 6) (b := j) (by omega) (by omega)).mpr h9)
        refine lv_ldc2 (v := 31) hx hb hown (hts (.constantLong RX4 268 31) (by decide +kernel)) dX4_digest_59 ?_
        refine lv_lload_n hx hb dX4_digest_62 rfl (lv_at hl 0 rfl) ?_
        refine lv_lmul hx hb dX4_digest_63 ?_
        refine lv_aload_n hx hb dX4_digest_64 rfl (lv_at hl 2 rfl) ?_
        refine lv_iload_n hx hb dX4_digest_65 rfl (lv_at hl 1 rfl) ?_
        refine lv_iconst (v := 0) hx hb dX4_digest_66 (by decide) ?_
        refine g_cVi (As := [.int (nI j), .int 0]) (rest := [.long (31 * (d_J C (d_K C (d_N C 3533 15) 4) j))]) hx hb hml hown hts hK hA hG hS (k_X4_shipOf_ok l D cy N L _ (by omega) (cY C, cV C, cM C, cQ C, cB C, cL C, cR C, cT (d_C C 4), cU (d_C C 4)) j 0 (by omega) (Or.inl rfl)) (cwV 2 hts gX4_digest_X4_shipOf rfl rfl rfl (by decide +kernel) ⟨Nat.le_of_ble_eq_true rfl, Nat.le_of_ble_eq_true rfl⟩) (by omega) cW_o (ci := 4) rfl rfl rfl rfl hl.1 (Nat.le_of_ble_eq_true rfl) dX4_digest_67 ⟨Nat.zero_le _, Nat.zero_le _⟩ (fun H locs hG hS => ?_)
        refine lv_i2l hx hb dX4_digest_70 rfl ?_
        refine lv_ladd hx hb dX4_digest_71 ?_
        refine lv_lstore_n (lv' := [(1, .long ((31 * (d_J C (d_K C (d_N C 3533 15) 4) j)) + ((y_tellH (cY (cY C, cV C, cM C, cQ C, cB C, cL C, cR C, cT (d_C C 4), cU (d_C C 4))) j 0).toInt64))), (3, .int (nI j)), (0, .ref (L 0))]) hx hb dX4_digest_72 rfl hl (by decide) rfl (fun ls hl => ?_)
        refine lv_ldc2 (v := 31) hx hb hown (hts (.constantLong RX4 268 31) (by decide +kernel)) dX4_digest_73 ?_
        refine lv_lload_n hx hb dX4_digest_76 rfl (lv_at hl 0 rfl) ?_
        refine lv_lmul hx hb dX4_digest_77 ?_
        refine lv_aload_n hx hb dX4_digest_78 rfl (lv_at hl 2 rfl) ?_
        refine lv_iload_n hx hb dX4_digest_79 rfl (lv_at hl 1 rfl) ?_
        refine lv_iconst (v := 1) hx hb dX4_digest_80 (by decide) ?_
        refine g_cVi (As := [.int (nI j), .int 1]) (rest := [.long (31 * ((31 * (d_J C (d_K C (d_N C 3533 15) 4) j)) + ((y_tellH (cY (cY C, cV C, cM C, cQ C, cB C, cL C, cR C, cT (d_C C 4), cU (d_C C 4))) j 0).toInt64)))]) hx hb hml hown hts hK hA hG hS (k_X4_shipOf_ok l D cy N L _ (by omega) (cY C, cV C, cM C, cQ C, cB C, cL C, cR C, cT (d_C C 4), cU (d_C C 4)) j 1 (by omega) (Or.inr rfl)) (cwV 2 hts gX4_digest_X4_shipOf rfl rfl rfl (by decide +kernel) ⟨Nat.le_of_ble_eq_true rfl, Nat.le_of_ble_eq_true rfl⟩) (by omega) cW_o (ci := 4) rfl rfl rfl rfl hl.1 (Nat.le_of_ble_eq_true rfl) dX4_digest_81 ⟨Nat.zero_le _, Nat.zero_le _⟩ (fun H locs hG hS => ?_)
        refine lv_i2l hx hb dX4_digest_84 rfl ?_
        refine lv_ladd hx hb dX4_digest_85 ?_
        refine lv_lstore_n (lv' := [(1, .long ((31 * ((31 * (d_J C (d_K C (d_N C 3533 15) 4) j)) + ((y_tellH (cY (cY C, cV C, cM C, cQ C, cB C, cL C, cR C, cT (d_C C 4), cU (d_C C 4))) j 0).toInt64))) + ((y_tellH (cY (cY C, cV C, cM C, cQ C, cB C, cL C, cR C, cT (d_C C 4), cU (d_C C 4))) j 1).toInt64))), (3, .int (nI j)), (0, .ref (L 0))]) hx hb dX4_digest_86 rfl hl (by decide) rfl (fun ls hl => ?_)
        refine lv_iinc (v := nI (j + 1)) (lv' := [(3, .int (nI (j + 1))), (1, .long ((31 * ((31 * (d_J C (d_K C (d_N C 3533 15) 4) j)) + ((y_tellH (cY (cY C, cV C, cM C, cQ C, cB C, cL C, cR C, cT (d_C C 4), cU (d_C C 4))) j 0).toInt64))) + ((y_tellH (cY (cY C, cV C, cM C, cQ C, cB C, cL C, cR C, cT (d_C C 4), cU (d_C C 4))) j 1).toInt64))), (0, .ref (L 0))]) hx hb dX4_digest_87 hl (k := 1) rfl (nI_add j 1) (by decide) rfl (fun ls hl => ?_)
        refine lv_goto (tgt := 53) hx hb dX4_digest_90 (by decide) ?_
        have hl : lv_has ls 4 [(1, .long ((31 * ((31 * (d_J C (d_K C (d_N C 3533 15) 4) j)) + ((y_tellH (cY (cY C, cV C, cM C, cQ C, cB C, cL C, cR C, cT (d_C C 4), cU (d_C C 4))) j 0).toInt64))) + ((y_tellH (cY (cY C, cV C, cM C, cQ C, cB C, cL C, cR C, cT (d_C C 4), cU (d_C C 4))) j 1).toInt64))), (3, .int (nI (j + 1))), (0, .ref (L 0))] := lv_sub hl [1, 0, 2] rfl
        exact ih53 (j + 1) _ _ _ (by omega) ⟨by omega, hG.to (rfl), hS, lv_to hl (rfl)⟩
    · skip
      have c_35 : ¬ 4 ≤ k := fun h9 => c_35 ((nI_leI (a := 4) (b := k) (by omega) (by omega)).mpr h9)
      refine lv_aload_n hx hb dX4_digest_38 rfl (lv_at hl 2 rfl) ?_
      refine lv_lload_n hx hb dX4_digest_39 rfl (lv_at hl 0 rfl) ?_
      refine lv_iload_n hx hb dX4_digest_40 rfl (lv_at hl 1 rfl) ?_
      refine g_cVl (As := [.long (d_K C (d_N C 3533 15) k), .int (nI k)]) (rest := []) hx hb hml hown hts hK hA hG hS (k_X4_hashWithSilo l D cy N L _ (by omega) (cY C, cV C, cM C, cQ C, cB C, cL C, cR C, cT (d_C C k), cU (d_C C k)) (d_K C (d_N C 3533 15) k) k (hy) (by omega) (hn1 k (by omega))) (cwV 2 hts gX4_digest_X4_hashWithSilo rfl rfl rfl (by decide +kernel) ⟨Nat.le_of_ble_eq_true rfl, Nat.le_of_ble_eq_true rfl⟩) (by omega) cW_o (ci := 4) rfl rfl rfl rfl hl.1 (Nat.le_of_ble_eq_true rfl) dX4_digest_41 ⟨Nat.zero_le _, Nat.zero_le _⟩ (fun H locs hG hS => ?_)
      refine lv_lstore_n (lv' := [(1, .long (d_hs (cY C, cV C, cM C, cQ C, cB C, cL C, cR C, cT (d_C C k), cU (d_C C k)) (d_K C (d_N C 3533 15) k) k)), (3, .int (nI k)), (0, .ref (L 0))]) hx hb dX4_digest_44 rfl hl (by decide) rfl (fun ls hl => ?_)
      refine lv_iinc (v := nI (k + 1)) (lv' := [(3, .int (nI (k + 1))), (1, .long (d_hs (cY C, cV C, cM C, cQ C, cB C, cL C, cR C, cT (d_C C k), cU (d_C C k)) (d_K C (d_N C 3533 15) k) k)), (0, .ref (L 0))]) hx hb dX4_digest_45 hl (k := 1) rfl (nI_add k 1) (by decide) rfl (fun ls hl => ?_)
      refine lv_goto (tgt := 33) hx hb dX4_digest_48 (by decide) ?_
      have hl : lv_has ls 4 [(1, .long (d_hs (cY C, cV C, cM C, cQ C, cB C, cL C, cR C, cT (d_C C k), cU (d_C C k)) (d_K C (d_N C 3533 15) k) k)), (3, .int (nI (k + 1))), (0, .ref (L 0))] := lv_sub hl [1, 0, 2] rfl
      exact ih33 (k + 1) _ _ _ (by omega) ⟨by omega, hG.to (rfl), hS, lv_to hl (rfl)⟩
  · skip
    have c_9 : ¬ 14 < v := fun h9 => c_9 ((nI_ltI (a := 14) (b := v) (by omega) (by omega)).mpr h9)
    refine lv_ldc2 (v := 31) hx hb hown (hts (.constantLong RX4 268 31) (by decide +kernel)) dX4_digest_12 ?_
    refine lv_lload_n hx hb dX4_digest_15 rfl (lv_at hl 0 rfl) ?_
    refine lv_lmul hx hb dX4_digest_16 ?_
    refine lv_aload_n hx hb dX4_digest_17 rfl (lv_at hl 2 rfl) ?_
    refine lv_iload_n hx hb dX4_digest_18 rfl (lv_at hl 1 rfl) ?_
    refine g_cVi (As := [.int (nI v)]) (rest := [.long (31 * (d_N C 3533 v))]) hx hb hml hown hts hK hA hG hS (k_X4_count_ok l D cy N L _ (by omega) C (nI v) (hy) (by rcases (show v = 0 ∨ v = 1 ∨ v = 2 ∨ v = 3 ∨ v = 4 ∨ v = 5 ∨ v = 6 ∨ v = 7 ∨ v = 8 ∨ v = 9 ∨ v = 10 ∨ v = 11 ∨ v = 12 ∨ v = 13 ∨ v = 14 by omega) with rfl | rfl | rfl | rfl | rfl | rfl | rfl | rfl | rfl | rfl | rfl | rfl | rfl | rfl | rfl <;> decide)) (cwV 1 hts gX4_digest_X4_count rfl rfl rfl (by decide +kernel) ⟨Nat.le_of_ble_eq_true rfl, Nat.le_of_ble_eq_true rfl⟩) (by omega) cW_o (ci := 4) rfl rfl rfl rfl hl.1 (Nat.le_of_ble_eq_true rfl) dX4_digest_19 ⟨Nat.zero_le _, Nat.zero_le _⟩ (fun H locs hG hS => ?_)
    refine lv_i2l hx hb dX4_digest_22 rfl ?_
    refine lv_ladd hx hb dX4_digest_23 ?_
    refine lv_lstore_n (lv' := [(1, .long ((31 * (d_N C 3533 v)) + ((c_count C (nI v)).toInt64))), (3, .int (nI v)), (0, .ref (L 0))]) hx hb dX4_digest_24 rfl hl (by decide) rfl (fun ls hl => ?_)
    refine lv_iinc (v := nI (v + 1)) (lv' := [(3, .int (nI (v + 1))), (1, .long ((31 * (d_N C 3533 v)) + ((c_count C (nI v)).toInt64))), (0, .ref (L 0))]) hx hb dX4_digest_25 hl (k := 1) rfl (nI_add v 1) (by decide) rfl (fun ls hl => ?_)
    refine lv_goto (tgt := 6) hx hb dX4_digest_28 (by decide) ?_
    have hl : lv_has ls 4 [(1, .long ((31 * (d_N C 3533 v)) + ((c_count C (nI v)).toInt64))), (3, .int (nI (v + 1))), (0, .ref (L 0))] := lv_sub hl [1, 0, 2] rfl
    exact ih6 (v + 1) _ _ _ (by omega) ⟨by omega, hG.to (rfl), hS, lv_to hl (rfl)⟩
set_option maxHeartbeats 4000000 in
set_option maxRecDepth 100000 in
theorem k_X4_digest_pos (l : Launch) (D : va_G) (cy : Nat → ClassId) (N : Nat) (L : Nat → Nat) (F : Nat → va_E) (hN : 162 ≤ N) (C : CT) (w9 : Nat) (hy : wfY (cY C)) (hl60 : cL C ≤ 60) (hn1 : ∀ k, k < 4 → 1 ≤ sN (yS (cY C) k) ∨ sC (yS (cY C) k) = 2 ∨ sC (yS (cY C) k) = 0) (hf : ¬ y_silos (cY C) 4 = 0 → vf_n64 (FP.ddiv (FP.i2d (y_soft (cY C) 4)) (FP.i2d (y_silos (cY C) 4)))) (hz : 0 < Op.cmpValue (FP.dcmp (y_softD (cY C)) FP.dconst0) .g) (hm : w9 ≤ 1022) (hlt : ∀ i, i < w9 → ¬ 0 ≤ Op.cmpValue (FP.dcmp (b_h (y_softD (cY C)) i) FP.dconst1) .g) (hge : w9 = 1022 ∨ 0 ≤ Op.cmpValue (FP.dcmp (b_h (y_softD (cY C)) w9) FP.dconst1) .g) (hn : ∀ i, i < w9 → vf_n64 (b_h (y_softD (cY C)) (i + 1))) (hn2 : vf_n64 (FP.dmul (FP.dsub (b_h (y_softD (cY C)) w9) FP.dconst1) 4841369599423283200)) (hn3 : vf_n64 (FP.dsub (b_h (y_softD (cY C)) w9) FP.dconst1)) : GM l D cy N L yX4_digest wsX4_digest ({ frames := 9, cells := 0, slots := 0, locals := 202 }) [.ref (L 0)] (cW cy L F C) (some (.long (d_2 C 3533 (b_v (y_softD (cY C)) w9)))) (cW cy L F (cY C, cV C, cM C, cQ C, cB C, cL C, cR C, cT (d_C C 4), cU (d_C C 4))) := by
  refine GM.ofW (cc := cX4_digest) (maxL := 4) (ret := (some .long)) (by decide) rfl (Nat.le_of_ble_eq_true rfl) ?_
  intro p e s m below meth c ls hx hb hr hts hown hlocks hml hK hA hG hS hl
  have hl : lv_has ls 4 [(0, .ref (L 0))] := hl
  have hf28 := hts (.fieldLink RX4 28 "SiloPads" "length" "I") (by decide +kernel)
  have hinX4 : ∀ w ∈ u_ws RX4 TX4 8, w ∈ wsX4_digest := by decide +kernel
  have hf24 := hts (.fieldLink RX4 24 "SiloPads" "codes" "[I") (by decide +kernel)
  refine lv_ldc2 (v := 3533) hx hb hown (hts (.constantLong RX4 266 3533) (by decide +kernel)) dX4_digest_0 ?_
  refine lv_lstore_n (lv' := [(1, .long 3533), (0, .ref (L 0))]) hx hb dX4_digest_3 rfl hl (by decide) rfl (fun ls hl => ?_)
  refine lv_iconst (v := 0) hx hb dX4_digest_4 (by decide) ?_
  refine lv_istore_n (lv' := [(3, .int 0), (1, .long 3533), (0, .ref (L 0))]) hx hb dX4_digest_5 rfl hl (by decide) rfl (fun ls hl => ?_)
  refine W.loop (σ := Nat) (fun v H locs ls => (v ≤ 15) ∧ GW D N L (gA N L s.heap.size) (cW cy L F C) H ∧ va_S (gA N L s.heap.size) s.heap H locs ∧ lv_has ls 4 [(1, .long (d_N C 3533 v)), (3, .int (nI v)), (0, .ref (L 0))]) (fun v => 15 - v) 0 ⟨by omega, hG.to (rfl), hS, lv_to (lv_sub hl [1, 0, 2] rfl) (rfl)⟩ ?_
  intro v H locs ls hP9 ih6
  obtain ⟨hv9, hG, hS, hl⟩ := hP9
  refine lv_iload_n hx hb dX4_digest_6 rfl (lv_at hl 1 rfl) ?_
  refine lv_bipush (v := 14) hx hb dX4_digest_7 (by decide) ?_
  refine lv_icmp_gt (tgt := 31) hx hb dX4_digest_9 (by decide) (fun c_9 => ?_) (fun c_9 => ?_)
  · skip
    have c_9 : 14 < v := (nI_ltI (a := 14) (b := v) (by omega) (by omega)).mp c_9
    refine lv_iconst (v := 0) hx hb dX4_digest_31 (by decide) ?_
    refine lv_istore_n (lv' := [(3, .int 0), (1, .long (d_N C 3533 v)), (0, .ref (L 0))]) hx hb dX4_digest_32 rfl hl (by decide) rfl (fun ls hl => ?_)
    refine W.loop (σ := Nat) (fun k H locs ls => (k ≤ 4) ∧ GW D N L (gA N L s.heap.size) (cW cy L F (cY C, cV C, cM C, cQ C, cB C, cL C, cR C, cT (d_C C k), cU (d_C C k))) H ∧ va_S (gA N L s.heap.size) s.heap H locs ∧ lv_has ls 4 [(1, .long (d_K C (d_N C 3533 15) k)), (3, .int (nI k)), (0, .ref (L 0))]) (fun k => 4 - k) 0 ⟨by omega, hG.to (rfl), hS, lv_to (lv_sub hl [1, 0, 2] rfl) (by rw [show v = 15 by omega]; rfl)⟩ ?_
    intro k H locs ls hP9 ih33
    obtain ⟨hk9, hG, hS, hl⟩ := hP9
    refine lv_iload_n hx hb dX4_digest_33 rfl (lv_at hl 1 rfl) ?_
    refine lv_iconst (v := 4) hx hb dX4_digest_34 (by decide) ?_
    refine lv_icmp_ge (tgt := 51) hx hb dX4_digest_35 (by decide) (fun c_35 => ?_) (fun c_35 => ?_)
    · skip
      have c_35 : 4 ≤ k := (nI_leI (a := 4) (b := k) (by omega) (by omega)).mp c_35
      refine lv_iconst (v := 0) hx hb dX4_digest_51 (by decide) ?_
      refine lv_istore_n (lv' := [(3, .int 0), (1, .long (d_K C (d_N C 3533 15) k)), (0, .ref (L 0))]) hx hb dX4_digest_52 rfl hl (by decide) rfl (fun ls hl => ?_)
      refine W.loop (σ := Nat) (fun j H locs ls => (j ≤ 6) ∧ GW D N L (gA N L s.heap.size) (cW cy L F (cY C, cV C, cM C, cQ C, cB C, cL C, cR C, cT (d_C C 4), cU (d_C C 4))) H ∧ va_S (gA N L s.heap.size) s.heap H locs ∧ lv_has ls 4 [(1, .long (d_J C (d_K C (d_N C 3533 15) 4) j)), (3, .int (nI j)), (0, .ref (L 0))]) (fun j => 6 - j) 0 ⟨by omega, hG.to (by rw [show k = 4 by omega]), hS, lv_to (lv_sub hl [1, 0, 2] rfl) (by rw [show k = 4 by omega]; rfl)⟩ ?_
      intro j H locs ls hP9 ih53
      obtain ⟨hj9, hG, hS, hl⟩ := hP9
      refine lv_iload_n hx hb dX4_digest_53 rfl (lv_at hl 1 rfl) ?_
      refine lv_bipush (v := 6) hx hb dX4_digest_54 (by decide) ?_
      refine lv_icmp_ge (tgt := 93) hx hb dX4_digest_56 (by decide) (fun c_56 => ?_) (fun c_56 => ?_)
      · skip
        have c_56 : 6 ≤ j := (nI_leI (a := 6) (b := j) (by omega) (by omega)).mp c_56
        refine lv_ldc2 (v := 31) hx hb hown (hts (.constantLong RX4 268 31) (by decide +kernel)) dX4_digest_93 ?_
        refine lv_lload_n hx hb dX4_digest_96 rfl (lv_at hl 0 rfl) ?_
        refine lv_lmul hx hb dX4_digest_97 ?_
        refine lv_aload_n hx hb dX4_digest_98 rfl (lv_at hl 2 rfl) ?_
        refine g_cVi (As := []) (rest := [.long (31 * (d_J C (d_K C (d_N C 3533 15) 4) j))]) hx hb hml hown hts hK hA hG hS (k_X4_urgent l D cy N L _ (by omega) (cY C, cV C, cM C, cQ C, cB C, cL C, cR C, cT (d_C C 4), cU (d_C C 4))  (hy)) (cwV 0 hts gX4_digest_X4_urgent rfl rfl rfl (by decide +kernel) ⟨Nat.le_of_ble_eq_true rfl, Nat.le_of_ble_eq_true rfl⟩) (by omega) cW_o (ci := 4) rfl rfl rfl rfl hl.1 (Nat.le_of_ble_eq_true rfl) dX4_digest_99 ⟨Nat.zero_le _, Nat.zero_le _⟩ (fun H locs hG hS => ?_)
        refine lv_i2l hx hb dX4_digest_102 rfl ?_
        refine lv_ladd hx hb dX4_digest_103 ?_
        refine lv_lstore_n (lv' := [(1, .long ((31 * (d_J C (d_K C (d_N C 3533 15) 4) j)) + ((g_bestI (y_best (cY (cY C, cV C, cM C, cQ C, cB C, cL C, cR C, cT (d_C C 4), cU (d_C C 4))) 4)).toInt64))), (3, .int (nI j)), (0, .ref (L 0))]) hx hb dX4_digest_104 rfl hl (by decide) rfl (fun ls hl => ?_)
        refine lv_ldc2 (v := 31) hx hb hown (hts (.constantLong RX4 268 31) (by decide +kernel)) dX4_digest_105 ?_
        refine lv_lload_n hx hb dX4_digest_108 rfl (lv_at hl 0 rfl) ?_
        refine lv_lmul hx hb dX4_digest_109 ?_
        refine lv_aload_n hx hb dX4_digest_110 rfl (lv_at hl 2 rfl) ?_
        refine g_cVi (As := []) (rest := [.long (31 * ((31 * (d_J C (d_K C (d_N C 3533 15) 4) j)) + ((g_bestI (y_best (cY (cY C, cV C, cM C, cQ C, cB C, cL C, cR C, cT (d_C C 4), cU (d_C C 4))) 4)).toInt64)))]) hx hb hml hown hts hK hA hG hS (k_X4_nextArch l D cy N L _ (by omega) (cY C, cV C, cM C, cQ C, cB C, cL C, cR C, cT (d_C C 4), cU (d_C C 4))  (hy)) (cwV 0 hts gX4_digest_X4_nextArch rfl rfl rfl (by decide +kernel) ⟨Nat.le_of_ble_eq_true rfl, Nat.le_of_ble_eq_true rfl⟩) (by omega) cW_o (ci := 4) rfl rfl rfl rfl hl.1 (Nat.le_of_ble_eq_true rfl) dX4_digest_111 ⟨Nat.zero_le _, Nat.zero_le _⟩ (fun H locs hG hS => ?_)
        refine lv_i2l hx hb dX4_digest_114 rfl ?_
        refine lv_ladd hx hb dX4_digest_115 ?_
        refine lv_lstore_n (lv' := [(1, .long ((31 * ((31 * (d_J C (d_K C (d_N C 3533 15) 4) j)) + ((g_bestI (y_best (cY (cY C, cV C, cM C, cQ C, cB C, cL C, cR C, cT (d_C C 4), cU (d_C C 4))) 4)).toInt64))) + ((y_next (cY (cY C, cV C, cM C, cQ C, cB C, cL C, cR C, cT (d_C C 4), cU (d_C C 4))) 4).toInt64))), (3, .int (nI j)), (0, .ref (L 0))]) hx hb dX4_digest_116 rfl hl (by decide) rfl (fun ls hl => ?_)
        refine lv_ldc2 (v := 31) hx hb hown (hts (.constantLong RX4 268 31) (by decide +kernel)) dX4_digest_117 ?_
        refine lv_lload_n hx hb dX4_digest_120 rfl (lv_at hl 0 rfl) ?_
        refine lv_lmul hx hb dX4_digest_121 ?_
        refine lv_aload_n hx hb dX4_digest_122 rfl (lv_at hl 2 rfl) ?_
        refine g_cVd (As := []) (rest := [.long (31 * ((31 * ((31 * (d_J C (d_K C (d_N C 3533 15) 4) j)) + ((g_bestI (y_best (cY (cY C, cV C, cM C, cQ C, cB C, cL C, cR C, cT (d_C C 4), cU (d_C C 4))) 4)).toInt64))) + ((y_next (cY (cY C, cV C, cM C, cQ C, cB C, cL C, cR C, cT (d_C C 4), cU (d_C C 4))) 4).toInt64)))]) hx hb hml hown hts hK hA hG hS (k_X4_softness l D cy N L _ (by omega) (cY C, cV C, cM C, cQ C, cB C, cL C, cR C, cT (d_C C 4), cU (d_C C 4))  (hy) (hf)) (cwV 0 hts gX4_digest_X4_softness rfl rfl rfl (by decide +kernel) ⟨Nat.le_of_ble_eq_true rfl, Nat.le_of_ble_eq_true rfl⟩) (by omega) cW_o (ci := 4) rfl rfl rfl rfl hl.1 (Nat.le_of_ble_eq_true rfl) dX4_digest_123 ⟨Nat.zero_le _, Nat.zero_le _⟩ (fun H locs hG hS => ?_)
        refine g_cSl (As := [.double (y_softD (cY (cY C, cV C, cM C, cQ C, cB C, cL C, cR C, cT (d_C C 4), cU (d_C C 4))))]) (rest := [.long (31 * ((31 * ((31 * (d_J C (d_K C (d_N C 3533 15) 4) j)) + ((g_bestI (y_best (cY (cY C, cV C, cM C, cQ C, cB C, cL C, cR C, cT (d_C C 4), cU (d_C C 4))) 4)).toInt64))) + ((y_next (cY (cY C, cV C, cM C, cQ C, cB C, cL C, cR C, cT (d_C C 4), cU (d_C C 4))) 4).toInt64)))]) hx hb hml hown hts hK hA hG hS (k_X4_bitsOfShare_pos l D cy N L _ (y_softD (cY (cY C, cV C, cM C, cQ C, cB C, cL C, cR C, cT (d_C C 4), cU (d_C C 4)))) w9 (hz) (hm) (hlt) (hge) (hn) (hn3) (hn2)) (g_cwS 1 hts gX4_digest_X4_bitsOfShare rfl rfl rfl (by decide +kernel) ⟨Nat.le_of_ble_eq_true rfl, Nat.le_of_ble_eq_true rfl⟩) rfl rfl hl.1 (Nat.le_of_ble_eq_true rfl) dX4_digest_126 ⟨Nat.zero_le _, Nat.zero_le _⟩ (fun H locs hG hS => ?_)
        refine lv_ladd hx hb dX4_digest_129 ?_
        refine lv_lstore_n (lv' := [(1, .long ((31 * ((31 * ((31 * (d_J C (d_K C (d_N C 3533 15) 4) j)) + ((g_bestI (y_best (cY (cY C, cV C, cM C, cQ C, cB C, cL C, cR C, cT (d_C C 4), cU (d_C C 4))) 4)).toInt64))) + ((y_next (cY (cY C, cV C, cM C, cQ C, cB C, cL C, cR C, cT (d_C C 4), cU (d_C C 4))) 4).toInt64))) + (b_v (y_softD (cY (cY C, cV C, cM C, cQ C, cB C, cL C, cR C, cT (d_C C 4), cU (d_C C 4)))) w9))), (3, .int (nI j)), (0, .ref (L 0))]) hx hb dX4_digest_130 rfl hl (by decide) rfl (fun ls hl => ?_)
        refine lv_ldc2 (v := 31) hx hb hown (hts (.constantLong RX4 268 31) (by decide +kernel)) dX4_digest_131 ?_
        refine lv_lload_n hx hb dX4_digest_134 rfl (lv_at hl 0 rfl) ?_
        refine lv_lmul hx hb dX4_digest_135 ?_
        refine lv_aload_n hx hb dX4_digest_136 rfl (lv_at hl 2 rfl) ?_
        refine g_get (ci := 4) (C := RX4) (T := TX4) (M := 8) hx hb hts hinX4 hown hK hG (by omega) cW_o rfl 4 (by decide) hf28 rfl rfl dX4_digest_137 ?_
        refine lv_i2l hx hb dX4_digest_140 rfl ?_
        refine lv_ladd hx hb dX4_digest_141 ?_
        refine lv_lstore_n (lv' := [(1, .long ((31 * ((31 * ((31 * ((31 * (d_J C (d_K C (d_N C 3533 15) 4) j)) + ((g_bestI (y_best (cY (cY C, cV C, cM C, cQ C, cB C, cL C, cR C, cT (d_C C 4), cU (d_C C 4))) 4)).toInt64))) + ((y_next (cY (cY C, cV C, cM C, cQ C, cB C, cL C, cR C, cT (d_C C 4), cU (d_C C 4))) 4).toInt64))) + (b_v (y_softD (cY (cY C, cV C, cM C, cQ C, cB C, cL C, cR C, cT (d_C C 4), cU (d_C C 4)))) w9))) + ((nI (cL C)).toInt64))), (3, .int (nI j)), (0, .ref (L 0))]) hx hb dX4_digest_142 rfl hl (by decide) rfl (fun ls hl => ?_)
        refine lv_iconst (v := 0) hx hb dX4_digest_143 (by decide) ?_
        refine lv_istore_n (lv' := [(3, .int 0), (1, .long ((31 * ((31 * ((31 * ((31 * (d_J C (d_K C (d_N C 3533 15) 4) j)) + ((g_bestI (y_best (cY (cY C, cV C, cM C, cQ C, cB C, cL C, cR C, cT (d_C C 4), cU (d_C C 4))) 4)).toInt64))) + ((y_next (cY (cY C, cV C, cM C, cQ C, cB C, cL C, cR C, cT (d_C C 4), cU (d_C C 4))) 4).toInt64))) + (b_v (y_softD (cY (cY C, cV C, cM C, cQ C, cB C, cL C, cR C, cT (d_C C 4), cU (d_C C 4)))) w9))) + ((nI (cL C)).toInt64))), (0, .ref (L 0))]) hx hb dX4_digest_144 rfl hl (by decide) rfl (fun ls hl => ?_)
        refine W.loop (σ := Nat) (fun i H locs ls => (i ≤ cL C) ∧ GW D N L (gA N L s.heap.size) (cW cy L F (cY C, cV C, cM C, cQ C, cB C, cL C, cR C, cT (d_C C 4), cU (d_C C 4))) H ∧ va_S (gA N L s.heap.size) s.heap H locs ∧ lv_has ls 4 [(1, .long (d_B C (31 * (31 * (31 * (31 * d_1 C 3533 + (g_bestI (y_best (cY C) 4)).toInt64) + (y_next (cY C) 4).toInt64) + b_v (y_softD (cY C)) w9) + (nI (cL C)).toInt64) i)), (3, .int (nI i)), (0, .ref (L 0))]) (fun i => cL C - i) 0 ⟨by omega, hG.to (rfl), hS, lv_to (lv_sub hl [1, 0, 2] rfl) (by rw [show j = 6 by omega]; rfl)⟩ ?_
        intro i H locs ls hP9 ih145
        obtain ⟨hi9, hG, hS, hl⟩ := hP9
        refine lv_iload_n hx hb dX4_digest_145 rfl (lv_at hl 1 rfl) ?_
        refine lv_aload_n hx hb dX4_digest_146 rfl (lv_at hl 2 rfl) ?_
        refine g_get (ci := 4) (C := RX4) (T := TX4) (M := 8) hx hb hts hinX4 hown hK hG (by omega) cW_o rfl 4 (by decide) hf28 rfl rfl dX4_digest_147 ?_
        refine lv_icmp_ge (tgt := 173) hx hb dX4_digest_150 (by decide) (fun c_150 => ?_) (fun c_150 => ?_)
        · skip
          have c_150 : (cL C) ≤ i := (nI_leI (a := cL C) (b := i) (by omega) (by omega)).mp c_150
          refine lv_lload_n hx hb dX4_digest_173 rfl (lv_at hl 0 rfl) ?_
          exact g_lret hx hb hr hlocks hK hG hS dX4_digest_174 ⟨(congrArg (fun z9 => some (Value.long z9)) (by rw [show i = cL C by omega]; rfl)), rfl⟩
        · skip
          have c_150 : ¬ (cL C) ≤ i := fun h9 => c_150 ((nI_leI (a := cL C) (b := i) (by omega) (by omega)).mpr h9)
          refine lv_ldc2 (v := 31) hx hb hown (hts (.constantLong RX4 268 31) (by decide +kernel)) dX4_digest_153 ?_
          refine lv_lload_n hx hb dX4_digest_156 rfl (lv_at hl 0 rfl) ?_
          refine lv_lmul hx hb dX4_digest_157 ?_
          refine lv_aload_n hx hb dX4_digest_158 rfl (lv_at hl 2 rfl) ?_
          refine g_get (ci := 4) (C := RX4) (T := TX4) (M := 8) hx hb hts hinX4 hown hK hG (by omega) cW_o rfl 3 (by decide) hf24 rfl rfl dX4_digest_159 ?_
          refine lv_iload_n hx hb dX4_digest_162 rfl (lv_at hl 1 rfl) ?_
          refine g_iald hx hb hK hG (by omega) cW_b (k := i) rfl (by omega) (by decide) dX4_digest_163 ?_
          refine lv_i2l hx hb dX4_digest_164 rfl ?_
          refine lv_ladd hx hb dX4_digest_165 ?_
          refine lv_lstore_n (lv' := [(1, .long ((31 * (d_B C (31 * (31 * (31 * (31 * d_1 C 3533 + (g_bestI (y_best (cY C) 4)).toInt64) + (y_next (cY C) 4).toInt64) + b_v (y_softD (cY C)) w9) + (nI (cL C)).toInt64) i)) + (((cB C) i).toInt64))), (3, .int (nI i)), (0, .ref (L 0))]) hx hb dX4_digest_166 rfl hl (by decide) rfl (fun ls hl => ?_)
          refine lv_iinc (v := nI (i + 1)) (lv' := [(3, .int (nI (i + 1))), (1, .long ((31 * (d_B C (31 * (31 * (31 * (31 * d_1 C 3533 + (g_bestI (y_best (cY C) 4)).toInt64) + (y_next (cY C) 4).toInt64) + b_v (y_softD (cY C)) w9) + (nI (cL C)).toInt64) i)) + (((cB C) i).toInt64))), (0, .ref (L 0))]) hx hb dX4_digest_167 hl (k := 1) rfl (nI_add i 1) (by decide) rfl (fun ls hl => ?_)
          refine lv_goto (tgt := 145) hx hb dX4_digest_170 (by decide) ?_
          have hl : lv_has ls 4 [(1, .long ((31 * (d_B C (31 * (31 * (31 * (31 * d_1 C 3533 + (g_bestI (y_best (cY C) 4)).toInt64) + (y_next (cY C) 4).toInt64) + b_v (y_softD (cY C)) w9) + (nI (cL C)).toInt64) i)) + (((cB C) i).toInt64))), (3, .int (nI (i + 1))), (0, .ref (L 0))] := lv_sub hl [1, 0, 2] rfl
          exact ih145 (i + 1) _ _ _ (by omega) ⟨by omega, hG.to (rfl), hS, lv_to hl (rfl)⟩
      · skip
        have c_56 : ¬ 6 ≤ j := fun h9 => c_56 ((nI_leI (a := 6) (b := j) (by omega) (by omega)).mpr h9)
        refine lv_ldc2 (v := 31) hx hb hown (hts (.constantLong RX4 268 31) (by decide +kernel)) dX4_digest_59 ?_
        refine lv_lload_n hx hb dX4_digest_62 rfl (lv_at hl 0 rfl) ?_
        refine lv_lmul hx hb dX4_digest_63 ?_
        refine lv_aload_n hx hb dX4_digest_64 rfl (lv_at hl 2 rfl) ?_
        refine lv_iload_n hx hb dX4_digest_65 rfl (lv_at hl 1 rfl) ?_
        refine lv_iconst (v := 0) hx hb dX4_digest_66 (by decide) ?_
        refine g_cVi (As := [.int (nI j), .int 0]) (rest := [.long (31 * (d_J C (d_K C (d_N C 3533 15) 4) j))]) hx hb hml hown hts hK hA hG hS (k_X4_shipOf_ok l D cy N L _ (by omega) (cY C, cV C, cM C, cQ C, cB C, cL C, cR C, cT (d_C C 4), cU (d_C C 4)) j 0 (by omega) (Or.inl rfl)) (cwV 2 hts gX4_digest_X4_shipOf rfl rfl rfl (by decide +kernel) ⟨Nat.le_of_ble_eq_true rfl, Nat.le_of_ble_eq_true rfl⟩) (by omega) cW_o (ci := 4) rfl rfl rfl rfl hl.1 (Nat.le_of_ble_eq_true rfl) dX4_digest_67 ⟨Nat.zero_le _, Nat.zero_le _⟩ (fun H locs hG hS => ?_)
        refine lv_i2l hx hb dX4_digest_70 rfl ?_
        refine lv_ladd hx hb dX4_digest_71 ?_
        refine lv_lstore_n (lv' := [(1, .long ((31 * (d_J C (d_K C (d_N C 3533 15) 4) j)) + ((y_tellH (cY (cY C, cV C, cM C, cQ C, cB C, cL C, cR C, cT (d_C C 4), cU (d_C C 4))) j 0).toInt64))), (3, .int (nI j)), (0, .ref (L 0))]) hx hb dX4_digest_72 rfl hl (by decide) rfl (fun ls hl => ?_)
        refine lv_ldc2 (v := 31) hx hb hown (hts (.constantLong RX4 268 31) (by decide +kernel)) dX4_digest_73 ?_
        refine lv_lload_n hx hb dX4_digest_76 rfl (lv_at hl 0 rfl) ?_
        refine lv_lmul hx hb dX4_digest_77 ?_
        refine lv_aload_n hx hb dX4_digest_78 rfl (lv_at hl 2 rfl) ?_
        refine lv_iload_n hx hb dX4_digest_79 rfl (lv_at hl 1 rfl) ?_
        refine lv_iconst (v := 1) hx hb dX4_digest_80 (by decide) ?_
        refine g_cVi (As := [.int (nI j), .int 1]) (rest := [.long (31 * ((31 * (d_J C (d_K C (d_N C 3533 15) 4) j)) + ((y_tellH (cY (cY C, cV C, cM C, cQ C, cB C, cL C, cR C, cT (d_C C 4), cU (d_C C 4))) j 0).toInt64)))]) hx hb hml hown hts hK hA hG hS (k_X4_shipOf_ok l D cy N L _ (by omega) (cY C, cV C, cM C, cQ C, cB C, cL C, cR C, cT (d_C C 4), cU (d_C C 4)) j 1 (by omega) (Or.inr rfl)) (cwV 2 hts gX4_digest_X4_shipOf rfl rfl rfl (by decide +kernel) ⟨Nat.le_of_ble_eq_true rfl, Nat.le_of_ble_eq_true rfl⟩) (by omega) cW_o (ci := 4) rfl rfl rfl rfl hl.1 (Nat.le_of_ble_eq_true rfl) dX4_digest_81 ⟨Nat.zero_le _, Nat.zero_le _⟩ (fun H locs hG hS => ?_)
        refine lv_i2l hx hb dX4_digest_84 rfl ?_
        refine lv_ladd hx hb dX4_digest_85 ?_
        refine lv_lstore_n (lv' := [(1, .long ((31 * ((31 * (d_J C (d_K C (d_N C 3533 15) 4) j)) + ((y_tellH (cY (cY C, cV C, cM C, cQ C, cB C, cL C, cR C, cT (d_C C 4), cU (d_C C 4))) j 0).toInt64))) + ((y_tellH (cY (cY C, cV C, cM C, cQ C, cB C, cL C, cR C, cT (d_C C 4), cU (d_C C 4))) j 1).toInt64))), (3, .int (nI j)), (0, .ref (L 0))]) hx hb dX4_digest_86 rfl hl (by decide) rfl (fun ls hl => ?_)
        refine lv_iinc (v := nI (j + 1)) (lv' := [(3, .int (nI (j + 1))), (1, .long ((31 * ((31 * (d_J C (d_K C (d_N C 3533 15) 4) j)) + ((y_tellH (cY (cY C, cV C, cM C, cQ C, cB C, cL C, cR C, cT (d_C C 4), cU (d_C C 4))) j 0).toInt64))) + ((y_tellH (cY (cY C, cV C, cM C, cQ C, cB C, cL C, cR C, cT (d_C C 4), cU (d_C C 4))) j 1).toInt64))), (0, .ref (L 0))]) hx hb dX4_digest_87 hl (k := 1) rfl (nI_add j 1) (by decide) rfl (fun ls hl => ?_)
        refine lv_goto (tgt := 53) hx hb dX4_digest_90 (by decide) ?_
        have hl : lv_has ls 4 [(1, .long ((31 * ((31 * (d_J C (d_K C (d_N C 3533 15) 4) j)) + ((y_tellH (cY (cY C, cV C, cM C, cQ C, cB C, cL C, cR C, cT (d_C C 4), cU (d_C C 4))) j 0).toInt64))) + ((y_tellH (cY (cY C, cV C, cM C, cQ C, cB C, cL C, cR C, cT (d_C C 4), cU (d_C C 4))) j 1).toInt64))), (3, .int (nI (j + 1))), (0, .ref (L 0))] := lv_sub hl [1, 0, 2] rfl
        exact ih53 (j + 1) _ _ _ (by omega) ⟨by omega, hG.to (rfl), hS, lv_to hl (rfl)⟩
    · skip
      have c_35 : ¬ 4 ≤ k := fun h9 => c_35 ((nI_leI (a := 4) (b := k) (by omega) (by omega)).mpr h9)
      refine lv_aload_n hx hb dX4_digest_38 rfl (lv_at hl 2 rfl) ?_
      refine lv_lload_n hx hb dX4_digest_39 rfl (lv_at hl 0 rfl) ?_
      refine lv_iload_n hx hb dX4_digest_40 rfl (lv_at hl 1 rfl) ?_
      refine g_cVl (As := [.long (d_K C (d_N C 3533 15) k), .int (nI k)]) (rest := []) hx hb hml hown hts hK hA hG hS (k_X4_hashWithSilo l D cy N L _ (by omega) (cY C, cV C, cM C, cQ C, cB C, cL C, cR C, cT (d_C C k), cU (d_C C k)) (d_K C (d_N C 3533 15) k) k (hy) (by omega) (hn1 k (by omega))) (cwV 2 hts gX4_digest_X4_hashWithSilo rfl rfl rfl (by decide +kernel) ⟨Nat.le_of_ble_eq_true rfl, Nat.le_of_ble_eq_true rfl⟩) (by omega) cW_o (ci := 4) rfl rfl rfl rfl hl.1 (Nat.le_of_ble_eq_true rfl) dX4_digest_41 ⟨Nat.zero_le _, Nat.zero_le _⟩ (fun H locs hG hS => ?_)
      refine lv_lstore_n (lv' := [(1, .long (d_hs (cY C, cV C, cM C, cQ C, cB C, cL C, cR C, cT (d_C C k), cU (d_C C k)) (d_K C (d_N C 3533 15) k) k)), (3, .int (nI k)), (0, .ref (L 0))]) hx hb dX4_digest_44 rfl hl (by decide) rfl (fun ls hl => ?_)
      refine lv_iinc (v := nI (k + 1)) (lv' := [(3, .int (nI (k + 1))), (1, .long (d_hs (cY C, cV C, cM C, cQ C, cB C, cL C, cR C, cT (d_C C k), cU (d_C C k)) (d_K C (d_N C 3533 15) k) k)), (0, .ref (L 0))]) hx hb dX4_digest_45 hl (k := 1) rfl (nI_add k 1) (by decide) rfl (fun ls hl => ?_)
      refine lv_goto (tgt := 33) hx hb dX4_digest_48 (by decide) ?_
      have hl : lv_has ls 4 [(1, .long (d_hs (cY C, cV C, cM C, cQ C, cB C, cL C, cR C, cT (d_C C k), cU (d_C C k)) (d_K C (d_N C 3533 15) k) k)), (3, .int (nI (k + 1))), (0, .ref (L 0))] := lv_sub hl [1, 0, 2] rfl
      exact ih33 (k + 1) _ _ _ (by omega) ⟨by omega, hG.to (rfl), hS, lv_to hl (rfl)⟩
  · skip
    have c_9 : ¬ 14 < v := fun h9 => c_9 ((nI_ltI (a := 14) (b := v) (by omega) (by omega)).mpr h9)
    refine lv_ldc2 (v := 31) hx hb hown (hts (.constantLong RX4 268 31) (by decide +kernel)) dX4_digest_12 ?_
    refine lv_lload_n hx hb dX4_digest_15 rfl (lv_at hl 0 rfl) ?_
    refine lv_lmul hx hb dX4_digest_16 ?_
    refine lv_aload_n hx hb dX4_digest_17 rfl (lv_at hl 2 rfl) ?_
    refine lv_iload_n hx hb dX4_digest_18 rfl (lv_at hl 1 rfl) ?_
    refine g_cVi (As := [.int (nI v)]) (rest := [.long (31 * (d_N C 3533 v))]) hx hb hml hown hts hK hA hG hS (k_X4_count_ok l D cy N L _ (by omega) C (nI v) (hy) (by rcases (show v = 0 ∨ v = 1 ∨ v = 2 ∨ v = 3 ∨ v = 4 ∨ v = 5 ∨ v = 6 ∨ v = 7 ∨ v = 8 ∨ v = 9 ∨ v = 10 ∨ v = 11 ∨ v = 12 ∨ v = 13 ∨ v = 14 by omega) with rfl | rfl | rfl | rfl | rfl | rfl | rfl | rfl | rfl | rfl | rfl | rfl | rfl | rfl | rfl <;> decide)) (cwV 1 hts gX4_digest_X4_count rfl rfl rfl (by decide +kernel) ⟨Nat.le_of_ble_eq_true rfl, Nat.le_of_ble_eq_true rfl⟩) (by omega) cW_o (ci := 4) rfl rfl rfl rfl hl.1 (Nat.le_of_ble_eq_true rfl) dX4_digest_19 ⟨Nat.zero_le _, Nat.zero_le _⟩ (fun H locs hG hS => ?_)
    refine lv_i2l hx hb dX4_digest_22 rfl ?_
    refine lv_ladd hx hb dX4_digest_23 ?_
    refine lv_lstore_n (lv' := [(1, .long ((31 * (d_N C 3533 v)) + ((c_count C (nI v)).toInt64))), (3, .int (nI v)), (0, .ref (L 0))]) hx hb dX4_digest_24 rfl hl (by decide) rfl (fun ls hl => ?_)
    refine lv_iinc (v := nI (v + 1)) (lv' := [(3, .int (nI (v + 1))), (1, .long ((31 * (d_N C 3533 v)) + ((c_count C (nI v)).toInt64))), (0, .ref (L 0))]) hx hb dX4_digest_25 hl (k := 1) rfl (nI_add v 1) (by decide) rfl (fun ls hl => ?_)
    refine lv_goto (tgt := 6) hx hb dX4_digest_28 (by decide) ?_
    have hl : lv_has ls 4 [(1, .long ((31 * (d_N C 3533 v)) + ((c_count C (nI v)).toInt64))), (3, .int (nI (v + 1))), (0, .ref (L 0))] := lv_sub hl [1, 0, 2] rfl
    exact ih6 (v + 1) _ _ _ (by omega) ⟨by omega, hG.to (rfl), hS, lv_to hl (rfl)⟩
