set_option maxHeartbeats 4000000 in
set_option maxRecDepth 100000 in
theorem k_X4_firstError (l : Launch) (D : va_G) (cy : Nat → ClassId) (N : Nat) (L : Nat → Nat) (F : Nat → va_E) (hN : 162 ≤ N) (C : CT)  (hl60 : cL C ≤ 60) : GM l D cy N L yX4_firstError wsX4_firstError ({ frames := 3, cells := 0, slots := 0, locals := 64 }) [.ref (L 0)] (cW cy L F C) (some (.int (nI (t_err (cB C) (t_r0 (cR C)) (cL C))))) (cW cy L F (cY C, cV C, cM C, cQ C, cB C, cL C, t_end (cB C) (t_r0 (cR C)) (cL C), cT C, cU C)) := by
  refine GM.ofW (cc := cX4_firstError) (maxL := 2) (ret := (some .int)) (by decide) rfl (Nat.le_of_ble_eq_true rfl) ?_
  intro p e s m below meth c ls hx hb hr hts hown hlocks hml hK hA hG hS hl
  have hl : lv_has ls 2 [(0, .ref (L 0))] := hl
  have hf34 := hts (.fieldLink RX4 34 "SiloPads" "reader" "LSiloPads$TextReader;") (by decide +kernel)
  have hinX4 : ∀ w ∈ u_ws RX4 TX4 8, w ∈ wsX4_firstError := by decide +kernel
  have hf28 := hts (.fieldLink RX4 28 "SiloPads" "length" "I") (by decide +kernel)
  have hf24 := hts (.fieldLink RX4 24 "SiloPads" "codes" "[I") (by decide +kernel)
  refine lv_aload_n hx hb dX4_firstError_0 rfl (lv_at hl 0 rfl) ?_
  refine g_get (ci := 4) (C := RX4) (T := TX4) (M := 8) hx hb hts hinX4 hown hK hG (by omega) cW_o rfl 5 (by decide) hf34 rfl rfl dX4_firstError_1 ?_
  have hG : GW D N L (gA N L s.heap.size) (rW (cW cy L F C) (25) (cR C)) _ := hG.to (by rw [cW_R0 ])
  refine g_cVv (As := []) (rest := []) hx hb hml hown hts hK hA hG hS (k_X2_begin l D cy N L _ 25 (cR C)  (by omega)  ) (cwV 0 hts gX4_firstError_X2_begin rfl rfl rfl (by decide +kernel) ⟨Nat.le_of_ble_eq_true rfl, Nat.le_of_ble_eq_true rfl⟩) (by omega) rW_o (ci := 2) rfl rfl rfl rfl hl.1 (Nat.le_of_ble_eq_true rfl) dX4_firstError_4 ⟨Nat.zero_le _, Nat.zero_le _⟩ (fun H locs hG hS => ?_)
  have hG : GW D N L (gA N L s.heap.size) (cW cy L F (cY C, cV C, cM C, cQ C, cB C, cL C, (0, rS (cR C), rH (cR C), rK (cR C), rN (cR C)), cT C, cU C)) _ := hG.to (by rw [cW_R ] <;> rfl)
  refine lv_iconst (v := 0) hx hb dX4_firstError_7 (by decide) ?_
  refine lv_istore_n (lv' := [(1, .int 0), (0, .ref (L 0))]) hx hb dX4_firstError_8 rfl hl (by decide) rfl (fun ls hl => ?_)
  refine W.loop (σ := Nat) (fun k H locs ls => (k ≤ cL C ∧ t_err (cB C) (t_r0 (cR C)) k = k) ∧ GW D N L (gA N L s.heap.size) (cW cy L F (cY C, cV C, cM C, cQ C, cB C, cL C, r_at (cB C) (t_r0 (cR C)) k, cT C, cU C)) H ∧ va_S (gA N L s.heap.size) s.heap H locs ∧ lv_has ls 2 [(1, .int (nI k)), (0, .ref (L 0))]) (fun k => cL C - k) 0 ⟨⟨by omega, rfl⟩, hG.to (rfl), hS, lv_to (lv_sub hl [0, 1] rfl) (rfl)⟩ ?_
  intro k H locs ls hP9 ih9
  obtain ⟨⟨hk9, he9⟩, hG, hS, hl⟩ := hP9
  refine lv_iload_n hx hb dX4_firstError_9 rfl (lv_at hl 0 rfl) ?_
  refine lv_aload_n hx hb dX4_firstError_10 rfl (lv_at hl 1 rfl) ?_
  refine g_get (ci := 4) (C := RX4) (T := TX4) (M := 8) hx hb hts hinX4 hown hK hG (by omega) cW_o rfl 4 (by decide) hf28 rfl rfl dX4_firstError_11 ?_
  refine lv_icmp_ge (tgt := 41) hx hb dX4_firstError_14 (by decide) (fun c_14 => ?_) (fun c_14 => ?_)
  · skip
    have c_14 : (cL C) ≤ k := (nI_leI (a := cL C) (b := k) (by omega) (by omega)).mp c_14
    refine lv_aload_n hx hb dX4_firstError_41 rfl (lv_at hl 1 rfl) ?_
    refine g_get (ci := 4) (C := RX4) (T := TX4) (M := 8) hx hb hts hinX4 hown hK hG (by omega) cW_o rfl 4 (by decide) hf28 rfl rfl dX4_firstError_42 ?_
    exact g_iret hx hb hr hlocks hK hG hS rfl dX4_firstError_45 ⟨(congrArg (fun z9 => some (Value.int z9)) (by rw [show t_err (cB C) (t_r0 (cR C)) (cL C) = cL C by rw [show cL C = k by omega]; exact he9])), (by rw [t_end_all he9 hk9 c_14])⟩
  · skip
    have c_14 : ¬ (cL C) ≤ k := fun h9 => c_14 ((nI_leI (a := cL C) (b := k) (by omega) (by omega)).mpr h9)
    refine lv_aload_n hx hb dX4_firstError_17 rfl (lv_at hl 1 rfl) ?_
    refine g_get (ci := 4) (C := RX4) (T := TX4) (M := 8) hx hb hts hinX4 hown hK hG (by omega) cW_o rfl 5 (by decide) hf34 rfl rfl dX4_firstError_18 ?_
    refine lv_aload_n hx hb dX4_firstError_21 rfl (lv_at hl 1 rfl) ?_
    refine g_get (ci := 4) (C := RX4) (T := TX4) (M := 8) hx hb hts hinX4 hown hK hG (by omega) cW_o rfl 3 (by decide) hf24 rfl rfl dX4_firstError_22 ?_
    refine lv_iload_n hx hb dX4_firstError_25 rfl (lv_at hl 0 rfl) ?_
    refine g_iald hx hb hK hG (by omega) cW_b (k := k) rfl (by omega) (by decide) dX4_firstError_26 ?_
    have hG : GW D N L (gA N L s.heap.size) (rW (cW cy L F (cY C, cV C, cM C, cQ C, cB C, cL C, r_at (cB C) (t_r0 (cR C)) k, cT C, cU C)) (25) (r_at (cB C) (t_r0 (cR C)) k)) _ := hG.to (by rw [cW_R0 ])
    refine g_cVi (As := [.int ((cB C) k)]) (rest := []) hx hb hml hown hts hK hA hG hS (k_X2_take l D cy N L _ 25 (r_at (cB C) (t_r0 (cR C)) k)  (by omega) ((cB C) k) ) (cwV 1 hts gX4_firstError_X2_take rfl rfl rfl (by decide +kernel) ⟨Nat.le_of_ble_eq_true rfl, Nat.le_of_ble_eq_true rfl⟩) (by omega) rW_o (ci := 2) rfl rfl rfl rfl hl.1 (Nat.le_of_ble_eq_true rfl) dX4_firstError_27 ⟨Nat.zero_le _, Nat.zero_le _⟩ (fun H locs hG hS => ?_)
    have hG : GW D N L (gA N L s.heap.size) (cW cy L F (cY C, cV C, cM C, cQ C, cB C, cL C, r_takeS (r_at (cB C) (t_r0 (cR C)) k) ((cB C) k), cT C, cU C)) _ := hG.to (by rw [cW_R ] <;> rfl)
    refine lv_if_ne (tgt := 35) hx hb dX4_firstError_30 (by decide) (fun c_30 => ?_) (fun c_30 => ?_)
    · skip
      refine lv_iinc (v := nI (k + 1)) (lv' := [(1, .int (nI (k + 1))), (0, .ref (L 0))]) hx hb dX4_firstError_35 hl (k := 0) rfl (nI_add k 1) (by decide) rfl (fun ls hl => ?_)
      refine lv_goto (tgt := 9) hx hb dX4_firstError_38 (by decide) ?_
      have hl : lv_has ls 2 [(1, .int (nI (k + 1))), (0, .ref (L 0))] := lv_sub hl [0, 1] rfl
      exact ih9 (k + 1) _ _ _ (by omega) ⟨⟨by omega, t_err_ok he9 c_30⟩, hG.to (rfl), hS, lv_to hl (rfl)⟩
    · skip
      refine lv_iload_n hx hb dX4_firstError_33 rfl (lv_at hl 0 rfl) ?_
      exact g_iret hx hb hr hlocks hK hG hS rfl dX4_firstError_34 ⟨(congrArg (fun z9 => some (Value.int z9)) (by rw [t_err_bad he9 c_30 (by omega)])), (by rw [t_end_bad he9 c_30 (by omega)])⟩
set_option maxHeartbeats 4000000 in
set_option maxRecDepth 100000 in
theorem k_X4_playPart (l : Launch) (D : va_G) (cy : Nat → ClassId) (N : Nat) (L : Nat → Nat) (F : Nat → va_E) (hN : 162 ≤ N) (C : CT)  (hy : wfY (cY C)) (hnum : rN (cR C) = nI (t_n (rN (cR C)))) (hn9 : t_n (rN (cR C)) < 1000) (hsi : ¬ rK (cR C) = 43 → rS (cR C) = nI (t_n (rS (cR C))) ∧ t_n (rS (cR C)) < 4) (hsh : ¬ rK (cR C) = 43 → rH (cR C) = nI (t_n (rH (cR C))) ∧ t_n (rH (cR C)) < 6) : GM l D cy N L yX4_playPart wsX4_playPart ({ frames := 5, cells := 0, slots := 0, locals := 118 }) [.ref (L 0)] (cW cy L F C) (some (.int (t_partR (cR C) (cY C)))) (cW cy L F (t_part (cR C) (cY C), cV C, cM C, cQ C, cB C, cL C, cR C, cT C, cU C)) := by
  refine GM.ofW (cc := cX4_playPart) (maxL := 3) (ret := (some .int)) (by decide) rfl (Nat.le_of_ble_eq_true rfl) ?_
  intro p e s m below meth c ls hx hb hr hts hown hlocks hml hK hA hG hS hl
  have hl : lv_has ls 3 [(0, .ref (L 0))] := hl
  have hf34 := hts (.fieldLink RX4 34 "SiloPads" "reader" "LSiloPads$TextReader;") (by decide +kernel)
  have hinX4 : ∀ w ∈ u_ws RX4 TX4 8, w ∈ wsX4_playPart := by decide +kernel
  have hf326 := hts (.fieldLink RX4 326 "SiloPads$TextReader" "kind" "I") (by decide +kernel)
  have hinX2 : ∀ w ∈ u_ws RX2 TX2 5, w ∈ wsX4_playPart := by decide +kernel
  have hf10 := hts (.fieldLink RX4 10 "SiloPads" "now" "LSiloPads$Yard;") (by decide +kernel)
  have hf94 := hts (.fieldLink RX4 94 "SiloPads$Yard" "silos" "[LSiloPads$Silo;") (by decide +kernel)
  have hinX3 : ∀ w ∈ u_ws RX3 TX3 9, w ∈ wsX4_playPart := by decide +kernel
  have hf332 := hts (.fieldLink RX4 332 "SiloPads$TextReader" "silo" "I") (by decide +kernel)
  have hf71 := hts (.fieldLink RX4 71 "SiloPads$Yard" "ships" "[LSiloPads$Ship;") (by decide +kernel)
  have hf335 := hts (.fieldLink RX4 335 "SiloPads$TextReader" "ship" "I") (by decide +kernel)
  have hf329 := hts (.fieldLink RX4 329 "SiloPads$TextReader" "number" "I") (by decide +kernel)
  refine lv_aload_n hx hb dX4_playPart_0 rfl (lv_at hl 0 rfl) ?_
  refine g_get (ci := 4) (C := RX4) (T := TX4) (M := 8) hx hb hts hinX4 hown hK hG (by omega) cW_o rfl 5 (by decide) hf34 rfl rfl dX4_playPart_1 ?_
  refine g_get (ci := 2) (C := RX2) (T := TX2) (M := 5) hx hb hts hinX2 hown hK hG (by omega) cW_r rfl 3 (by decide) hf326 rfl rfl dX4_playPart_4 ?_
  refine lv_bipush (v := 43) hx hb dX4_playPart_7 (by decide) ?_
  refine lv_icmp_ne (tgt := 26) hx hb dX4_playPart_9 (by decide) (fun c_9 => ?_) (fun c_9 => ?_)
  · skip
    obtain ⟨hs1, hk4⟩ := hsi c_9
    obtain ⟨hs2, hj6⟩ := hsh c_9
    refine lv_aload_n hx hb dX4_playPart_26 rfl (lv_at hl 0 rfl) ?_
    refine g_get (ci := 4) (C := RX4) (T := TX4) (M := 8) hx hb hts hinX4 hown hK hG (by omega) cW_o rfl 0 (by decide) hf10 rfl rfl dX4_playPart_27 ?_
    refine g_get (ci := 3) (C := RX3) (T := TX3) (M := 9) hx hb hts hinX3 hown hK hG (by omega) cW_yo rfl 0 (by decide) hf94 rfl rfl dX4_playPart_30 ?_
    refine lv_aload_n hx hb dX4_playPart_33 rfl (lv_at hl 0 rfl) ?_
    refine g_get (ci := 4) (C := RX4) (T := TX4) (M := 8) hx hb hts hinX4 hown hK hG (by omega) cW_o rfl 5 (by decide) hf34 rfl rfl dX4_playPart_34 ?_
    refine g_get (ci := 2) (C := RX2) (T := TX2) (M := 5) hx hb hts hinX2 hown hK hG (by omega) cW_r rfl 1 (by decide) hf332 rfl rfl dX4_playPart_37 ?_
    refine lv_toN (k := t_n (rS (cR C))) ((hsi c_9).1) ?_
    refine g_aald (j := 1 + 4 + 3 * (t_n (rS (cR C)))) hx hb hK hG (by omega) cW_ys (t0 := 1) rfl (k := t_n (rS (cR C))) rfl (by omega) (by decide) rfl dX4_playPart_40 ?_
    refine lv_astore_n (lv' := [(1, .ref (L (1 + 4 + 3 * (t_n (rS (cR C)))))), (0, .ref (L 0))]) hx hb dX4_playPart_41 rfl hl (by decide) rfl (fun ls hl => ?_)
    refine lv_aload_n hx hb dX4_playPart_42 rfl (lv_at hl 1 rfl) ?_
    refine g_get (ci := 4) (C := RX4) (T := TX4) (M := 8) hx hb hts hinX4 hown hK hG (by omega) cW_o rfl 0 (by decide) hf10 rfl rfl dX4_playPart_43 ?_
    refine g_get (ci := 3) (C := RX3) (T := TX3) (M := 9) hx hb hts hinX3 hown hK hG (by omega) cW_yo rfl 1 (by decide) hf71 rfl rfl dX4_playPart_46 ?_
    refine lv_aload_n hx hb dX4_playPart_49 rfl (lv_at hl 1 rfl) ?_
    refine g_get (ci := 4) (C := RX4) (T := TX4) (M := 8) hx hb hts hinX4 hown hK hG (by omega) cW_o rfl 5 (by decide) hf34 rfl rfl dX4_playPart_50 ?_
    refine g_get (ci := 2) (C := RX2) (T := TX2) (M := 5) hx hb hts hinX2 hown hK hG (by omega) cW_r rfl 2 (by decide) hf335 rfl rfl dX4_playPart_53 ?_
    refine lv_toN (k := t_n (rH (cR C))) ((hsh c_9).1) ?_
    refine g_aald (j := 1 + 16 + (t_n (rH (cR C)))) hx hb hK hG (by omega) cW_yh (t0 := 2) rfl (k := t_n (rH (cR C))) rfl (by omega) (by decide) rfl dX4_playPart_56 ?_
    refine lv_astore_n (lv' := [(2, .ref (L (1 + 16 + (t_n (rH (cR C)))))), (1, .ref (L (1 + 4 + 3 * (t_n (rS (cR C)))))), (0, .ref (L 0))]) hx hb dX4_playPart_57 rfl hl (by decide) rfl (fun ls hl => ?_)
    refine lv_aload_n hx hb dX4_playPart_58 rfl (lv_at hl 2 rfl) ?_
    refine g_get (ci := 4) (C := RX4) (T := TX4) (M := 8) hx hb hts hinX4 hown hK hG (by omega) cW_o rfl 5 (by decide) hf34 rfl rfl dX4_playPart_59 ?_
    refine g_get (ci := 2) (C := RX2) (T := TX2) (M := 5) hx hb hts hinX2 hown hK hG (by omega) cW_r rfl 3 (by decide) hf326 rfl rfl dX4_playPart_62 ?_
    refine lv_bipush (v := 60) hx hb dX4_playPart_65 (by decide) ?_
    refine lv_icmp_ne (tgt := 84) hx hb dX4_playPart_67 (by decide) (fun c_67 => ?_) (fun c_67 => ?_)
    · skip
      refine lv_aload_n hx hb dX4_playPart_84 rfl (lv_at hl 2 rfl) ?_
      refine lv_aload_n hx hb dX4_playPart_85 rfl (lv_at hl 1 rfl) ?_
      refine lv_aload_n hx hb dX4_playPart_86 rfl (lv_at hl 0 rfl) ?_
      refine lv_aload_n hx hb dX4_playPart_87 rfl (lv_at hl 2 rfl) ?_
      refine g_get (ci := 4) (C := RX4) (T := TX4) (M := 8) hx hb hts hinX4 hown hK hG (by omega) cW_o rfl 5 (by decide) hf34 rfl rfl dX4_playPart_88 ?_
      refine g_get (ci := 2) (C := RX2) (T := TX2) (M := 5) hx hb hts hinX2 hown hK hG (by omega) cW_r rfl 4 (by decide) hf329 rfl rfl dX4_playPart_91 ?_
      refine lv_toN (k := t_n (rN (cR C))) (hnum) ?_
      refine g_cVi (As := [.ref (L (1 + 4 + 3 * (t_n (rS (cR C))))), .ref (L (1 + 16 + (t_n (rH (cR C))))), .int (nI (t_n (rN (cR C))))]) (rest := []) hx hb hml hown hts hK hA hG hS (k_X4_letOut l D cy N L _ (by omega) C (t_n (rS (cR C))) (t_n (rH (cR C))) (t_n (rN (cR C))) (hy) (by omega) (by omega) (by omega)) (cwV 3 hts gX4_playPart_X4_letOut rfl rfl rfl (by decide +kernel) ⟨Nat.le_of_ble_eq_true rfl, Nat.le_of_ble_eq_true rfl⟩) (by omega) cW_o (ci := 4) rfl rfl rfl rfl hl.1 (Nat.le_of_ble_eq_true rfl) dX4_playPart_94 ⟨Nat.zero_le _, Nat.zero_le _⟩ (fun H locs hG hS => ?_)
      exact g_iret hx hb hr hlocks hK hG hS rfl dX4_playPart_97 ⟨(congrArg (fun z9 => some (Value.int z9)) (by unfold t_partR; rw [if_neg c_9, if_neg c_67])), (by unfold t_part; rw [if_neg c_9, if_neg c_67])⟩
    · skip
      refine lv_aload_n hx hb dX4_playPart_70 rfl (lv_at hl 2 rfl) ?_
      refine lv_aload_n hx hb dX4_playPart_71 rfl (lv_at hl 1 rfl) ?_
      refine lv_aload_n hx hb dX4_playPart_72 rfl (lv_at hl 0 rfl) ?_
      refine lv_aload_n hx hb dX4_playPart_73 rfl (lv_at hl 2 rfl) ?_
      refine g_get (ci := 4) (C := RX4) (T := TX4) (M := 8) hx hb hts hinX4 hown hK hG (by omega) cW_o rfl 5 (by decide) hf34 rfl rfl dX4_playPart_74 ?_
      refine g_get (ci := 2) (C := RX2) (T := TX2) (M := 5) hx hb hts hinX2 hown hK hG (by omega) cW_r rfl 4 (by decide) hf329 rfl rfl dX4_playPart_77 ?_
      have hG : GW D N L (gA N L s.heap.size) (hW (sW cy L (cW cy L F C) (1 + 4 + 3 * (t_n (rS (cR C)))) (yS (cY C) (t_n (rS (cR C))))) (1 + 16 + (t_n (rH (cR C)))) (yH (cY C) (t_n (rH (cR C))))) _ := hG.to (by rw [cW_S0 (k := (t_n (rS (cR C)))) (by omega), cW_H0 (j := (t_n (rH (cR C)))) (by omega)])
      refine g_cVi (As := [.ref (L (1 + 4 + 3 * (t_n (rS (cR C))))), .ref (L (1 + 16 + (t_n (rH (cR C))))), .int (rN (cR C))]) (rest := []) hx hb hml hown hts hK hA hG hS (k_X4_bringIn l D cy N L _ (1 + 4 + 3 * (t_n (rS (cR C)))) (yS (cY C) (t_n (rS (cR C)))) (1 + 16 + (t_n (rH (cR C)))) (yH (cY C) (t_n (rH (cR C))))  (yZ (cY C)) (by omega) (by omega) (by omega) (by omega) (by omega) (cE_cW (F := F) (c := C)) (rN (cR C)) (hy _ hk4)) (cwV 3 hts gX4_playPart_X4_bringIn rfl rfl rfl (by decide +kernel) ⟨Nat.le_of_ble_eq_true rfl, Nat.le_of_ble_eq_true rfl⟩) (by omega) (by rw [hW_n (by omega), sW_n (by omega)]; exact cW_o) (ci := 4) rfl rfl rfl rfl hl.1 (Nat.le_of_ble_eq_true rfl) dX4_playPart_80 ⟨Nat.zero_le _, Nat.zero_le _⟩ (fun H locs hG hS => ?_)
      have hG : GW D N L (gA N L s.heap.size) (cW cy L F (ySetH (ySetS (cY C) (t_n (rS (cR C))) (s_fill (yS (cY C) (t_n (rS (cR C)))) (c_brR (yS (cY C) (t_n (rS (cR C)))) (yH (cY C) (t_n (rH (cR C)))) (rN (cR C))))) (t_n (rH (cR C))) (hT (yH (cY C) (t_n (rH (cR C)))) - c_brR (yS (cY C) (t_n (rS (cR C)))) (yH (cY C) (t_n (rH (cR C)))) (rN (cR C)), hH (yH (cY C) (t_n (rH (cR C))))), cV C, cM C, cQ C, cB C, cL C, cR C, cT C, cU C)) _ := hG.to (by rw [cW_S (k := (t_n (rS (cR C)))) (by omega), cW_H (j := (t_n (rH (cR C)))) (by omega)] <;> rfl)
      exact g_iret hx hb hr hlocks hK hG hS rfl dX4_playPart_83 ⟨(congrArg (fun z9 => some (Value.int z9)) (by unfold t_partR; rw [if_neg c_9, if_pos c_67])), (by unfold t_part; rw [if_neg c_9, if_pos c_67]; rfl)⟩
  · skip
    refine lv_aload_n hx hb dX4_playPart_12 rfl (lv_at hl 0 rfl) ?_
    refine lv_aload_n hx hb dX4_playPart_13 rfl (lv_at hl 0 rfl) ?_
    refine g_get (ci := 4) (C := RX4) (T := TX4) (M := 8) hx hb hts hinX4 hown hK hG (by omega) cW_o rfl 5 (by decide) hf34 rfl rfl dX4_playPart_14 ?_
    refine g_get (ci := 2) (C := RX2) (T := TX2) (M := 5) hx hb hts hinX2 hown hK hG (by omega) cW_r rfl 4 (by decide) hf329 rfl rfl dX4_playPart_17 ?_
    refine lv_toN (k := t_n (rN (cR C))) (hnum) ?_
    refine g_cVi (As := [.int (nI (t_n (rN (cR C))))]) (rest := []) hx hb hml hown hts hK hA hG hS (k_X4_passDays l D cy N L _ (by omega) C (t_n (rN (cR C))) (hy) (by omega)) (cwV 1 hts gX4_playPart_X4_passDays rfl rfl rfl (by decide +kernel) ⟨Nat.le_of_ble_eq_true rfl, Nat.le_of_ble_eq_true rfl⟩) (by omega) cW_o (ci := 4) rfl rfl rfl rfl hl.1 (Nat.le_of_ble_eq_true rfl) dX4_playPart_20 ⟨Nat.zero_le _, Nat.zero_le _⟩ (fun H locs hG hS => ?_)
    refine lv_pop hx hb dX4_playPart_23 rfl ?_
    refine lv_iconst (v := 0) hx hb dX4_playPart_24 (by decide) ?_
    exact g_iret hx hb hr hlocks hK hG hS rfl dX4_playPart_25 ⟨(congrArg (fun z9 => some (Value.int z9)) (by unfold t_partR; rw [if_pos c_9])), (by unfold t_part; rw [if_pos c_9])⟩
set_option maxHeartbeats 4000000 in
set_option maxRecDepth 100000 in
theorem k_X4_playParts (l : Launch) (D : va_G) (cy : Nat → ClassId) (N : Nat) (L : Nat → Nat) (F : Nat → va_E) (hN : 162 ≤ N) (C : CT)  (hy : wfY (cY C)) (hl60 : cL C ≤ 60) (hr1 : ∀ k, k < cL C → cB C k = 59 → rOK (r_at (cB C) (t_r0 (cR C)) k)) (hr2 : rOK (r_at (cB C) (t_r0 (cR C)) (cL C))) : GM l D cy N L yX4_playParts wsX4_playParts ({ frames := 6, cells := 0, slots := 0, locals := 140 }) [.ref (L 0)] (cW cy L F C) (some (.int (t_pR (cB C) (t_r0 (cR C)) (cY C) (cL C) + t_partR (r_at (cB C) (t_r0 (cR C)) (cL C)) (t_pY (cB C) (t_r0 (cR C)) (cY C) (cL C))))) (cW cy L F (t_part (r_at (cB C) (t_r0 (cR C)) (cL C)) (t_pY (cB C) (t_r0 (cR C)) (cY C) (cL C)), cV C, cM C, cQ C, cB C, cL C, r_at (cB C) (t_r0 (cR C)) (cL C), cT C, cU C)) := by
  refine GM.ofW (cc := cX4_playParts) (maxL := 3) (ret := (some .int)) (by decide) rfl (Nat.le_of_ble_eq_true rfl) ?_
  intro p e s m below meth c ls hx hb hr hts hown hlocks hml hK hA hG hS hl
  have hl : lv_has ls 3 [(0, .ref (L 0))] := hl
  have hf34 := hts (.fieldLink RX4 34 "SiloPads" "reader" "LSiloPads$TextReader;") (by decide +kernel)
  have hinX4 : ∀ w ∈ u_ws RX4 TX4 8, w ∈ wsX4_playParts := by decide +kernel
  have hf28 := hts (.fieldLink RX4 28 "SiloPads" "length" "I") (by decide +kernel)
  have hf24 := hts (.fieldLink RX4 24 "SiloPads" "codes" "[I") (by decide +kernel)
  refine lv_iconst (v := 0) hx hb dX4_playParts_0 (by decide) ?_
  refine lv_istore_n (lv' := [(1, .int 0), (0, .ref (L 0))]) hx hb dX4_playParts_1 rfl hl (by decide) rfl (fun ls hl => ?_)
  refine lv_aload_n hx hb dX4_playParts_2 rfl (lv_at hl 1 rfl) ?_
  refine g_get (ci := 4) (C := RX4) (T := TX4) (M := 8) hx hb hts hinX4 hown hK hG (by omega) cW_o rfl 5 (by decide) hf34 rfl rfl dX4_playParts_3 ?_
  have hG : GW D N L (gA N L s.heap.size) (rW (cW cy L F C) (25) (cR C)) _ := hG.to (by rw [cW_R0 ])
  refine g_cVv (As := []) (rest := []) hx hb hml hown hts hK hA hG hS (k_X2_begin l D cy N L _ 25 (cR C)  (by omega)  ) (cwV 0 hts gX4_playParts_X2_begin rfl rfl rfl (by decide +kernel) ⟨Nat.le_of_ble_eq_true rfl, Nat.le_of_ble_eq_true rfl⟩) (by omega) rW_o (ci := 2) rfl rfl rfl rfl hl.1 (Nat.le_of_ble_eq_true rfl) dX4_playParts_6 ⟨Nat.zero_le _, Nat.zero_le _⟩ (fun H locs hG hS => ?_)
  have hG : GW D N L (gA N L s.heap.size) (cW cy L F (cY C, cV C, cM C, cQ C, cB C, cL C, (0, rS (cR C), rH (cR C), rK (cR C), rN (cR C)), cT C, cU C)) _ := hG.to (by rw [cW_R ] <;> rfl)
  refine lv_iconst (v := 0) hx hb dX4_playParts_9 (by decide) ?_
  refine lv_istore_n (lv' := [(2, .int 0), (1, .int 0), (0, .ref (L 0))]) hx hb dX4_playParts_10 rfl hl (by decide) rfl (fun ls hl => ?_)
  refine W.loop (σ := Nat) (fun k H locs ls => (k ≤ cL C) ∧ GW D N L (gA N L s.heap.size) (cW cy L F (t_pY (cB C) (t_r0 (cR C)) (cY C) k, cV C, cM C, cQ C, cB C, cL C, r_at (cB C) (t_r0 (cR C)) k, cT C, cU C)) H ∧ va_S (gA N L s.heap.size) s.heap H locs ∧ lv_has ls 3 [(1, .int (t_pR (cB C) (t_r0 (cR C)) (cY C) k)), (2, .int (nI k)), (0, .ref (L 0))]) (fun k => cL C - k) 0 ⟨by omega, hG.to (rfl), hS, lv_to (lv_sub hl [1, 0, 2] rfl) (rfl)⟩ ?_
  intro k H locs ls hP9 ih11
  obtain ⟨hk9, hG, hS, hl⟩ := hP9
  have hy9 := wfY_pY hy hr1 k hk9
  refine lv_iload_n hx hb dX4_playParts_11 rfl (lv_at hl 1 rfl) ?_
  refine lv_aload_n hx hb dX4_playParts_12 rfl (lv_at hl 2 rfl) ?_
  refine g_get (ci := 4) (C := RX4) (T := TX4) (M := 8) hx hb hts hinX4 hown hK hG (by omega) cW_o rfl 4 (by decide) hf28 rfl rfl dX4_playParts_13 ?_
  refine lv_icmp_ge (tgt := 57) hx hb dX4_playParts_16 (by decide) (fun c_16 => ?_) (fun c_16 => ?_)
  · skip
    have c_16 : (cL C) ≤ k := (nI_leI (a := cL C) (b := k) (by omega) (by omega)).mp c_16
    have hkn : k = cL C := by omega
    have hrk : rOK (r_at (cB C) (t_r0 (cR C)) k) := by rw [hkn]; exact hr2
    refine lv_iload_n hx hb dX4_playParts_57 rfl (lv_at hl 0 rfl) ?_
    refine lv_aload_n hx hb dX4_playParts_58 rfl (lv_at hl 2 rfl) ?_
    refine g_cVi (As := []) (rest := [.int (t_pR (cB C) (t_r0 (cR C)) (cY C) k)]) hx hb hml hown hts hK hA hG hS (k_X4_playPart l D cy N L _ (by omega) (t_pY (cB C) (t_r0 (cR C)) (cY C) k, cV C, cM C, cQ C, cB C, cL C, r_at (cB C) (t_r0 (cR C)) k, cT C, cU C)  (hy9) (hrk.1) (hrk.2.1) (hrk.2.2.1) (hrk.2.2.2)) (cwV 0 hts gX4_playParts_X4_playPart rfl rfl rfl (by decide +kernel) ⟨Nat.le_of_ble_eq_true rfl, Nat.le_of_ble_eq_true rfl⟩) (by omega) cW_o (ci := 4) rfl rfl rfl rfl hl.1 (Nat.le_of_ble_eq_true rfl) dX4_playParts_59 ⟨Nat.zero_le _, Nat.zero_le _⟩ (fun H locs hG hS => ?_)
    refine lv_iadd hx hb dX4_playParts_62 ?_
    exact g_iret hx hb hr hlocks hK hG hS rfl dX4_playParts_63 ⟨(congrArg (fun z9 => some (Value.int z9)) (by rw [hkn])), (by rw [hkn])⟩
  · skip
    have c_16 : ¬ (cL C) ≤ k := fun h9 => c_16 ((nI_leI (a := cL C) (b := k) (by omega) (by omega)).mpr h9)
    refine lv_aload_n hx hb dX4_playParts_19 rfl (lv_at hl 2 rfl) ?_
    refine g_get (ci := 4) (C := RX4) (T := TX4) (M := 8) hx hb hts hinX4 hown hK hG (by omega) cW_o rfl 3 (by decide) hf24 rfl rfl dX4_playParts_20 ?_
    refine lv_iload_n hx hb dX4_playParts_23 rfl (lv_at hl 1 rfl) ?_
    refine g_iald hx hb hK hG (by omega) cW_b (k := k) rfl (by omega) (by decide) dX4_playParts_24 ?_
    refine lv_bipush (v := 59) hx hb dX4_playParts_25 (by decide) ?_
    refine lv_icmp_ne (tgt := 37) hx hb dX4_playParts_27 (by decide) (fun c_27 => ?_) (fun c_27 => ?_)
    · skip
      refine lv_aload_n hx hb dX4_playParts_37 rfl (lv_at hl 2 rfl) ?_
      refine g_get (ci := 4) (C := RX4) (T := TX4) (M := 8) hx hb hts hinX4 hown hK hG (by omega) cW_o rfl 5 (by decide) hf34 rfl rfl dX4_playParts_38 ?_
      refine lv_aload_n hx hb dX4_playParts_41 rfl (lv_at hl 2 rfl) ?_
      refine g_get (ci := 4) (C := RX4) (T := TX4) (M := 8) hx hb hts hinX4 hown hK hG (by omega) cW_o rfl 3 (by decide) hf24 rfl rfl dX4_playParts_42 ?_
      refine lv_iload_n hx hb dX4_playParts_45 rfl (lv_at hl 1 rfl) ?_
      refine g_iald hx hb hK hG (by omega) cW_b (k := k) rfl (by omega) (by decide) dX4_playParts_46 ?_
      have hG : GW D N L (gA N L s.heap.size) (rW (cW cy L F (t_pY (cB C) (t_r0 (cR C)) (cY C) k, cV C, cM C, cQ C, cB C, cL C, r_at (cB C) (t_r0 (cR C)) k, cT C, cU C)) (25) (r_at (cB C) (t_r0 (cR C)) k)) _ := hG.to (by rw [cW_R0 ])
      refine g_cVi (As := [.int ((cB C) k)]) (rest := []) hx hb hml hown hts hK hA hG hS (k_X2_take l D cy N L _ 25 (r_at (cB C) (t_r0 (cR C)) k)  (by omega) ((cB C) k) ) (cwV 1 hts gX4_playParts_X2_take rfl rfl rfl (by decide +kernel) ⟨Nat.le_of_ble_eq_true rfl, Nat.le_of_ble_eq_true rfl⟩) (by omega) rW_o (ci := 2) rfl rfl rfl rfl hl.1 (Nat.le_of_ble_eq_true rfl) dX4_playParts_47 ⟨Nat.zero_le _, Nat.zero_le _⟩ (fun H locs hG hS => ?_)
      have hG : GW D N L (gA N L s.heap.size) (cW cy L F (t_pY (cB C) (t_r0 (cR C)) (cY C) k, cV C, cM C, cQ C, cB C, cL C, r_takeS (r_at (cB C) (t_r0 (cR C)) k) ((cB C) k), cT C, cU C)) _ := hG.to (by rw [cW_R ] <;> rfl)
      refine lv_pop hx hb dX4_playParts_50 rfl ?_
      refine lv_iinc (v := nI (k + 1)) (lv' := [(2, .int (nI (k + 1))), (1, .int (t_pR (cB C) (t_r0 (cR C)) (cY C) k)), (0, .ref (L 0))]) hx hb dX4_playParts_51 hl (k := 1) rfl (nI_add k 1) (by decide) rfl (fun ls hl => ?_)
      refine lv_goto (tgt := 11) hx hb dX4_playParts_54 (by decide) ?_
      have hl : lv_has ls 3 [(1, .int (t_pR (cB C) (t_r0 (cR C)) (cY C) k)), (2, .int (nI (k + 1))), (0, .ref (L 0))] := lv_sub hl [1, 0, 2] rfl
      exact ih11 (k + 1) _ _ _ (by omega) ⟨by omega, hG.to (by first | rw [t_pY_1 c_27]; rfl | rw [t_pY_0 c_27]; rfl), hS, lv_to hl (by first | rw [t_pR_1 c_27] | rw [t_pR_0 c_27])⟩
    · skip
      have hrk := hr1 k (by omega) c_27
      refine lv_iload_n hx hb dX4_playParts_30 rfl (lv_at hl 0 rfl) ?_
      refine lv_aload_n hx hb dX4_playParts_31 rfl (lv_at hl 2 rfl) ?_
      refine g_cVi (As := []) (rest := [.int (t_pR (cB C) (t_r0 (cR C)) (cY C) k)]) hx hb hml hown hts hK hA hG hS (k_X4_playPart l D cy N L _ (by omega) (t_pY (cB C) (t_r0 (cR C)) (cY C) k, cV C, cM C, cQ C, cB C, cL C, r_at (cB C) (t_r0 (cR C)) k, cT C, cU C)  (hy9) (hrk.1) (hrk.2.1) (hrk.2.2.1) (hrk.2.2.2)) (cwV 0 hts gX4_playParts_X4_playPart rfl rfl rfl (by decide +kernel) ⟨Nat.le_of_ble_eq_true rfl, Nat.le_of_ble_eq_true rfl⟩) (by omega) cW_o (ci := 4) rfl rfl rfl rfl hl.1 (Nat.le_of_ble_eq_true rfl) dX4_playParts_32 ⟨Nat.zero_le _, Nat.zero_le _⟩ (fun H locs hG hS => ?_)
      refine lv_iadd hx hb dX4_playParts_35 ?_
      refine lv_istore_n (lv' := [(1, .int ((t_pR (cB C) (t_r0 (cR C)) (cY C) k) + (t_partR (cR (t_pY (cB C) (t_r0 (cR C)) (cY C) k, cV C, cM C, cQ C, cB C, cL C, r_at (cB C) (t_r0 (cR C)) k, cT C, cU C)) (cY (t_pY (cB C) (t_r0 (cR C)) (cY C) k, cV C, cM C, cQ C, cB C, cL C, r_at (cB C) (t_r0 (cR C)) k, cT C, cU C))))), (2, .int (nI k)), (0, .ref (L 0))]) hx hb dX4_playParts_36 rfl hl (by decide) rfl (fun ls hl => ?_)
      refine lv_aload_n hx hb dX4_playParts_37 rfl (lv_at hl 2 rfl) ?_
      refine g_get (ci := 4) (C := RX4) (T := TX4) (M := 8) hx hb hts hinX4 hown hK hG (by omega) cW_o rfl 5 (by decide) hf34 rfl rfl dX4_playParts_38 ?_
      refine lv_aload_n hx hb dX4_playParts_41 rfl (lv_at hl 2 rfl) ?_
      refine g_get (ci := 4) (C := RX4) (T := TX4) (M := 8) hx hb hts hinX4 hown hK hG (by omega) cW_o rfl 3 (by decide) hf24 rfl rfl dX4_playParts_42 ?_
      refine lv_iload_n hx hb dX4_playParts_45 rfl (lv_at hl 1 rfl) ?_
      refine g_iald hx hb hK hG (by omega) cW_b (k := k) rfl (by omega) (by decide) dX4_playParts_46 ?_
      have hG : GW D N L (gA N L s.heap.size) (rW (cW cy L F (t_part (cR (t_pY (cB C) (t_r0 (cR C)) (cY C) k, cV C, cM C, cQ C, cB C, cL C, r_at (cB C) (t_r0 (cR C)) k, cT C, cU C)) (cY (t_pY (cB C) (t_r0 (cR C)) (cY C) k, cV C, cM C, cQ C, cB C, cL C, r_at (cB C) (t_r0 (cR C)) k, cT C, cU C)), cV C, cM C, cQ C, cB C, cL C, r_at (cB C) (t_r0 (cR C)) k, cT C, cU C)) (25) (r_at (cB C) (t_r0 (cR C)) k)) _ := hG.to (by rw [cW_R0 ])
      refine g_cVi (As := [.int ((cB C) k)]) (rest := []) hx hb hml hown hts hK hA hG hS (k_X2_take l D cy N L _ 25 (r_at (cB C) (t_r0 (cR C)) k)  (by omega) ((cB C) k) ) (cwV 1 hts gX4_playParts_X2_take rfl rfl rfl (by decide +kernel) ⟨Nat.le_of_ble_eq_true rfl, Nat.le_of_ble_eq_true rfl⟩) (by omega) rW_o (ci := 2) rfl rfl rfl rfl hl.1 (Nat.le_of_ble_eq_true rfl) dX4_playParts_47 ⟨Nat.zero_le _, Nat.zero_le _⟩ (fun H locs hG hS => ?_)
      have hG : GW D N L (gA N L s.heap.size) (cW cy L F (t_part (cR (t_pY (cB C) (t_r0 (cR C)) (cY C) k, cV C, cM C, cQ C, cB C, cL C, r_at (cB C) (t_r0 (cR C)) k, cT C, cU C)) (cY (t_pY (cB C) (t_r0 (cR C)) (cY C) k, cV C, cM C, cQ C, cB C, cL C, r_at (cB C) (t_r0 (cR C)) k, cT C, cU C)), cV C, cM C, cQ C, cB C, cL C, r_takeS (r_at (cB C) (t_r0 (cR C)) k) ((cB C) k), cT C, cU C)) _ := hG.to (by rw [cW_R ] <;> rfl)
      refine lv_pop hx hb dX4_playParts_50 rfl ?_
      refine lv_iinc (v := nI (k + 1)) (lv' := [(2, .int (nI (k + 1))), (1, .int ((t_pR (cB C) (t_r0 (cR C)) (cY C) k) + (t_partR (cR (t_pY (cB C) (t_r0 (cR C)) (cY C) k, cV C, cM C, cQ C, cB C, cL C, r_at (cB C) (t_r0 (cR C)) k, cT C, cU C)) (cY (t_pY (cB C) (t_r0 (cR C)) (cY C) k, cV C, cM C, cQ C, cB C, cL C, r_at (cB C) (t_r0 (cR C)) k, cT C, cU C))))), (0, .ref (L 0))]) hx hb dX4_playParts_51 hl (k := 1) rfl (nI_add k 1) (by decide) rfl (fun ls hl => ?_)
      refine lv_goto (tgt := 11) hx hb dX4_playParts_54 (by decide) ?_
      have hl : lv_has ls 3 [(1, .int ((t_pR (cB C) (t_r0 (cR C)) (cY C) k) + (t_partR (cR (t_pY (cB C) (t_r0 (cR C)) (cY C) k, cV C, cM C, cQ C, cB C, cL C, r_at (cB C) (t_r0 (cR C)) k, cT C, cU C)) (cY (t_pY (cB C) (t_r0 (cR C)) (cY C) k, cV C, cM C, cQ C, cB C, cL C, r_at (cB C) (t_r0 (cR C)) k, cT C, cU C))))), (2, .int (nI (k + 1))), (0, .ref (L 0))] := lv_sub hl [1, 0, 2] rfl
      exact ih11 (k + 1) _ _ _ (by omega) ⟨by omega, hG.to (by first | rw [t_pY_1 c_27]; rfl | rw [t_pY_0 c_27]; rfl), hS, lv_to hl (by first | rw [t_pR_1 c_27] | rw [t_pR_0 c_27])⟩
set_option maxHeartbeats 4000000 in
set_option maxRecDepth 100000 in
theorem k_X4_play_ok (l : Launch) (D : va_G) (cy : Nat → ClassId) (N : Nat) (L : Nat → Nat) (F : Nat → va_E) (hN : 162 ≤ N) (C : CT)  (hy : wfY (cY C)) (hq : cQ C ≤ 6) (hm : ∀ i, i < 6 → cM C i < 6) (hl60 : cL C ≤ 60) (hgo : ¬ t_err (cB C) (t_r0 (cR C)) (cL C) < cL C) (hdo : ¬ r_done (t_end (cB C) (t_r0 (cR C)) (cL C)) = 0) (hr1 : ∀ k, k < cL (c_save (c_read C)) → cB (c_save (c_read C)) k = 59 → rOK (r_at (cB (c_save (c_read C))) (t_r0 (cR (c_save (c_read C)))) k)) (hr2 : rOK (r_at (cB (c_save (c_read C))) (t_r0 (cR (c_save (c_read C)))) (cL (c_save (c_read C))))) : GM l D cy N L yX4_play wsX4_play ({ frames := 7, cells := 0, slots := 0, locals := 162 }) [.ref (L 0)] (cW cy L F C) (some (.int (c_playR (c_save (c_read C))))) (cW cy L F (c_play (c_save (c_read C)))) := by
  refine GM.ofW (cc := cX4_play) (maxL := 2) (ret := (some .int)) (by decide) rfl (Nat.le_of_ble_eq_true rfl) ?_
  intro p e s m below meth c ls hx hb hr hts hown hlocks hml hK hA hG hS hl
  have hl : lv_has ls 2 [(0, .ref (L 0))] := hl
  have hf28 := hts (.fieldLink RX4 28 "SiloPads" "length" "I") (by decide +kernel)
  have hinX4 : ∀ w ∈ u_ws RX4 TX4 8, w ∈ wsX4_play := by decide +kernel
  have hf34 := hts (.fieldLink RX4 34 "SiloPads" "reader" "LSiloPads$TextReader;") (by decide +kernel)
  have hte := t_err_le (b := cB C) (r := t_r0 (cR C)) (cL C)
  refine lv_aload_n hx hb dX4_play_0 rfl (lv_at hl 0 rfl) ?_
  refine g_cVi (As := []) (rest := []) hx hb hml hown hts hK hA hG hS (k_X4_firstError l D cy N L _ (by omega) C  (hl60)) (cwV 0 hts gX4_play_X4_firstError rfl rfl rfl (by decide +kernel) ⟨Nat.le_of_ble_eq_true rfl, Nat.le_of_ble_eq_true rfl⟩) (by omega) cW_o (ci := 4) rfl rfl rfl rfl hl.1 (Nat.le_of_ble_eq_true rfl) dX4_play_1 ⟨Nat.zero_le _, Nat.zero_le _⟩ (fun H locs hG hS => ?_)
  refine lv_aload_n hx hb dX4_play_4 rfl (lv_at hl 0 rfl) ?_
  refine g_get (ci := 4) (C := RX4) (T := TX4) (M := 8) hx hb hts hinX4 hown hK hG (by omega) cW_o rfl 4 (by decide) hf28 rfl rfl dX4_play_5 ?_
  refine lv_icmp_lt (tgt := 21) hx hb dX4_play_8 (by decide) (fun c_8 => ?_) (fun c_8 => ?_)
  · skip
    have c_8 : (t_err (cB C) (t_r0 (cR C)) (cL C)) < (cL C) := (nI_ltI (a := t_err (cB C) (t_r0 (cR C)) (cL C)) (b := cL C) (by omega) (by omega)).mp c_8
    exfalso; omega
  · skip
    have c_8 : ¬ (t_err (cB C) (t_r0 (cR C)) (cL C)) < (cL C) := fun h9 => c_8 ((nI_ltI (a := t_err (cB C) (t_r0 (cR C)) (cL C)) (b := cL C) (by omega) (by omega)).mpr h9)
    refine lv_aload_n hx hb dX4_play_11 rfl (lv_at hl 0 rfl) ?_
    refine g_get (ci := 4) (C := RX4) (T := TX4) (M := 8) hx hb hts hinX4 hown hK hG (by omega) cW_o rfl 5 (by decide) hf34 rfl rfl dX4_play_12 ?_
    have hG : GW D N L (gA N L s.heap.size) (rW (cW cy L F (cY C, cV C, cM C, cQ C, cB C, cL C, t_end (cB C) (t_r0 (cR C)) (cL C), cT C, cU C)) (25) (t_end (cB C) (t_r0 (cR C)) (cL C))) _ := hG.to (by rw [cW_R0 ])
    refine g_cVi (As := []) (rest := []) hx hb hml hown hts hK hA hG hS (k_X2_isComplete l D cy N L _ 25 (t_end (cB C) (t_r0 (cR C)) (cL C))  (by omega)  ) (cwV 0 hts gX4_play_X2_isComplete rfl rfl rfl (by decide +kernel) ⟨Nat.le_of_ble_eq_true rfl, Nat.le_of_ble_eq_true rfl⟩) (by omega) rW_o (ci := 2) rfl rfl rfl rfl hl.1 (Nat.le_of_ble_eq_true rfl) dX4_play_15 ⟨Nat.zero_le _, Nat.zero_le _⟩ (fun H locs hG hS => ?_)
    have hG : GW D N L (gA N L s.heap.size) (cW cy L F (cY C, cV C, cM C, cQ C, cB C, cL C, t_end (cB C) (t_r0 (cR C)) (cL C), cT C, cU C)) _ := hG.to (by rw [cW_R0 ] <;> rfl)
    refine lv_if_ne (tgt := 31) hx hb dX4_play_18 (by decide) (fun c_18 => ?_) (fun c_18 => ?_)
    · skip
      refine lv_aload_n hx hb dX4_play_31 rfl (lv_at hl 0 rfl) ?_
      refine g_cVv (As := []) (rest := []) hx hb hml hown hts hK hA hG hS (k_X4_saveState l D cy N L _ (by omega) (cY C, cV C, cM C, cQ C, cB C, cL C, t_end (cB C) (t_r0 (cR C)) (cL C), cT C, cU C)  (hq) (hm)) (cwV 0 hts gX4_play_X4_saveState rfl rfl rfl (by decide +kernel) ⟨Nat.le_of_ble_eq_true rfl, Nat.le_of_ble_eq_true rfl⟩) (by omega) cW_o (ci := 4) rfl rfl rfl rfl hl.1 (Nat.le_of_ble_eq_true rfl) dX4_play_32 ⟨Nat.zero_le _, Nat.zero_le _⟩ (fun H locs hG hS => ?_)
      refine lv_aload_n hx hb dX4_play_35 rfl (lv_at hl 0 rfl) ?_
      refine g_cVi (As := []) (rest := []) hx hb hml hown hts hK hA hG hS (k_X4_playParts l D cy N L _ (by omega) (c_save (cY C, cV C, cM C, cQ C, cB C, cL C, t_end (cB C) (t_r0 (cR C)) (cL C), cT C, cU C))  (hy) (hl60) (hr1) (hr2)) (cwV 0 hts gX4_play_X4_playParts rfl rfl rfl (by decide +kernel) ⟨Nat.le_of_ble_eq_true rfl, Nat.le_of_ble_eq_true rfl⟩) (by omega) cW_o (ci := 4) rfl rfl rfl rfl hl.1 (Nat.le_of_ble_eq_true rfl) dX4_play_36 ⟨Nat.zero_le _, Nat.zero_le _⟩ (fun H locs hG hS => ?_)
      refine lv_istore_n (lv' := [(1, .int (t_pR (cB (c_save (cY C, cV C, cM C, cQ C, cB C, cL C, t_end (cB C) (t_r0 (cR C)) (cL C), cT C, cU C))) (t_r0 (cR (c_save (cY C, cV C, cM C, cQ C, cB C, cL C, t_end (cB C) (t_r0 (cR C)) (cL C), cT C, cU C)))) (cY (c_save (cY C, cV C, cM C, cQ C, cB C, cL C, t_end (cB C) (t_r0 (cR C)) (cL C), cT C, cU C))) (cL (c_save (cY C, cV C, cM C, cQ C, cB C, cL C, t_end (cB C) (t_r0 (cR C)) (cL C), cT C, cU C))) + t_partR (r_at (cB (c_save (cY C, cV C, cM C, cQ C, cB C, cL C, t_end (cB C) (t_r0 (cR C)) (cL C), cT C, cU C))) (t_r0 (cR (c_save (cY C, cV C, cM C, cQ C, cB C, cL C, t_end (cB C) (t_r0 (cR C)) (cL C), cT C, cU C)))) (cL (c_save (cY C, cV C, cM C, cQ C, cB C, cL C, t_end (cB C) (t_r0 (cR C)) (cL C), cT C, cU C)))) (t_pY (cB (c_save (cY C, cV C, cM C, cQ C, cB C, cL C, t_end (cB C) (t_r0 (cR C)) (cL C), cT C, cU C))) (t_r0 (cR (c_save (cY C, cV C, cM C, cQ C, cB C, cL C, t_end (cB C) (t_r0 (cR C)) (cL C), cT C, cU C)))) (cY (c_save (cY C, cV C, cM C, cQ C, cB C, cL C, t_end (cB C) (t_r0 (cR C)) (cL C), cT C, cU C))) (cL (c_save (cY C, cV C, cM C, cQ C, cB C, cL C, t_end (cB C) (t_r0 (cR C)) (cL C), cT C, cU C)))))), (0, .ref (L 0))]) hx hb dX4_play_39 rfl hl (by decide) rfl (fun ls hl => ?_)
      refine lv_aload_n hx hb dX4_play_40 rfl (lv_at hl 1 rfl) ?_
      refine lv_iconst (v := 0) hx hb dX4_play_41 (by decide) ?_
      refine g_put (ci := 4) (C := RX4) (T := TX4) (M := 8) (ty := .int) hx hb hts hinX4 tyX4 tyX4_ok nmX4 hown hK hG hS (by omega) cW_o rfl 4 (by decide) hf28 rfl rfl rfl rfl rfl (Nat.le_of_ble_eq_true rfl) dX4_play_42 rfl (fun H locs hG hS => ?_)
      have hG : GW D N L (gA N L s.heap.size) (cW cy L F (t_part (r_at (cB (c_save (cY C, cV C, cM C, cQ C, cB C, cL C, t_end (cB C) (t_r0 (cR C)) (cL C), cT C, cU C))) (t_r0 (cR (c_save (cY C, cV C, cM C, cQ C, cB C, cL C, t_end (cB C) (t_r0 (cR C)) (cL C), cT C, cU C)))) (cL (c_save (cY C, cV C, cM C, cQ C, cB C, cL C, t_end (cB C) (t_r0 (cR C)) (cL C), cT C, cU C)))) (t_pY (cB (c_save (cY C, cV C, cM C, cQ C, cB C, cL C, t_end (cB C) (t_r0 (cR C)) (cL C), cT C, cU C))) (t_r0 (cR (c_save (cY C, cV C, cM C, cQ C, cB C, cL C, t_end (cB C) (t_r0 (cR C)) (cL C), cT C, cU C)))) (cY (c_save (cY C, cV C, cM C, cQ C, cB C, cL C, t_end (cB C) (t_r0 (cR C)) (cL C), cT C, cU C))) (cL (c_save (cY C, cV C, cM C, cQ C, cB C, cL C, t_end (cB C) (t_r0 (cR C)) (cL C), cT C, cU C)))), cV (c_save (cY C, cV C, cM C, cQ C, cB C, cL C, t_end (cB C) (t_r0 (cR C)) (cL C), cT C, cU C)), cM (c_save (cY C, cV C, cM C, cQ C, cB C, cL C, t_end (cB C) (t_r0 (cR C)) (cL C), cT C, cU C)), cQ (c_save (cY C, cV C, cM C, cQ C, cB C, cL C, t_end (cB C) (t_r0 (cR C)) (cL C), cT C, cU C)), cB (c_save (cY C, cV C, cM C, cQ C, cB C, cL C, t_end (cB C) (t_r0 (cR C)) (cL C), cT C, cU C)), 0, r_at (cB (c_save (cY C, cV C, cM C, cQ C, cB C, cL C, t_end (cB C) (t_r0 (cR C)) (cL C), cT C, cU C))) (t_r0 (cR (c_save (cY C, cV C, cM C, cQ C, cB C, cL C, t_end (cB C) (t_r0 (cR C)) (cL C), cT C, cU C)))) (cL (c_save (cY C, cV C, cM C, cQ C, cB C, cL C, t_end (cB C) (t_r0 (cR C)) (cL C), cT C, cU C))), cT (c_save (cY C, cV C, cM C, cQ C, cB C, cL C, t_end (cB C) (t_r0 (cR C)) (cL C), cT C, cU C)), cU (c_save (cY C, cV C, cM C, cQ C, cB C, cL C, t_end (cB C) (t_r0 (cR C)) (cL C), cT C, cU C)))) _ := hG.to cW_uo
      refine lv_iload_n hx hb dX4_play_45 rfl (lv_at hl 0 rfl) ?_
      exact g_iret hx hb hr hlocks hK hG hS rfl dX4_play_46 ⟨(congrArg (fun z9 => some (Value.int z9)) (by rfl)), (by rfl)⟩
    · skip
      exact absurd c_18 hdo
set_option maxHeartbeats 4000000 in
set_option maxRecDepth 100000 in
theorem k_X4_play_t1a (l : Launch) (hst : l.stackTraces = false) (D : va_G) (cy : Nat → ClassId) (N : Nat) (L : Nat → Nat) (F : Nat → va_E) (hN : 162 ≤ N) (C : CT)  (hl60 : cL C ≤ 60) (h : t_err (cB C) (t_r0 (cR C)) (cL C) < cL C) : GX2 l D cy N L yX4_play wsX4_play ({ frames := 7, cells := 1, slots := 6, locals := 162 }) [.ref (L 0)] (cW cy L F C) (cW cy L F (cY C, cV C, cM C, cQ C, cB C, cL C, t_end (cB C) (t_r0 (cR C)) (cL C), cT C, cU C)) xA := by
  refine GX2.ofW (cc := cX4_play) (maxL := 2) (ret := (some .int)) (by decide) rfl (Nat.le_of_ble_eq_true rfl) ?_
  intro p e s m below meth c ls hx hb hr hts hown hlocks hml hK hA hG hS hl hno
  have hl : lv_has ls 2 [(0, .ref (L 0))] := hl
  have hf28 := hts (.fieldLink RX4 28 "SiloPads" "length" "I") (by decide +kernel)
  have hinX4 : ∀ w ∈ u_ws RX4 TX4 8, w ∈ wsX4_play := by decide +kernel
  have hte := t_err_le (b := cB C) (r := t_r0 (cR C)) (cL C)
  refine lv_aload_n hx hb dX4_play_0 rfl (lv_at hl 0 rfl) ?_
  refine g_cVi (As := []) (rest := []) hx hb hml hown hts hK hA hG hS (k_X4_firstError l D cy N L _ (by omega) C  (hl60)) (cwV 0 hts gX4_play_X4_firstError rfl rfl rfl (by decide +kernel) ⟨Nat.le_of_ble_eq_true rfl, Nat.le_of_ble_eq_true rfl⟩) (by omega) cW_o (ci := 4) rfl rfl rfl rfl hl.1 (Nat.le_of_ble_eq_true rfl) dX4_play_1 ⟨Nat.zero_le _, Nat.zero_le _⟩ (fun H locs hG hS => ?_)
  refine lv_aload_n hx hb dX4_play_4 rfl (lv_at hl 0 rfl) ?_
  refine g_get (ci := 4) (C := RX4) (T := TX4) (M := 8) hx hb hts hinX4 hown hK hG (by omega) cW_o rfl 4 (by decide) hf28 rfl rfl dX4_play_5 ?_
  refine lv_icmp_lt (tgt := 21) hx hb dX4_play_8 (by decide) (fun c_8 => ?_) (fun c_8 => ?_)
  · skip
    have c_8 : (t_err (cB C) (t_r0 (cR C)) (cL C)) < (cL C) := (nI_ltI (a := t_err (cB C) (t_r0 (cR C)) (cL C)) (b := cL C) (by omega) (by omega)).mp c_8
    exact g_thr (cls := xA) (ik := 63) (is := 179) (ic := 67) (text := "no complete loads as a text") hx hb hst hown hts hlocks hml hK hG hS hno hl.1 (by decide) (by decide +kernel) (by decide +kernel) (by decide +kernel) (by decide +kernel) (by decide +kernel) (by decide +kernel) (by decide +kernel) dX4_play_21 dX4_play_24 dX4_play_25 dX4_play_27 dX4_play_30 ⟨Nat.le_of_ble_eq_true rfl, Nat.le_of_ble_eq_true rfl, Nat.le_of_ble_eq_true rfl, Nat.le_of_ble_eq_true rfl⟩
  · skip
    have c_8 : ¬ (t_err (cB C) (t_r0 (cR C)) (cL C)) < (cL C) := fun h9 => c_8 ((nI_ltI (a := t_err (cB C) (t_r0 (cR C)) (cL C)) (b := cL C) (by omega) (by omega)).mpr h9)
    exfalso; omega
set_option maxHeartbeats 4000000 in
set_option maxRecDepth 100000 in
theorem k_X4_play_t1b (l : Launch) (hst : l.stackTraces = false) (D : va_G) (cy : Nat → ClassId) (N : Nat) (L : Nat → Nat) (F : Nat → va_E) (hN : 162 ≤ N) (C : CT)  (hl60 : cL C ≤ 60) (hgo : ¬ t_err (cB C) (t_r0 (cR C)) (cL C) < cL C) (h : r_done (t_end (cB C) (t_r0 (cR C)) (cL C)) = 0) : GX2 l D cy N L yX4_play wsX4_play ({ frames := 7, cells := 1, slots := 6, locals := 162 }) [.ref (L 0)] (cW cy L F C) (cW cy L F (cY C, cV C, cM C, cQ C, cB C, cL C, t_end (cB C) (t_r0 (cR C)) (cL C), cT C, cU C)) xA := by
  refine GX2.ofW (cc := cX4_play) (maxL := 2) (ret := (some .int)) (by decide) rfl (Nat.le_of_ble_eq_true rfl) ?_
  intro p e s m below meth c ls hx hb hr hts hown hlocks hml hK hA hG hS hl hno
  have hl : lv_has ls 2 [(0, .ref (L 0))] := hl
  have hf28 := hts (.fieldLink RX4 28 "SiloPads" "length" "I") (by decide +kernel)
  have hinX4 : ∀ w ∈ u_ws RX4 TX4 8, w ∈ wsX4_play := by decide +kernel
  have hf34 := hts (.fieldLink RX4 34 "SiloPads" "reader" "LSiloPads$TextReader;") (by decide +kernel)
  have hte := t_err_le (b := cB C) (r := t_r0 (cR C)) (cL C)
  refine lv_aload_n hx hb dX4_play_0 rfl (lv_at hl 0 rfl) ?_
  refine g_cVi (As := []) (rest := []) hx hb hml hown hts hK hA hG hS (k_X4_firstError l D cy N L _ (by omega) C  (hl60)) (cwV 0 hts gX4_play_X4_firstError rfl rfl rfl (by decide +kernel) ⟨Nat.le_of_ble_eq_true rfl, Nat.le_of_ble_eq_true rfl⟩) (by omega) cW_o (ci := 4) rfl rfl rfl rfl hl.1 (Nat.le_of_ble_eq_true rfl) dX4_play_1 ⟨Nat.zero_le _, Nat.zero_le _⟩ (fun H locs hG hS => ?_)
  refine lv_aload_n hx hb dX4_play_4 rfl (lv_at hl 0 rfl) ?_
  refine g_get (ci := 4) (C := RX4) (T := TX4) (M := 8) hx hb hts hinX4 hown hK hG (by omega) cW_o rfl 4 (by decide) hf28 rfl rfl dX4_play_5 ?_
  refine lv_icmp_lt (tgt := 21) hx hb dX4_play_8 (by decide) (fun c_8 => ?_) (fun c_8 => ?_)
  · skip
    have c_8 : (t_err (cB C) (t_r0 (cR C)) (cL C)) < (cL C) := (nI_ltI (a := t_err (cB C) (t_r0 (cR C)) (cL C)) (b := cL C) (by omega) (by omega)).mp c_8
    exfalso; omega
  · skip
    have c_8 : ¬ (t_err (cB C) (t_r0 (cR C)) (cL C)) < (cL C) := fun h9 => c_8 ((nI_ltI (a := t_err (cB C) (t_r0 (cR C)) (cL C)) (b := cL C) (by omega) (by omega)).mpr h9)
    refine lv_aload_n hx hb dX4_play_11 rfl (lv_at hl 0 rfl) ?_
    refine g_get (ci := 4) (C := RX4) (T := TX4) (M := 8) hx hb hts hinX4 hown hK hG (by omega) cW_o rfl 5 (by decide) hf34 rfl rfl dX4_play_12 ?_
    have hG : GW D N L (gA N L s.heap.size) (rW (cW cy L F (cY C, cV C, cM C, cQ C, cB C, cL C, t_end (cB C) (t_r0 (cR C)) (cL C), cT C, cU C)) (25) (t_end (cB C) (t_r0 (cR C)) (cL C))) _ := hG.to (by rw [cW_R0 ])
    refine g_cVi (As := []) (rest := []) hx hb hml hown hts hK hA hG hS (k_X2_isComplete l D cy N L _ 25 (t_end (cB C) (t_r0 (cR C)) (cL C))  (by omega)  ) (cwV 0 hts gX4_play_X2_isComplete rfl rfl rfl (by decide +kernel) ⟨Nat.le_of_ble_eq_true rfl, Nat.le_of_ble_eq_true rfl⟩) (by omega) rW_o (ci := 2) rfl rfl rfl rfl hl.1 (Nat.le_of_ble_eq_true rfl) dX4_play_15 ⟨Nat.zero_le _, Nat.zero_le _⟩ (fun H locs hG hS => ?_)
    have hG : GW D N L (gA N L s.heap.size) (cW cy L F (cY C, cV C, cM C, cQ C, cB C, cL C, t_end (cB C) (t_r0 (cR C)) (cL C), cT C, cU C)) _ := hG.to (by rw [cW_R0 ] <;> rfl)
    refine lv_if_ne (tgt := 31) hx hb dX4_play_18 (by decide) (fun c_18 => ?_) (fun c_18 => ?_)
    · skip
      exact absurd h c_18
    · skip
      exact g_thr (cls := xA) (ik := 63) (is := 179) (ic := 67) (text := "no complete loads as a text") hx hb hst hown hts hlocks hml hK hG hS hno hl.1 (by decide) (by decide +kernel) (by decide +kernel) (by decide +kernel) (by decide +kernel) (by decide +kernel) (by decide +kernel) (by decide +kernel) dX4_play_21 dX4_play_24 dX4_play_25 dX4_play_27 dX4_play_30 ⟨Nat.le_of_ble_eq_true rfl, Nat.le_of_ble_eq_true rfl, Nat.le_of_ble_eq_true rfl, Nat.le_of_ble_eq_true rfl⟩
