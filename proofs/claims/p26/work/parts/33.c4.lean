set_option maxHeartbeats 4000000 in
set_option maxRecDepth 100000 in
theorem k_X4_letOut (l : Launch) (D : va_G) (cy : Nat → ClassId) (N : Nat) (L : Nat → Nat) (F : Nat → va_E) (hN : 162 ≤ N) (C : CT) (k j q : Nat) (hy : wfY (cY C)) (hk : k < 4) (hj : j < 6) (hq : q < 1000) : GM l D cy N L yX4_letOut wsX4_letOut ({ frames := 4, cells := 0, slots := 0, locals := 93 }) [.ref (L 0), .ref (L (1 + 4 + 3 * k)), .ref (L (1 + 16 + j)), .int (nI q)] (cW cy L F C) (some (.int (y_letR (cY C) k j q))) (cW cy L F (y_let (cY C) k j q, cV C, cM C, cQ C, cB C, cL C, cR C, cT C, cU C)) := by
  refine GM.ofW (cc := cX4_letOut) (maxL := 6) (ret := (some .int)) (by decide) rfl (Nat.le_of_ble_eq_true rfl) ?_
  intro p e s m below meth c ls hx hb hr hts hown hlocks hml hK hA hG hS hl
  have hl : lv_has ls 6 [(0, .ref (L 0)), (1, .ref (L (1 + 4 + 3 * k))), (2, .ref (L (1 + 16 + j))), (3, .int (nI q))] := hl
  have hf10 := hts (.fieldLink RX4 10 "SiloPads" "now" "LSiloPads$Yard;") (by decide +kernel)
  have hinX4 : ∀ w ∈ u_ws RX4 TX4 8, w ∈ wsX4_letOut := by decide +kernel
  have hf222 := hts (.fieldLink RX4 222 "SiloPads$Yard" "dust" "I") (by decide +kernel)
  have hinX3 : ∀ w ∈ u_ws RX3 TX3 9, w ∈ wsX4_letOut := by decide +kernel
  refine lv_aload_n hx hb dX4_letOut_0 rfl (lv_at hl 1 rfl) ?_
  have hG : GW D N L (gA N L s.heap.size) (sW cy L (cW cy L F C) (1 + 4 + 3 * k) (yS (cY C) k)) _ := hG.to (by rw [cW_S0 (k := k) (by omega)])
  refine g_cVi (As := []) (rest := []) hx hb hml hown hts hK hA hG hS (k_X1_total l D cy N L _ (1 + 4 + 3 * k) (yS (cY C) k)  (by omega)  (hy k hk)) (cwV 0 hts gX4_letOut_X1_total rfl rfl rfl (by decide +kernel) ⟨Nat.le_of_ble_eq_true rfl, Nat.le_of_ble_eq_true rfl⟩) (by omega) sW_o (ci := 1) rfl rfl rfl rfl hl.1 (Nat.le_of_ble_eq_true rfl) dX4_letOut_1 ⟨Nat.zero_le _, Nat.zero_le _⟩ (fun H locs hG hS => ?_)
  have hG : GW D N L (gA N L s.heap.size) (cW cy L F C) _ := hG.to (by rw [cW_S0 (k := k) (by omega)] <;> rfl)
  refine lv_istore (lv' := [(4, .int (s_total (yS (cY C) k))), (0, .ref (L 0)), (1, .ref (L (1 + 4 + 3 * k))), (2, .ref (L (1 + 16 + j))), (3, .int (nI q))]) hx hb dX4_letOut_4 hl (by decide) rfl (fun ls hl => ?_)
  refine lv_aload_n hx hb dX4_letOut_6 rfl (lv_at hl 1 rfl) ?_
  refine lv_aload_n hx hb dX4_letOut_7 rfl (lv_at hl 2 rfl) ?_
  refine lv_aload_n hx hb dX4_letOut_8 rfl (lv_at hl 3 rfl) ?_
  refine lv_iload_n hx hb dX4_letOut_9 rfl (lv_at hl 4 rfl) ?_
  have hG : GW D N L (gA N L s.heap.size) (hW (sW cy L (cW cy L F C) (1 + 4 + 3 * k) (yS (cY C) k)) (1 + 16 + j) (yH (cY C) j)) _ := hG.to (by rw [cW_S0 (k := k) (by omega), cW_H0 (j := j) (by omega)])
  refine g_cVi (As := [.ref (L (1 + 4 + 3 * k)), .ref (L (1 + 16 + j)), .int (nI q)]) (rest := []) hx hb hml hown hts hK hA hG hS (k_X4_pour l D cy N L _ (1 + 4 + 3 * k) (yS (cY C) k) (1 + 16 + j) (yH (cY C) j)  (yZ (cY C)) (by omega) (by omega) (by omega) (by omega) (by omega) (cE_cW (F := F) (c := C)) q (hy k hk) (by omega)) (cwV 3 hts gX4_letOut_X4_pour rfl rfl rfl (by decide +kernel) ⟨Nat.le_of_ble_eq_true rfl, Nat.le_of_ble_eq_true rfl⟩) (by omega) (by rw [hW_n (by omega), sW_n (by omega)]; exact cW_o) (ci := 4) rfl rfl rfl rfl hl.1 (Nat.le_of_ble_eq_true rfl) dX4_letOut_10 ⟨Nat.zero_le _, Nat.zero_le _⟩ (fun H locs hG hS => ?_)
  have hG : GW D N L (gA N L s.heap.size) (cW cy L F (ySetH (ySetS (cY C) k ((c_poS (yZ (cY C)) (yS (cY C) k) (yH (cY C) j) q).1)) j ((c_poS (yZ (cY C)) (yS (cY C) k) (yH (cY C) j) q).2), cV C, cM C, cQ C, cB C, cL C, cR C, cT C, cU C)) _ := hG.to (by rw [cW_S (k := k) (by omega), cW_H (j := j) (by omega)] <;> rfl)
  refine lv_istore (lv' := [(5, .int (c_poR (yZ (cY C)) (yS (cY C) k) (yH (cY C) j) q)), (4, .int (s_total (yS (cY C) k))), (0, .ref (L 0)), (1, .ref (L (1 + 4 + 3 * k))), (2, .ref (L (1 + 16 + j))), (3, .int (nI q))]) hx hb dX4_letOut_13 hl (by decide) rfl (fun ls hl => ?_)
  refine lv_aload_n hx hb dX4_letOut_15 rfl (lv_at hl 2 rfl) ?_
  refine g_get (ci := 4) (C := RX4) (T := TX4) (M := 8) hx hb hts hinX4 hown hK hG (by omega) cW_o rfl 0 (by decide) hf10 rfl rfl dX4_letOut_16 ?_
  refine lv_dup hx hb dX4_letOut_19 rfl ?_
  refine g_get (ci := 3) (C := RX3) (T := TX3) (M := 9) hx hb hts hinX3 hown hK hG (by omega) cW_yo rfl 4 (by decide) hf222 rfl rfl dX4_letOut_20 ?_
  refine lv_iload hx hb dX4_letOut_23 (lv_at hl 1 rfl) ?_
  refine lv_aload_n hx hb dX4_letOut_25 rfl (lv_at hl 3 rfl) ?_
  have hG : GW D N L (gA N L s.heap.size) (sW cy L (cW cy L F (ySetH (ySetS (cY C) k ((c_poS (yZ (cY C)) (yS (cY C) k) (yH (cY C) j) q).1)) j ((c_poS (yZ (cY C)) (yS (cY C) k) (yH (cY C) j) q).2), cV C, cM C, cQ C, cB C, cL C, cR C, cT C, cU C)) (1 + 4 + 3 * k) (yS (ySetH (ySetS (cY C) k ((c_poS (yZ (cY C)) (yS (cY C) k) (yH (cY C) j) q).1)) j ((c_poS (yZ (cY C)) (yS (cY C) k) (yH (cY C) j) q).2)) k)) _ := hG.to (by rw [cW_S0 (k := k) (by omega)])
  refine g_cVi (As := []) (rest := [.int (s_total (yS (cY C) k)), .int (yC (ySetH (ySetS (cY C) k ((c_poS (yZ (cY C)) (yS (cY C) k) (yH (cY C) j) q).1)) j ((c_poS (yZ (cY C)) (yS (cY C) k) (yH (cY C) j) q).2)) 1), .ref (L 1)]) hx hb hml hown hts hK hA hG hS (k_X1_total l D cy N L _ (1 + 4 + 3 * k) (yS (ySetH (ySetS (cY C) k ((c_poS (yZ (cY C)) (yS (cY C) k) (yH (cY C) j) q).1)) j ((c_poS (yZ (cY C)) (yS (cY C) k) (yH (cY C) j) q).2)) k)  (by omega)  (by rw [yS_setH]; exact c_po_N (hy k hk) q)) (cwV 0 hts gX4_letOut_X1_total rfl rfl rfl (by decide +kernel) ⟨Nat.le_of_ble_eq_true rfl, Nat.le_of_ble_eq_true rfl⟩) (by omega) sW_o (ci := 1) rfl rfl rfl rfl hl.1 (Nat.le_of_ble_eq_true rfl) dX4_letOut_26 ⟨Nat.zero_le _, Nat.zero_le _⟩ (fun H locs hG hS => ?_)
  have hG : GW D N L (gA N L s.heap.size) (cW cy L F (ySetH (ySetS (cY C) k ((c_poS (yZ (cY C)) (yS (cY C) k) (yH (cY C) j) q).1)) j ((c_poS (yZ (cY C)) (yS (cY C) k) (yH (cY C) j) q).2), cV C, cM C, cQ C, cB C, cL C, cR C, cT C, cU C)) _ := hG.to (by rw [cW_S0 (k := k) (by omega)] <;> rfl)
  refine lv_isub hx hb dX4_letOut_29 ?_
  refine lv_iload hx hb dX4_letOut_30 (lv_at hl 0 rfl) ?_
  refine lv_isub hx hb dX4_letOut_32 ?_
  refine lv_iadd hx hb dX4_letOut_33 ?_
  refine g_put (ci := 3) (C := RX3) (T := TX3) (M := 9) (ty := .int) hx hb hts hinX3 tyX3 tyX3_ok nmX3 hown hK hG hS (by omega) cW_yo rfl 4 (by decide) hf222 rfl rfl rfl rfl rfl (Nat.le_of_ble_eq_true rfl) dX4_letOut_34 rfl (fun H locs hG hS => ?_)
  have hG : GW D N L (gA N L s.heap.size) (cW cy L F ((yS (ySetH (ySetS (cY C) k ((c_poS (yZ (cY C)) (yS (cY C) k) (yH (cY C) j) q).1)) j ((c_poS (yZ (cY C)) (yS (cY C) k) (yH (cY C) j) q).2)), yH (ySetH (ySetS (cY C) k ((c_poS (yZ (cY C)) (yS (cY C) k) (yH (cY C) j) q).1)) j ((c_poS (yZ (cY C)) (yS (cY C) k) (yH (cY C) j) q).2)), yZ (ySetH (ySetS (cY C) k ((c_poS (yZ (cY C)) (yS (cY C) k) (yH (cY C) j) q).1)) j ((c_poS (yZ (cY C)) (yS (cY C) k) (yH (cY C) j) q).2)), upd (yC (ySetH (ySetS (cY C) k ((c_poS (yZ (cY C)) (yS (cY C) k) (yH (cY C) j) q).1)) j ((c_poS (yZ (cY C)) (yS (cY C) k) (yH (cY C) j) q).2))) 1 ((yC (ySetH (ySetS (cY C) k ((c_poS (yZ (cY C)) (yS (cY C) k) (yH (cY C) j) q).1)) j ((c_poS (yZ (cY C)) (yS (cY C) k) (yH (cY C) j) q).2)) 1) + (((s_total (yS (cY C) k)) - (s_total (yS (ySetH (ySetS (cY C) k ((c_poS (yZ (cY C)) (yS (cY C) k) (yH (cY C) j) q).1)) j ((c_poS (yZ (cY C)) (yS (cY C) k) (yH (cY C) j) q).2)) k))) - (c_poR (yZ (cY C)) (yS (cY C) k) (yH (cY C) j) q)))), cV C, cM C, cQ C, cB C, cL C, cR C, cT C, cU C)) _ := hG.to cW_uy1
  refine lv_iload hx hb dX4_letOut_37 (lv_at hl 0 rfl) ?_
  exact g_iret hx hb hr hlocks hK hG hS rfl dX4_letOut_39 ⟨(congrArg (fun z9 => some (Value.int z9)) (by rfl)), (by rfl)⟩
set_option maxHeartbeats 4000000 in
set_option maxRecDepth 100000 in
theorem k_X4_passDays (l : Launch) (D : va_G) (cy : Nat → ClassId) (N : Nat) (L : Nat → Nat) (F : Nat → va_E) (hN : 162 ≤ N) (C : CT) (d : Nat) (hy : wfY (cY C)) (hd : d < 1000) : GM l D cy N L yX4_passDays wsX4_passDays ({ frames := 2, cells := 0, slots := 0, locals := 43 }) [.ref (L 0), .int (nI d)] (cW cy L F C) (some (.int (y_PR (cY C) d))) (cW cy L F (y_pass (cY C) d, cV C, cM C, cQ C, cB C, cL C, cR C, cT C, cU C)) := by
  refine GM.ofW (cc := cX4_passDays) (maxL := 5) (ret := (some .int)) (by decide) rfl (Nat.le_of_ble_eq_true rfl) ?_
  intro p e s m below meth c ls hx hb hr hts hown hlocks hml hK hA hG hS hl
  have hl : lv_has ls 5 [(0, .ref (L 0)), (1, .int (nI d))] := hl
  have hf10 := hts (.fieldLink RX4 10 "SiloPads" "now" "LSiloPads$Yard;") (by decide +kernel)
  have hinX4 : ∀ w ∈ u_ws RX4 TX4 8, w ∈ wsX4_passDays := by decide +kernel
  have hf228 := hts (.fieldLink RX4 228 "SiloPads$Yard" "formed" "I") (by decide +kernel)
  have hinX3 : ∀ w ∈ u_ws RX3 TX3 9, w ∈ wsX4_passDays := by decide +kernel
  have hf213 := hts (.fieldLink RX4 213 "SiloPads$Yard" "days" "I") (by decide +kernel)
  have hf94 := hts (.fieldLink RX4 94 "SiloPads$Yard" "silos" "[LSiloPads$Silo;") (by decide +kernel)
  refine lv_iconst (v := 0) hx hb dX4_passDays_0 (by decide) ?_
  refine lv_istore_n (lv' := [(2, .int 0), (0, .ref (L 0)), (1, .int (nI d))]) hx hb dX4_passDays_1 rfl hl (by decide) rfl (fun ls hl => ?_)
  refine lv_iconst (v := 0) hx hb dX4_passDays_2 (by decide) ?_
  refine lv_istore_n (lv' := [(3, .int 0), (2, .int 0), (0, .ref (L 0)), (1, .int (nI d))]) hx hb dX4_passDays_3 rfl hl (by decide) rfl (fun ls hl => ?_)
  refine W.loop (σ := Nat) (fun i H locs ls => (i ≤ d) ∧ GW D N L (gA N L s.heap.size) (cW cy L F (y_P (cY C) i, cV C, cM C, cQ C, cB C, cL C, cR C, cT C, cU C)) H ∧ va_S (gA N L s.heap.size) s.heap H locs ∧ lv_has ls 5 [(2, .int (y_PR (cY C) i)), (3, .int (nI i)), (0, .ref (L 0)), (1, .int (nI d))]) (fun i => d - i) 0 ⟨by omega, hG.to (rfl), hS, lv_to (lv_sub hl [1, 0, 2, 3] rfl) (rfl)⟩ ?_
  intro i H locs ls hP9 ih4
  obtain ⟨hi9, hG, hS, hl⟩ := hP9
  have hy9 := wfY_P hy i
  refine lv_iload_n hx hb dX4_passDays_4 rfl (lv_at hl 1 rfl) ?_
  refine lv_iload_n hx hb dX4_passDays_5 rfl (lv_at hl 3 rfl) ?_
  refine lv_icmp_ge (tgt := 60) hx hb dX4_passDays_6 (by decide) (fun c_6 => ?_) (fun c_6 => ?_)
  · skip
    have c_6 : d ≤ i := (nI_leI (a := d) (b := i) (by omega) (by omega)).mp c_6
    refine lv_aload_n hx hb dX4_passDays_60 rfl (lv_at hl 2 rfl) ?_
    refine g_get (ci := 4) (C := RX4) (T := TX4) (M := 8) hx hb hts hinX4 hown hK hG (by omega) cW_o rfl 0 (by decide) hf10 rfl rfl dX4_passDays_61 ?_
    refine lv_dup hx hb dX4_passDays_64 rfl ?_
    refine g_get (ci := 3) (C := RX3) (T := TX3) (M := 9) hx hb hts hinX3 hown hK hG (by omega) cW_yo rfl 8 (by decide) hf228 rfl rfl dX4_passDays_65 ?_
    refine lv_iload_n hx hb dX4_passDays_68 rfl (lv_at hl 0 rfl) ?_
    refine lv_iadd hx hb dX4_passDays_69 ?_
    refine g_put (ci := 3) (C := RX3) (T := TX3) (M := 9) (ty := .int) hx hb hts hinX3 tyX3 tyX3_ok nmX3 hown hK hG hS (by omega) cW_yo rfl 8 (by decide) hf228 rfl rfl rfl rfl rfl (Nat.le_of_ble_eq_true rfl) dX4_passDays_70 rfl (fun H locs hG hS => ?_)
    have hG : GW D N L (gA N L s.heap.size) (cW cy L F ((yS (y_P (cY C) i), yH (y_P (cY C) i), yZ (y_P (cY C) i), upd (yC (y_P (cY C) i)) 5 ((yC (y_P (cY C) i) 5) + (y_PR (cY C) i))), cV C, cM C, cQ C, cB C, cL C, cR C, cT C, cU C)) _ := hG.to cW_uy5
    refine lv_iload_n hx hb dX4_passDays_73 rfl (lv_at hl 0 rfl) ?_
    exact g_iret hx hb hr hlocks hK hG hS rfl dX4_passDays_74 ⟨(congrArg (fun z9 => some (Value.int z9)) (by rw [show i = d by omega])), (by rw [show i = d by omega]; rfl)⟩
  · skip
    have c_6 : ¬ d ≤ i := fun h9 => c_6 ((nI_leI (a := d) (b := i) (by omega) (by omega)).mpr h9)
    refine lv_aload_n hx hb dX4_passDays_9 rfl (lv_at hl 2 rfl) ?_
    refine g_get (ci := 4) (C := RX4) (T := TX4) (M := 8) hx hb hts hinX4 hown hK hG (by omega) cW_o rfl 0 (by decide) hf10 rfl rfl dX4_passDays_10 ?_
    refine lv_dup hx hb dX4_passDays_13 rfl ?_
    refine g_get (ci := 3) (C := RX3) (T := TX3) (M := 9) hx hb hts hinX3 hown hK hG (by omega) cW_yo rfl 3 (by decide) hf213 rfl rfl dX4_passDays_14 ?_
    refine lv_iconst (v := 1) hx hb dX4_passDays_17 (by decide) ?_
    refine lv_iadd hx hb dX4_passDays_18 ?_
    refine g_put (ci := 3) (C := RX3) (T := TX3) (M := 9) (ty := .int) hx hb hts hinX3 tyX3 tyX3_ok nmX3 hown hK hG hS (by omega) cW_yo rfl 3 (by decide) hf213 rfl rfl rfl rfl rfl (Nat.le_of_ble_eq_true rfl) dX4_passDays_19 rfl (fun H locs hG hS => ?_)
    have hG : GW D N L (gA N L s.heap.size) (cW cy L F ((yS (y_P (cY C) i), yH (y_P (cY C) i), yZ (y_P (cY C) i), upd (yC (y_P (cY C) i)) 0 ((yC (y_P (cY C) i) 0) + 1)), cV C, cM C, cQ C, cB C, cL C, cR C, cT C, cU C)) _ := hG.to cW_uy0
    refine lv_iconst (v := 0) hx hb dX4_passDays_22 (by decide) ?_
    refine lv_istore (lv' := [(4, .int 0), (2, .int (y_PR (cY C) i)), (3, .int (nI i)), (0, .ref (L 0)), (1, .int (nI d))]) hx hb dX4_passDays_23 hl (by decide) rfl (fun ls hl => ?_)
    refine W.loop (σ := Nat) (fun k H locs ls => (k ≤ 4) ∧ GW D N L (gA N L s.heap.size) (cW cy L F (y_dS (y_P (cY C) i) k, cV C, cM C, cQ C, cB C, cL C, cR C, cT C, cU C)) H ∧ va_S (gA N L s.heap.size) s.heap H locs ∧ lv_has ls 5 [(2, .int (y_dR (y_P (cY C) i) (y_PR (cY C) i) k)), (4, .int (nI k)), (3, .int (nI i)), (0, .ref (L 0)), (1, .int (nI d))]) (fun k => 4 - k) 0 ⟨by omega, hG.to (rfl), hS, lv_to (lv_sub hl [1, 0, 2, 3, 4] rfl) (rfl)⟩ ?_
    intro k H locs ls hP9 ih25
    obtain ⟨hk9, hG, hS, hl⟩ := hP9
    have hy8 := wfY_dS hy9 k hk9
    refine lv_iload hx hb dX4_passDays_25 (lv_at hl 1 rfl) ?_
    refine lv_iconst (v := 4) hx hb dX4_passDays_27 (by decide) ?_
    refine lv_icmp_ge (tgt := 54) hx hb dX4_passDays_28 (by decide) (fun c_28 => ?_) (fun c_28 => ?_)
    · skip
      have c_28 : 4 ≤ k := (nI_leI (a := 4) (b := k) (by omega) (by omega)).mp c_28
      refine lv_iinc (v := nI (i + 1)) (lv' := [(3, .int (nI (i + 1))), (2, .int (y_dR (y_P (cY C) i) (y_PR (cY C) i) k)), (4, .int (nI k)), (0, .ref (L 0)), (1, .int (nI d))]) hx hb dX4_passDays_54 hl (k := 2) rfl (nI_add i 1) (by decide) rfl (fun ls hl => ?_)
      refine lv_goto (tgt := 4) hx hb dX4_passDays_57 (by decide) ?_
      have hl : lv_has ls 5 [(2, .int (y_dR (y_P (cY C) i) (y_PR (cY C) i) k)), (3, .int (nI (i + 1))), (0, .ref (L 0)), (1, .int (nI d))] := lv_sub hl [1, 0, 3, 4] rfl
      exact ih4 (i + 1) _ _ _ (by omega) ⟨by omega, hG.to (by rw [show k = 4 by omega]; rfl), hS, lv_to hl (by rw [show k = 4 by omega]; rfl)⟩
    · skip
      have c_28 : ¬ 4 ≤ k := fun h9 => c_28 ((nI_leI (a := 4) (b := k) (by omega) (by omega)).mpr h9)
      refine lv_iload_n hx hb dX4_passDays_31 rfl (lv_at hl 0 rfl) ?_
      refine lv_aload_n hx hb dX4_passDays_32 rfl (lv_at hl 3 rfl) ?_
      refine lv_aload_n hx hb dX4_passDays_33 rfl (lv_at hl 3 rfl) ?_
      refine g_get (ci := 4) (C := RX4) (T := TX4) (M := 8) hx hb hts hinX4 hown hK hG (by omega) cW_o rfl 0 (by decide) hf10 rfl rfl dX4_passDays_34 ?_
      refine g_get (ci := 3) (C := RX3) (T := TX3) (M := 9) hx hb hts hinX3 hown hK hG (by omega) cW_yo rfl 0 (by decide) hf94 rfl rfl dX4_passDays_37 ?_
      refine lv_iload hx hb dX4_passDays_40 (lv_at hl 1 rfl) ?_
      refine g_aald (j := 1 + 4 + 3 * k) hx hb hK hG (by omega) cW_ys (t0 := 1) rfl (k := k) rfl (by omega) (by decide) rfl dX4_passDays_42 ?_
      have hG : GW D N L (gA N L s.heap.size) (sW cy L (cW cy L F (y_dS (y_P (cY C) i) k, cV C, cM C, cQ C, cB C, cL C, cR C, cT C, cU C)) (1 + 4 + 3 * k) (yS (y_dS (y_P (cY C) i) k) k)) _ := hG.to (by rw [cW_S0 (k := k) (by omega)])
      refine g_cVi (As := [.ref (L (1 + 4 + 3 * k))]) (rest := [.int (y_dR (y_P (cY C) i) (y_PR (cY C) i) k)]) hx hb hml hown hts hK hA hG hS (k_X4_passDayIn l D cy N L _ (1 + 4 + 3 * k) (yS (y_dS (y_P (cY C) i) k) k)  (yZ (y_dS (y_P (cY C) i) k)) (by omega) (by omega) (cE_cW (F := F) (c := (y_dS (y_P (cY C) i) k, cV C, cM C, cQ C, cB C, cL C, cR C, cT C, cU C)))  (hy8 k (by omega))) (cwV 1 hts gX4_passDays_X4_passDayIn rfl rfl rfl (by decide +kernel) ⟨Nat.le_of_ble_eq_true rfl, Nat.le_of_ble_eq_true rfl⟩) (by omega) (by rw [sW_n (by omega)]; exact cW_o) (ci := 4) rfl rfl rfl rfl hl.1 (Nat.le_of_ble_eq_true rfl) dX4_passDays_43 ⟨Nat.zero_le _, Nat.zero_le _⟩ (fun H locs hG hS => ?_)
      have hG : GW D N L (gA N L s.heap.size) (cW cy L F (ySetS (y_dS (y_P (cY C) i) k) k (c_dayV (yZ (y_dS (y_P (cY C) i) k)) (yS (y_dS (y_P (cY C) i) k) k)), cV C, cM C, cQ C, cB C, cL C, cR C, cT C, cU C)) _ := hG.to (by rw [cW_S (k := k) (by omega)] <;> rfl)
      refine lv_iadd hx hb dX4_passDays_46 ?_
      refine lv_istore_n (lv' := [(2, .int ((y_dR (y_P (cY C) i) (y_PR (cY C) i) k) + (c_dayR (yZ (y_dS (y_P (cY C) i) k)) (yS (y_dS (y_P (cY C) i) k) k)))), (4, .int (nI k)), (3, .int (nI i)), (0, .ref (L 0)), (1, .int (nI d))]) hx hb dX4_passDays_47 rfl hl (by decide) rfl (fun ls hl => ?_)
      refine lv_iinc (v := nI (k + 1)) (lv' := [(4, .int (nI (k + 1))), (2, .int ((y_dR (y_P (cY C) i) (y_PR (cY C) i) k) + (c_dayR (yZ (y_dS (y_P (cY C) i) k)) (yS (y_dS (y_P (cY C) i) k) k)))), (3, .int (nI i)), (0, .ref (L 0)), (1, .int (nI d))]) hx hb dX4_passDays_48 hl (k := 1) rfl (nI_add k 1) (by decide) rfl (fun ls hl => ?_)
      refine lv_goto (tgt := 25) hx hb dX4_passDays_51 (by decide) ?_
      have hl : lv_has ls 5 [(2, .int ((y_dR (y_P (cY C) i) (y_PR (cY C) i) k) + (c_dayR (yZ (y_dS (y_P (cY C) i) k)) (yS (y_dS (y_P (cY C) i) k) k)))), (4, .int (nI (k + 1))), (3, .int (nI i)), (0, .ref (L 0)), (1, .int (nI d))] := lv_sub hl [1, 0, 2, 3, 4] rfl
      exact ih25 (k + 1) _ _ _ (by omega) ⟨by omega, hG.to (rfl), hS, lv_to hl (rfl)⟩
set_option maxHeartbeats 4000000 in
set_option maxRecDepth 100000 in
theorem k_X4_urgent (l : Launch) (D : va_G) (cy : Nat → ClassId) (N : Nat) (L : Nat → Nat) (F : Nat → va_E) (hN : 162 ≤ N) (C : CT)  (hy : wfY (cY C)) : GM l D cy N L yX4_urgent wsX4_urgent ({ frames := 3, cells := 0, slots := 0, locals := 64 }) [.ref (L 0)] (cW cy L F C) (some (.int (g_bestI (y_best (cY C) 4)))) (cW cy L F C) := by
  refine GM.ofW (cc := cX4_urgent) (maxL := 3) (ret := (some .int)) (by decide) rfl (Nat.le_of_ble_eq_true rfl) ?_
  intro p e s m below meth c ls hx hb hr hts hown hlocks hml hK hA hG hS hl
  have hl : lv_has ls 3 [(0, .ref (L 0))] := hl
  have hf10 := hts (.fieldLink RX4 10 "SiloPads" "now" "LSiloPads$Yard;") (by decide +kernel)
  have hinX4 : ∀ w ∈ u_ws RX4 TX4 8, w ∈ wsX4_urgent := by decide +kernel
  have hf94 := hts (.fieldLink RX4 94 "SiloPads$Yard" "silos" "[LSiloPads$Silo;") (by decide +kernel)
  have hinX3 : ∀ w ∈ u_ws RX3 TX3 9, w ∈ wsX4_urgent := by decide +kernel
  have hf125 := hts (.fieldLink RX4 125 "SiloPads$Silo" "layers" "I") (by decide +kernel)
  have hinX1 : ∀ w ∈ u_ws RX1 TX1 6, w ∈ wsX4_urgent := by decide +kernel
  refine lv_iconst (v := -1) hx hb dX4_urgent_0 (by decide) ?_
  refine lv_istore_n (lv' := [(1, .int (-1)), (0, .ref (L 0))]) hx hb dX4_urgent_1 rfl hl (by decide) rfl (fun ls hl => ?_)
  refine lv_iconst (v := 0) hx hb dX4_urgent_2 (by decide) ?_
  refine lv_istore_n (lv' := [(2, .int 0), (1, .int (-1)), (0, .ref (L 0))]) hx hb dX4_urgent_3 rfl hl (by decide) rfl (fun ls hl => ?_)
  refine W.loop (σ := Nat) (fun k H locs ls => (k ≤ 4) ∧ GW D N L (gA N L s.heap.size) (cW cy L F C) H ∧ va_S (gA N L s.heap.size) s.heap H locs ∧ lv_has ls 3 [(1, .int (g_bestI (y_best (cY C) k))), (2, .int (nI k)), (0, .ref (L 0))]) (fun k => 4 - k) 0 ⟨by omega, hG.to (rfl), hS, lv_to (lv_sub hl [1, 0, 2] rfl) (rfl)⟩ ?_
  intro k H locs ls hP9 ih4
  obtain ⟨hk9, hG, hS, hl⟩ := hP9
  refine lv_iload_n hx hb dX4_urgent_4 rfl (lv_at hl 1 rfl) ?_
  refine lv_iconst (v := 4) hx hb dX4_urgent_5 (by decide) ?_
  refine lv_icmp_ge (tgt := 61) hx hb dX4_urgent_6 (by decide) (fun c_6 => ?_) (fun c_6 => ?_)
  · skip
    have c_6 : 4 ≤ k := (nI_leI (a := 4) (b := k) (by omega) (by omega)).mp c_6
    refine lv_iload_n hx hb dX4_urgent_61 rfl (lv_at hl 0 rfl) ?_
    exact g_iret hx hb hr hlocks hK hG hS rfl dX4_urgent_62 ⟨(congrArg (fun z9 => some (Value.int z9)) (by rw [show k = 4 by omega])), rfl⟩
  · skip
    have c_6 : ¬ 4 ≤ k := fun h9 => c_6 ((nI_leI (a := 4) (b := k) (by omega) (by omega)).mpr h9)
    have hyk := hy k (by omega)
    refine lv_aload_n hx hb dX4_urgent_9 rfl (lv_at hl 2 rfl) ?_
    refine g_get (ci := 4) (C := RX4) (T := TX4) (M := 8) hx hb hts hinX4 hown hK hG (by omega) cW_o rfl 0 (by decide) hf10 rfl rfl dX4_urgent_10 ?_
    refine g_get (ci := 3) (C := RX3) (T := TX3) (M := 9) hx hb hts hinX3 hown hK hG (by omega) cW_yo rfl 0 (by decide) hf94 rfl rfl dX4_urgent_13 ?_
    refine lv_iload_n hx hb dX4_urgent_16 rfl (lv_at hl 1 rfl) ?_
    refine g_aald (j := 1 + 4 + 3 * k) hx hb hK hG (by omega) cW_ys (t0 := 1) rfl (k := k) rfl (by omega) (by decide) rfl dX4_urgent_17 ?_
    refine g_get (ci := 1) (C := RX1) (T := TX1) (M := 6) hx hb hts hinX1 hown hK hG (by omega) (cW_so (k := k) (by omega)) rfl 2 (by decide) hf125 rfl rfl dX4_urgent_18 ?_
    refine lv_if_le (tgt := 55) hx hb dX4_urgent_21 (by decide) (fun c_21 => ?_) (fun c_21 => ?_)
    · skip
      have c_21 : (sN (yS (cY C) k)) ≤ 0 := (nI_leI (a := sN (yS (cY C) k)) (b := 0) (by omega) (by omega)).mp c_21
      refine lv_iinc (v := nI (k + 1)) (lv' := [(2, .int (nI (k + 1))), (1, .int (g_bestI (y_best (cY C) k))), (0, .ref (L 0))]) hx hb dX4_urgent_55 hl (k := 1) rfl (nI_add k 1) (by decide) rfl (fun ls hl => ?_)
      refine lv_goto (tgt := 4) hx hb dX4_urgent_58 (by decide) ?_
      have hl : lv_has ls 3 [(1, .int (g_bestI (y_best (cY C) k))), (2, .int (nI (k + 1))), (0, .ref (L 0))] := lv_sub hl [1, 0, 2] rfl
      exact ih4 (k + 1) _ _ _ (by omega) ⟨by omega, hG.to (rfl), hS, lv_to hl (by first | (simp only [y_best, hb8, c_6, c_21, if_true, if_false, g_bestI_of (show k < 4 by omega)]; done) | (simp only [y_best, c_6, c_21, if_true, if_false]; done))⟩
    · skip
      have c_21 : ¬ (sN (yS (cY C) k)) ≤ 0 := fun h9 => c_21 ((nI_leI (a := sN (yS (cY C) k)) (b := 0) (by omega) (by omega)).mpr h9)
      refine lv_iload_n hx hb dX4_urgent_24 rfl (lv_at hl 0 rfl) ?_
      refine lv_iconst (v := -1) hx hb dX4_urgent_25 (by decide) ?_
      refine lv_icmp_eq (tgt := 53) hx hb dX4_urgent_26 (by decide) (fun c_26 => ?_) (fun c_26 => ?_)
      · skip
        have hb8 : y_best (cY C) k = 4 := g_bestI_4 (y_best_lt (y := cY C) k) (by omega) c_26
        refine lv_iload_n hx hb dX4_urgent_53 rfl (lv_at hl 1 rfl) ?_
        refine lv_istore_n (lv' := [(1, .int (nI k)), (2, .int (nI k)), (0, .ref (L 0))]) hx hb dX4_urgent_54 rfl hl (by decide) rfl (fun ls hl => ?_)
        refine lv_iinc (v := nI (k + 1)) (lv' := [(2, .int (nI (k + 1))), (1, .int (nI k)), (0, .ref (L 0))]) hx hb dX4_urgent_55 hl (k := 1) rfl (nI_add k 1) (by decide) rfl (fun ls hl => ?_)
        refine lv_goto (tgt := 4) hx hb dX4_urgent_58 (by decide) ?_
        have hl : lv_has ls 3 [(1, .int (nI k)), (2, .int (nI (k + 1))), (0, .ref (L 0))] := lv_sub hl [1, 0, 2] rfl
        exact ih4 (k + 1) _ _ _ (by omega) ⟨by omega, hG.to (rfl), hS, lv_to hl (by first | (simp only [y_best, hb8, c_6, c_21, eq_true c_26, if_true, if_false, g_bestI_of (show k < 4 by omega)]; done) | (simp only [y_best, c_6, c_21, eq_true c_26, if_true, if_false]; done))⟩
      · skip
        have hb8 : ¬ y_best (cY C) k = 4 := fun h9 => c_26 (by rw [h9]; rfl)
        have hb7 := y_best_lt (y := cY C) k
        refine lv_aload_n hx hb dX4_urgent_29 rfl (lv_at hl 2 rfl) ?_
        refine g_get (ci := 4) (C := RX4) (T := TX4) (M := 8) hx hb hts hinX4 hown hK hG (by omega) cW_o rfl 0 (by decide) hf10 rfl rfl dX4_urgent_30 ?_
        refine g_get (ci := 3) (C := RX3) (T := TX3) (M := 9) hx hb hts hinX3 hown hK hG (by omega) cW_yo rfl 0 (by decide) hf94 rfl rfl dX4_urgent_33 ?_
        refine lv_iload_n hx hb dX4_urgent_36 rfl (lv_at hl 1 rfl) ?_
        refine g_aald (j := 1 + 4 + 3 * k) hx hb hK hG (by omega) cW_ys (t0 := 1) rfl (k := k) rfl (by omega) (by decide) rfl dX4_urgent_37 ?_
        refine lv_aload_n hx hb dX4_urgent_38 rfl (lv_at hl 2 rfl) ?_
        refine g_get (ci := 4) (C := RX4) (T := TX4) (M := 8) hx hb hts hinX4 hown hK hG (by omega) cW_o rfl 0 (by decide) hf10 rfl rfl dX4_urgent_39 ?_
        refine g_get (ci := 3) (C := RX3) (T := TX3) (M := 9) hx hb hts hinX3 hown hK hG (by omega) cW_yo rfl 0 (by decide) hf94 rfl rfl dX4_urgent_42 ?_
        refine lv_iload_n hx hb dX4_urgent_45 rfl (lv_at hl 0 rfl) ?_
        refine lv_toN (k := y_best (cY C) k) (g_bestI_of (by omega)) ?_
        refine g_aald (j := 1 + 4 + 3 * (y_best (cY C) k)) hx hb hK hG (by omega) cW_ys (t0 := 1) rfl (k := y_best (cY C) k) rfl (by omega) (by decide) rfl dX4_urgent_46 ?_
        have hG : GW D N L (gA N L s.heap.size) (sW cy L (sW cy L (cW cy L F C) (1 + 4 + 3 * (y_best (cY C) k)) (yS (cY C) (y_best (cY C) k))) (1 + 4 + 3 * k) (yS (cY C) k)) _ := hG.to (by rw [cW_S0 (k := (y_best (cY C) k)) (by omega), cW_S0 (k := k) (by omega)])
        refine g_cSi (As := [.ref (L (1 + 4 + 3 * k)), .ref (L (1 + 4 + 3 * (y_best (cY C) k)))]) (rest := []) hx hb hml hown hts hK hA hG hS (k_X4_isMoreUrgent l D cy N L _ (1 + 4 + 3 * (y_best (cY C) k)) (yS (cY C) (y_best (cY C) k)) (1 + 4 + 3 * k) (yS (cY C) k)  (by omega) (by omega) (by omega)  (hy _ (by omega)) (hy _ (by omega))) (g_cwS 2 hts gX4_urgent_X4_isMoreUrgent rfl rfl rfl (by decide +kernel) ⟨Nat.le_of_ble_eq_true rfl, Nat.le_of_ble_eq_true rfl⟩) rfl rfl hl.1 (Nat.le_of_ble_eq_true rfl) dX4_urgent_47 ⟨Nat.zero_le _, Nat.zero_le _⟩ (fun H locs hG hS => ?_)
        have hG : GW D N L (gA N L s.heap.size) (cW cy L F C) _ := hG.to (by rw [cW_S0 (k := (y_best (cY C) k)) (by omega), cW_S0 (k := k) (by omega)] <;> rfl)
        refine lv_if_eq (tgt := 55) hx hb dX4_urgent_50 (by decide) (fun c_50 => ?_) (fun c_50 => ?_)
        · skip
          refine lv_iinc (v := nI (k + 1)) (lv' := [(2, .int (nI (k + 1))), (1, .int (g_bestI (y_best (cY C) k))), (0, .ref (L 0))]) hx hb dX4_urgent_55 hl (k := 1) rfl (nI_add k 1) (by decide) rfl (fun ls hl => ?_)
          refine lv_goto (tgt := 4) hx hb dX4_urgent_58 (by decide) ?_
          have hl : lv_has ls 3 [(1, .int (g_bestI (y_best (cY C) k))), (2, .int (nI (k + 1))), (0, .ref (L 0))] := lv_sub hl [1, 0, 2] rfl
          exact ih4 (k + 1) _ _ _ (by omega) ⟨by omega, hG.to (rfl), hS, lv_to hl (by first | (simp only [y_best, hb8, c_6, c_21, c_26, eq_true c_50, if_true, if_false, g_bestI_of (show k < 4 by omega)]; done) | (simp only [y_best, c_6, c_21, c_26, eq_true c_50, if_true, if_false]; done))⟩
        · skip
          refine lv_iload_n hx hb dX4_urgent_53 rfl (lv_at hl 1 rfl) ?_
          refine lv_istore_n (lv' := [(1, .int (nI k)), (2, .int (nI k)), (0, .ref (L 0))]) hx hb dX4_urgent_54 rfl hl (by decide) rfl (fun ls hl => ?_)
          refine lv_iinc (v := nI (k + 1)) (lv' := [(2, .int (nI (k + 1))), (1, .int (nI k)), (0, .ref (L 0))]) hx hb dX4_urgent_55 hl (k := 1) rfl (nI_add k 1) (by decide) rfl (fun ls hl => ?_)
          refine lv_goto (tgt := 4) hx hb dX4_urgent_58 (by decide) ?_
          have hl : lv_has ls 3 [(1, .int (nI k)), (2, .int (nI (k + 1))), (0, .ref (L 0))] := lv_sub hl [1, 0, 2] rfl
          exact ih4 (k + 1) _ _ _ (by omega) ⟨by omega, hG.to (rfl), hS, lv_to hl (by first | (simp only [y_best, hb8, c_6, c_21, c_26, c_50, if_true, if_false, g_bestI_of (show k < 4 by omega)]; done) | (simp only [y_best, c_6, c_21, c_26, c_50, if_true, if_false]; done))⟩
set_option maxHeartbeats 4000000 in
set_option maxRecDepth 100000 in
theorem k_X4_softness (l : Launch) (D : va_G) (cy : Nat → ClassId) (N : Nat) (L : Nat → Nat) (F : Nat → va_E) (hN : 162 ≤ N) (C : CT)  (hy : wfY (cY C)) (hf : ¬ y_silos (cY C) 4 = 0 → vf_n64 (FP.ddiv (FP.i2d (y_soft (cY C) 4)) (FP.i2d (y_silos (cY C) 4)))) : GM l D cy N L yX4_softness wsX4_softness ({ frames := 3, cells := 0, slots := 0, locals := 65 }) [.ref (L 0)] (cW cy L F C) (some (.double (y_softD (cY C)))) (cW cy L F C) := by
  refine GM.ofW (cc := cX4_softness) (maxL := 4) (ret := (some .double)) (by decide) rfl (Nat.le_of_ble_eq_true rfl) ?_
  intro p e s m below meth c ls hx hb hr hts hown hlocks hml hK hA hG hS hl
  have hl : lv_has ls 4 [(0, .ref (L 0))] := hl
  have hf10 := hts (.fieldLink RX4 10 "SiloPads" "now" "LSiloPads$Yard;") (by decide +kernel)
  have hinX4 : ∀ w ∈ u_ws RX4 TX4 8, w ∈ wsX4_softness := by decide +kernel
  have hf94 := hts (.fieldLink RX4 94 "SiloPads$Yard" "silos" "[LSiloPads$Silo;") (by decide +kernel)
  have hinX3 : ∀ w ∈ u_ws RX3 TX3 9, w ∈ wsX4_softness := by decide +kernel
  refine lv_aload_n hx hb dX4_softness_0 rfl (lv_at hl 0 rfl) ?_
  refine g_get (ci := 4) (C := RX4) (T := TX4) (M := 8) hx hb hts hinX4 hown hK hG (by omega) cW_o rfl 0 (by decide) hf10 rfl rfl dX4_softness_1 ?_
  have hG : GW D N L (gA N L s.heap.size) (yW cy L (cW cy L F C) (1) (cY C)) _ := hG.to (by rw [cW_Y0 ])
  refine g_cVi (As := []) (rest := []) hx hb hml hown hts hK hA hG hS (k_X3_siloTonnes l D cy N L _ 1 (cY C)  (by omega)  (hy)) (cwV 0 hts gX4_softness_X3_siloTonnes rfl rfl rfl (by decide +kernel) ⟨Nat.le_of_ble_eq_true rfl, Nat.le_of_ble_eq_true rfl⟩) (by omega) yW_o (ci := 3) rfl rfl rfl rfl hl.1 (Nat.le_of_ble_eq_true rfl) dX4_softness_4 ⟨Nat.zero_le _, Nat.zero_le _⟩ (fun H locs hG hS => ?_)
  have hG : GW D N L (gA N L s.heap.size) (cW cy L F C) _ := hG.to (by rw [cW_Y0 ] <;> rfl)
  refine lv_istore_n (lv' := [(1, .int (y_silos (cY C) 4)), (0, .ref (L 0))]) hx hb dX4_softness_7 rfl hl (by decide) rfl (fun ls hl => ?_)
  refine lv_iload_n hx hb dX4_softness_8 rfl (lv_at hl 0 rfl) ?_
  refine lv_if_ne (tgt := 14) hx hb dX4_softness_9 (by decide) (fun c_9 => ?_) (fun c_9 => ?_)
  · skip
    refine lv_iconst (v := 0) hx hb dX4_softness_14 (by decide) ?_
    refine lv_istore_n (lv' := [(2, .int 0), (1, .int (y_silos (cY C) 4)), (0, .ref (L 0))]) hx hb dX4_softness_15 rfl hl (by decide) rfl (fun ls hl => ?_)
    refine lv_iconst (v := 0) hx hb dX4_softness_16 (by decide) ?_
    refine lv_istore_n (lv' := [(3, .int 0), (2, .int 0), (1, .int (y_silos (cY C) 4)), (0, .ref (L 0))]) hx hb dX4_softness_17 rfl hl (by decide) rfl (fun ls hl => ?_)
    refine W.loop (σ := Nat) (fun k H locs ls => (k ≤ 4) ∧ GW D N L (gA N L s.heap.size) (cW cy L F C) H ∧ va_S (gA N L s.heap.size) s.heap H locs ∧ lv_has ls 4 [(2, .int (y_soft (cY C) k)), (3, .int (nI k)), (1, .int (y_silos (cY C) 4)), (0, .ref (L 0))]) (fun k => 4 - k) 0 ⟨by omega, hG.to (rfl), hS, lv_to (lv_sub hl [1, 0, 2, 3] rfl) (rfl)⟩ ?_
    intro k H locs ls hP9 ih18
    obtain ⟨hk9, hG, hS, hl⟩ := hP9
    refine lv_iload_n hx hb dX4_softness_18 rfl (lv_at hl 1 rfl) ?_
    refine lv_iconst (v := 4) hx hb dX4_softness_19 (by decide) ?_
    refine lv_icmp_ge (tgt := 45) hx hb dX4_softness_20 (by decide) (fun c_20 => ?_) (fun c_20 => ?_)
    · skip
      have c_20 : 4 ≤ k := (nI_leI (a := 4) (b := k) (by omega) (by omega)).mp c_20
      refine lv_iload_n hx hb dX4_softness_45 rfl (lv_at hl 0 rfl) ?_
      refine lv_i2d hx hb dX4_softness_46 ?_
      refine lv_iload_n hx hb dX4_softness_47 rfl (lv_at hl 2 rfl) ?_
      refine lv_i2d hx hb dX4_softness_48 ?_
      refine lv_ddiv hx hb dX4_softness_49 (by rw [show k = 4 by omega]; exact hf c_9) ?_
      exact g_dret hx hb hr hlocks hK hG hS dX4_softness_50 ⟨(congrArg (fun z9 => some (Value.double z9)) (by first | (simp only [y_softD, c_9, c_20, if_true, if_false]; done) | (rw [show k = 4 by omega]; simp only [y_softD, c_9, c_20, if_true, if_false]))), rfl⟩
    · skip
      have c_20 : ¬ 4 ≤ k := fun h9 => c_20 ((nI_leI (a := 4) (b := k) (by omega) (by omega)).mpr h9)
      refine lv_iload_n hx hb dX4_softness_23 rfl (lv_at hl 0 rfl) ?_
      refine lv_aload_n hx hb dX4_softness_24 rfl (lv_at hl 3 rfl) ?_
      refine lv_aload_n hx hb dX4_softness_25 rfl (lv_at hl 3 rfl) ?_
      refine g_get (ci := 4) (C := RX4) (T := TX4) (M := 8) hx hb hts hinX4 hown hK hG (by omega) cW_o rfl 0 (by decide) hf10 rfl rfl dX4_softness_26 ?_
      refine g_get (ci := 3) (C := RX3) (T := TX3) (M := 9) hx hb hts hinX3 hown hK hG (by omega) cW_yo rfl 0 (by decide) hf94 rfl rfl dX4_softness_29 ?_
      refine lv_iload_n hx hb dX4_softness_32 rfl (lv_at hl 1 rfl) ?_
      refine g_aald (j := 1 + 4 + 3 * k) hx hb hK hG (by omega) cW_ys (t0 := 1) rfl (k := k) rfl (by omega) (by decide) rfl dX4_softness_33 ?_
      have hG : GW D N L (gA N L s.heap.size) (sW cy L (cW cy L F C) (1 + 4 + 3 * k) (yS (cY C) k)) _ := hG.to (by rw [cW_S0 (k := k) (by omega)])
      refine g_cVi (As := [.ref (L (1 + 4 + 3 * k))]) (rest := [.int (y_soft (cY C) k)]) hx hb hml hown hts hK hA hG hS (k_X4_softTonnes l D cy N L _ (1 + 4 + 3 * k) (yS (cY C) k)  (yZ (cY C)) (by omega) (by omega) (cE_cW (F := F) (c := C))  (hy k (by omega))) (cwV 1 hts gX4_softness_X4_softTonnes rfl rfl rfl (by decide +kernel) ⟨Nat.le_of_ble_eq_true rfl, Nat.le_of_ble_eq_true rfl⟩) (by omega) (by rw [sW_n (by omega)]; exact cW_o) (ci := 4) rfl rfl rfl rfl hl.1 (Nat.le_of_ble_eq_true rfl) dX4_softness_34 ⟨Nat.zero_le _, Nat.zero_le _⟩ (fun H locs hG hS => ?_)
      have hG : GW D N L (gA N L s.heap.size) (cW cy L F C) _ := hG.to (by rw [cW_S0 (k := k) (by omega)] <;> rfl)
      refine lv_iadd hx hb dX4_softness_37 ?_
      refine lv_istore_n (lv' := [(2, .int ((y_soft (cY C) k) + (c_soft (yZ (cY C)) (yS (cY C) k) (sN (yS (cY C) k))))), (3, .int (nI k)), (1, .int (y_silos (cY C) 4)), (0, .ref (L 0))]) hx hb dX4_softness_38 rfl hl (by decide) rfl (fun ls hl => ?_)
      refine lv_iinc (v := nI (k + 1)) (lv' := [(3, .int (nI (k + 1))), (2, .int ((y_soft (cY C) k) + (c_soft (yZ (cY C)) (yS (cY C) k) (sN (yS (cY C) k))))), (1, .int (y_silos (cY C) 4)), (0, .ref (L 0))]) hx hb dX4_softness_39 hl (k := 1) rfl (nI_add k 1) (by decide) rfl (fun ls hl => ?_)
      refine lv_goto (tgt := 18) hx hb dX4_softness_42 (by decide) ?_
      have hl : lv_has ls 4 [(2, .int ((y_soft (cY C) k) + (c_soft (yZ (cY C)) (yS (cY C) k) (sN (yS (cY C) k))))), (3, .int (nI (k + 1))), (1, .int (y_silos (cY C) 4)), (0, .ref (L 0))] := lv_sub hl [1, 0, 2, 3] rfl
      exact ih18 (k + 1) _ _ _ (by omega) ⟨by omega, hG.to (rfl), hS, lv_to hl (rfl)⟩
  · skip
    refine lv_dconst1 hx hb dX4_softness_12 ?_
    exact g_dret hx hb hr hlocks hK hG hS dX4_softness_13 ⟨(congrArg (fun z9 => some (Value.double z9)) (by first | (simp only [y_softD, eq_true c_9, if_true, if_false]; done) | (rw [show k = 4 by omega]; simp only [y_softD, eq_true c_9, if_true, if_false]))), rfl⟩
