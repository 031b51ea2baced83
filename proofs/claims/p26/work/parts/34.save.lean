set_option maxHeartbeats 4000000 in
set_option maxRecDepth 100000 in
theorem k_X4_saveState (l : Launch) (D : va_G) (cy : Nat → ClassId) (N : Nat) (L : Nat → Nat) (F : Nat → va_E) (hN : 162 ≤ N) (C : CT)  (hq : cQ C ≤ 6) (hm : ∀ i, i < 6 → cM C i < 6) : GM l D cy N L yX4_saveState wsX4_saveState ({ frames := 2, cells := 0, slots := 0, locals := 44 }) [.ref (L 0)] (cW cy L F C) (none) (cW cy L F (c_save C)) := by
  refine GM.ofW (cc := cX4_saveState) (maxL := 3) (ret := none) (by decide) rfl (Nat.le_of_ble_eq_true rfl) ?_
  intro p e s m below meth c ls hx hb hr hts hown hlocks hml hK hA hG hS hl
  have hl : lv_has ls 3 [(0, .ref (L 0))] := hl
  have hf20 := hts (.fieldLink RX4 20 "SiloPads" "savedStates" "I") (by decide +kernel)
  have hinX4 : ∀ w ∈ u_ws RX4 TX4 8, w ∈ wsX4_saveState := by decide +kernel
  have hf16 := hts (.fieldLink RX4 16 "SiloPads" "saved" "[LSiloPads$Yard;") (by decide +kernel)
  have hf10 := hts (.fieldLink RX4 10 "SiloPads" "now" "LSiloPads$Yard;") (by decide +kernel)
  have hm0 := hm 0 (by omega)
  have hr6 := n_rot_lt hq
  have hrl := m_rot_lt (n := cQ C) hm (n_rot (cQ C)) hr6
  refine W.cut (pc2 := 61) (st2 := []) (P := fun H locs ls => (True) ∧ GW D N L (gA N L s.heap.size) (cW cy L F (cY C, cV C, m_rot (cM C) (cQ C), n_rot (cQ C), cB C, cL C, cR C, cT C, cU C)) H ∧ va_S (gA N L s.heap.size) s.heap H locs ∧ lv_has ls 3 [(0, .ref (L 0))]) (fun hcut61 => ?_) (fun H locs ls hP9 => ?_)
  · skip
    refine lv_aload_n hx hb dX4_saveState_0 rfl (lv_at hl 0 rfl) ?_
    refine g_get (ci := 4) (C := RX4) (T := TX4) (M := 8) hx hb hts hinX4 hown hK hG (by omega) cW_o rfl 2 (by decide) hf20 rfl rfl dX4_saveState_1 ?_
    refine lv_bipush (v := 6) hx hb dX4_saveState_4 (by decide) ?_
    refine lv_icmp_ne (tgt := 61) hx hb dX4_saveState_6 (by decide) (fun c_6 => ?_) (fun c_6 => ?_)
    · skip
      have c_6 : ¬ (cQ C) = 6 := fun h9 => c_6 ((nI_eq (a := cQ C) (b := 6) (by omega) (by omega)).mpr h9)
      have hl : lv_has ls 3 [(0, .ref (L 0))] := lv_sub hl [0] rfl
      exact hcut61 _ _ _ ⟨trivial, hG.to (by first | (simp only [m_rot, n_rot, c_6, if_true, if_false]; done) | (subst hie; simp only [m_rot, n_rot, c_6, if_true, if_false]; rw [show cQ C - 1 = 5 by omega])), hS, lv_to hl (rfl)⟩
    · skip
      have c_6 : (cQ C) = 6 := (nI_eq (a := cQ C) (b := 6) (by omega) (by omega)).mp c_6
      refine lv_aload_n hx hb dX4_saveState_9 rfl (lv_at hl 0 rfl) ?_
      refine g_get (ci := 4) (C := RX4) (T := TX4) (M := 8) hx hb hts hinX4 hown hK hG (by omega) cW_o rfl 1 (by decide) hf16 rfl rfl dX4_saveState_10 ?_
      refine lv_iconst (v := 0) hx hb dX4_saveState_13 (by decide) ?_
      refine g_aald (j := 30 + 22 * ((cM C) 0)) hx hb hK hG (by omega) cW_v (t0 := 3) rfl (k := 0) rfl (by omega) (by decide) rfl dX4_saveState_14 ?_
      refine lv_astore_n (lv' := [(1, .ref (L (30 + 22 * ((cM C) 0)))), (0, .ref (L 0))]) hx hb dX4_saveState_15 rfl hl (by decide) rfl (fun ls hl => ?_)
      refine lv_iconst (v := 1) hx hb dX4_saveState_16 (by decide) ?_
      refine lv_istore_n (lv' := [(2, .int 1), (1, .ref (L (30 + 22 * ((cM C) 0)))), (0, .ref (L 0))]) hx hb dX4_saveState_17 rfl hl (by decide) rfl (fun ls hl => ?_)
      refine W.loop (σ := Nat) (fun i H locs ls => (i ≤ 5) ∧ GW D N L (gA N L s.heap.size) (cW cy L F (cY C, cV C, m_sh (cM C) i, cQ C, cB C, cL C, cR C, cT C, cU C)) H ∧ va_S (gA N L s.heap.size) s.heap H locs ∧ lv_has ls 3 [(2, .int (nI (i + 1))), (1, .ref (L (30 + 22 * ((cM C) 0)))), (0, .ref (L 0))]) (fun i => 5 - i) 0 ⟨by omega, hG.to (rfl), hS, lv_to (lv_sub hl [0, 1, 2] rfl) (rfl)⟩ ?_
      intro i H locs ls hP9 ih18
      obtain ⟨hi9, hG, hS, hl⟩ := hP9
      have hms := m_sh_lt hm i (by omega)
      have hmi := hms i (by omega)
      refine lv_iload_n hx hb dX4_saveState_18 rfl (lv_at hl 0 rfl) ?_
      refine lv_bipush (v := 6) hx hb dX4_saveState_19 (by decide) ?_
      refine lv_icmp_ge (tgt := 44) hx hb dX4_saveState_21 (by decide) (fun c_21 => ?_) (fun c_21 => ?_)
      · skip
        have c_21 : 6 ≤ (i + 1) := (nI_leI (a := 6) (b := i + 1) (by omega) (by omega)).mp c_21
        have hie : i = 5 := by omega
        refine lv_aload_n hx hb dX4_saveState_44 rfl (lv_at hl 2 rfl) ?_
        refine g_get (ci := 4) (C := RX4) (T := TX4) (M := 8) hx hb hts hinX4 hown hK hG (by omega) cW_o rfl 1 (by decide) hf16 rfl rfl dX4_saveState_45 ?_
        refine lv_iconst (v := 5) hx hb dX4_saveState_48 (by decide) ?_
        refine lv_aload_n hx hb dX4_saveState_49 rfl (lv_at hl 1 rfl) ?_
        refine g_aast (j := 30 + 22 * ((cM C) 0)) (ci := 3) hx hb hK hG hS (by omega) cW_v (t0 := 3) rfl (by omega) (cW_vo (p := ((cM C) 0)) (by omega)) rfl (k := 5) rfl (by omega) (by decide) dX4_saveState_50 (fun H locs hG hS => ?_)
        have hG : GW D N L (gA N L s.heap.size) (cW cy L F (cY C, cV C, nSet (m_sh (cM C) i) 5 ((cM C) 0), cQ C, cB C, cL C, cR C, cT C, cU C)) _ := hG.to cW_uv
        refine lv_aload_n hx hb dX4_saveState_51 rfl (lv_at hl 2 rfl) ?_
        refine lv_dup hx hb dX4_saveState_52 rfl ?_
        refine g_get (ci := 4) (C := RX4) (T := TX4) (M := 8) hx hb hts hinX4 hown hK hG (by omega) cW_o rfl 2 (by decide) hf20 rfl rfl dX4_saveState_53 ?_
        refine lv_iconst (v := 1) hx hb dX4_saveState_56 (by decide) ?_
        refine lv_isub hx hb dX4_saveState_57 ?_
        refine lv_toN (k := (cQ C) - 1) (pk_sub (a := cQ C) (b := 1) (by omega)) ?_
        refine g_put (ci := 4) (C := RX4) (T := TX4) (M := 8) (ty := .int) hx hb hts hinX4 tyX4 tyX4_ok nmX4 hown hK hG hS (by omega) cW_o rfl 2 (by decide) hf20 rfl rfl rfl rfl rfl (Nat.le_of_ble_eq_true rfl) dX4_saveState_58 rfl (fun H locs hG hS => ?_)
        have hG : GW D N L (gA N L s.heap.size) (cW cy L F (cY C, cV C, nSet (m_sh (cM C) i) 5 ((cM C) 0), (cQ C) - 1, cB C, cL C, cR C, cT C, cU C)) _ := hG.to cW_uo
        have hl : lv_has ls 3 [(0, .ref (L 0))] := lv_sub hl [2] rfl
        exact hcut61 _ _ _ ⟨trivial, hG.to (by first | (simp only [m_rot, n_rot, eq_true c_6, c_21, if_true, if_false]; done) | (subst hie; simp only [m_rot, n_rot, eq_true c_6, c_21, if_true, if_false]; rw [show cQ C - 1 = 5 by omega])), hS, lv_to hl (rfl)⟩
      · skip
        have c_21 : ¬ 6 ≤ (i + 1) := fun h9 => c_21 ((nI_leI (a := 6) (b := i + 1) (by omega) (by omega)).mpr h9)
        have hmj := hms (i + 1) (by omega)
        refine lv_aload_n hx hb dX4_saveState_24 rfl (lv_at hl 2 rfl) ?_
        refine g_get (ci := 4) (C := RX4) (T := TX4) (M := 8) hx hb hts hinX4 hown hK hG (by omega) cW_o rfl 1 (by decide) hf16 rfl rfl dX4_saveState_25 ?_
        refine lv_iload_n hx hb dX4_saveState_28 rfl (lv_at hl 0 rfl) ?_
        refine lv_iconst (v := 1) hx hb dX4_saveState_29 (by decide) ?_
        refine lv_isub hx hb dX4_saveState_30 ?_
        refine lv_toN (k := (i + 1) - 1) (pk_sub (a := i + 1) (b := 1) (by omega)) ?_
        refine lv_aload_n hx hb dX4_saveState_31 rfl (lv_at hl 2 rfl) ?_
        refine g_get (ci := 4) (C := RX4) (T := TX4) (M := 8) hx hb hts hinX4 hown hK hG (by omega) cW_o rfl 1 (by decide) hf16 rfl rfl dX4_saveState_32 ?_
        refine lv_iload_n hx hb dX4_saveState_35 rfl (lv_at hl 0 rfl) ?_
        refine g_aald (j := 30 + 22 * ((m_sh (cM C) i) (i + 1))) hx hb hK hG (by omega) cW_v (t0 := 3) rfl (k := i + 1) rfl (by omega) (by decide) rfl dX4_saveState_36 ?_
        refine g_aast (j := 30 + 22 * ((m_sh (cM C) i) (i + 1))) (ci := 3) hx hb hK hG hS (by omega) cW_v (t0 := 3) rfl (by omega) (cW_vo (p := ((m_sh (cM C) i) (i + 1))) (by omega)) rfl (k := (i + 1) - 1) rfl (by omega) (by decide) dX4_saveState_37 (fun H locs hG hS => ?_)
        have hG : GW D N L (gA N L s.heap.size) (cW cy L F (cY C, cV C, nSet (m_sh (cM C) i) ((i + 1) - 1) ((m_sh (cM C) i) (i + 1)), cQ C, cB C, cL C, cR C, cT C, cU C)) _ := hG.to cW_uv
        refine lv_iinc (v := nI ((i + 1) + 1)) (lv' := [(2, .int (nI ((i + 1) + 1))), (1, .ref (L (30 + 22 * ((cM C) 0)))), (0, .ref (L 0))]) hx hb dX4_saveState_38 hl (k := 0) rfl (nI_add (i + 1) 1) (by decide) rfl (fun ls hl => ?_)
        refine lv_goto (tgt := 18) hx hb dX4_saveState_41 (by decide) ?_
        have hl : lv_has ls 3 [(2, .int (nI ((i + 1) + 1))), (1, .ref (L (30 + 22 * ((cM C) 0)))), (0, .ref (L 0))] := lv_sub hl [0, 1, 2] rfl
        exact ih18 (i + 1) _ _ _ (by omega) ⟨by omega, hG.to (rfl), hS, lv_to hl (rfl)⟩
  · obtain ⟨-, hG, hS, hl⟩ := hP9
    refine lv_aload_n hx hb dX4_saveState_61 rfl (lv_at hl 0 rfl) ?_
    refine g_get (ci := 4) (C := RX4) (T := TX4) (M := 8) hx hb hts hinX4 hown hK hG (by omega) cW_o rfl 1 (by decide) hf16 rfl rfl dX4_saveState_62 ?_
    refine lv_aload_n hx hb dX4_saveState_65 rfl (lv_at hl 0 rfl) ?_
    refine g_get (ci := 4) (C := RX4) (T := TX4) (M := 8) hx hb hts hinX4 hown hK hG (by omega) cW_o rfl 2 (by decide) hf20 rfl rfl dX4_saveState_66 ?_
    refine g_aald (j := 30 + 22 * ((m_rot (cM C) (cQ C)) (n_rot (cQ C)))) hx hb hK hG (by omega) cW_v (t0 := 3) rfl (k := n_rot (cQ C)) rfl (by omega) (by decide) rfl dX4_saveState_69 ?_
    refine lv_aload_n hx hb dX4_saveState_70 rfl (lv_at hl 0 rfl) ?_
    refine g_get (ci := 4) (C := RX4) (T := TX4) (M := 8) hx hb hts hinX4 hown hK hG (by omega) cW_o rfl 0 (by decide) hf10 rfl rfl dX4_saveState_71 ?_
    have hG : GW D N L (gA N L s.heap.size) (yW cy L (yW cy L (cW cy L F (cY C, cV C, m_rot (cM C) (cQ C), n_rot (cQ C), cB C, cL C, cR C, cT C, cU C)) (1) (cY C)) (30 + 22 * ((m_rot (cM C) (cQ C)) (n_rot (cQ C)))) ((cV C) ((m_rot (cM C) (cQ C)) (n_rot (cQ C))))) _ := hG.to (by rw [cW_Y0 , cW_V0 (p := ((m_rot (cM C) (cQ C)) (n_rot (cQ C)))) (by omega)])
    refine g_cVv (As := [.ref (L 1)]) (rest := []) hx hb hml hown hts hK hA hG hS (k_X3_becomeLike l D cy N L _ 1 (cY C) (30 + 22 * ((m_rot (cM C) (cQ C)) (n_rot (cQ C)))) ((cV C) ((m_rot (cM C) (cQ C)) (n_rot (cQ C))))  (by omega) (by omega) (by omega)  ) (cwV 1 hts gX4_saveState_X3_becomeLike rfl rfl rfl (by decide +kernel) ⟨Nat.le_of_ble_eq_true rfl, Nat.le_of_ble_eq_true rfl⟩) (by omega) yW_o (ci := 3) rfl rfl rfl rfl hl.1 (Nat.le_of_ble_eq_true rfl) dX4_saveState_74 ⟨Nat.zero_le _, Nat.zero_le _⟩ (fun H locs hG hS => ?_)
    have hG : GW D N L (gA N L s.heap.size) (cW cy L F (cY C, vSet (cV C) ((m_rot (cM C) (cQ C)) (n_rot (cQ C))) (y_like ((cV C) ((m_rot (cM C) (cQ C)) (n_rot (cQ C)))) (cY C)), m_rot (cM C) (cQ C), n_rot (cQ C), cB C, cL C, cR C, cT C, cU C)) _ := hG.to (by rw [cW_Y0 , cW_V (p := ((m_rot (cM C) (cQ C)) (n_rot (cQ C)))) (by omega)] <;> rfl)
    refine lv_aload_n hx hb dX4_saveState_77 rfl (lv_at hl 0 rfl) ?_
    refine lv_dup hx hb dX4_saveState_78 rfl ?_
    refine g_get (ci := 4) (C := RX4) (T := TX4) (M := 8) hx hb hts hinX4 hown hK hG (by omega) cW_o rfl 2 (by decide) hf20 rfl rfl dX4_saveState_79 ?_
    refine lv_iconst (v := 1) hx hb dX4_saveState_82 (by decide) ?_
    refine lv_iadd hx hb dX4_saveState_83 ?_
    refine lv_toN (k := (n_rot (cQ C)) + 1) (nI_add (n_rot (cQ C)) 1) ?_
    refine g_put (ci := 4) (C := RX4) (T := TX4) (M := 8) (ty := .int) hx hb hts hinX4 tyX4 tyX4_ok nmX4 hown hK hG hS (by omega) cW_o rfl 2 (by decide) hf20 rfl rfl rfl rfl rfl (Nat.le_of_ble_eq_true rfl) dX4_saveState_84 rfl (fun H locs hG hS => ?_)
    have hG : GW D N L (gA N L s.heap.size) (cW cy L F (cY C, vSet (cV C) ((m_rot (cM C) (cQ C)) (n_rot (cQ C))) (y_like ((cV C) ((m_rot (cM C) (cQ C)) (n_rot (cQ C)))) (cY C)), m_rot (cM C) (cQ C), (n_rot (cQ C)) + 1, cB C, cL C, cR C, cT C, cU C)) _ := hG.to cW_uo
    exact g_vret hx hb hr hlocks hK hG hS dX4_saveState_87 ⟨rfl, (by rfl)⟩
