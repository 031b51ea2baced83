set_option maxHeartbeats 4000000 in
set_option maxRecDepth 100000 in
theorem k_L_act (l : Launch) (D : va_G) (cy : Nat → ClassId) (N : Nat) (L : Nat → Nat) (F : Nat → va_E) (hN : 162 ≤ N) (C : CT) (v w : Int32) (hy : wfY (cY C)) (hq : cQ C ≤ 6) (hm : ∀ i, i < 6 → cM C i < 6) : GM l D cy N L yL_act wsL_act ({ frames := 8, cells := 0, slots := 0, locals := 175 }) [.ref (L 0), .int v, .int w] (cW cy L F C) (some (.int (a_R (cY C) v w))) (cW cy L F (a_C C v w)) := by
  refine GM.ofW (cc := cL_act) (maxL := 7) (ret := (some .int)) (by decide) rfl (Nat.le_of_ble_eq_true rfl) ?_
  intro p e s m below meth c ls hx hb hr hts hown hlocks hml hK hA hG hS hl
  have hl : lv_has ls 7 [(0, .ref (L 0)), (1, .int v), (2, .int w)] := hl
  have hk4 := a_k4 v
  have hn10 := hy (a_k v) hk4
  have hj6 := a_j6 v
  have hn4 := a_n4 v
  have hau := a_u900 w
  have hat := a_tu w
  have haq := a_q5 w
  have had := a_d3 w
  have hlq := lowN_lt w (n := a_q w) (by omega)
  have hld := lowN_lt w (n := a_d w) (by omega)
  have hl24 := lowN_lt w (n := 24) (by omega)
  have hl5 := lowN_lt w (n := 5) (by omega)
  have hl3 := lowN_lt w (n := 3) (by omega)
  have hl16 := lowN_lt (w >>> ((2 : Int32) &&& 31)) (n := 16) (by omega)
  have hset := n_set (i := 1 + lowN w 3) (n := 5 + lowN (w >>> ((2 : Int32) &&& 31)) 16) (by omega) (by omega) (by omega) (by omega)
  refine lv_iload_n hx hb dL_act_0 rfl (lv_at hl 1 rfl) ?_
  refine lv_iconst (v := 4) hx hb dL_act_1 (by decide) ?_
  refine lv_ishr hx hb dL_act_2 ?_
  refine lv_iload_n hx hb dL_act_3 rfl (lv_at hl 1 rfl) ?_
  refine lv_bipush (v := 20) hx hb dL_act_4 (by decide) ?_
  refine lv_ishr hx hb dL_act_6 ?_
  refine lv_iconst (v := 1) hx hb dL_act_7 (by decide) ?_
  refine lv_iand hx hb dL_act_8 ?_
  refine lv_toI (y := b_20 v) (rfl) ?_
  refine W.cut (pc2 := 17) (st2 := [.int (nI (a_n v)), .int (v >>> (4 &&& 31))]) (P := fun H locs ls => (True) ∧ GW D N L (gA N L s.heap.size) (cW cy L F C) H ∧ va_S (gA N L s.heap.size) s.heap H locs ∧ lv_has ls 7 [(0, .ref (L 0)), (1, .int v), (2, .int w)]) (fun hcut17 => ?_) (fun H locs ls hP9 => ?_)
  · skip
    refine lv_if_ne (tgt := 16) hx hb dL_act_9 (by decide) (fun c_9 => ?_) (fun c_9 => ?_)
    · skip
      refine lv_iconst (v := 4) hx hb dL_act_16 (by decide) ?_
      refine lv_toI (y := nI (a_n v)) (by first | (rw [show a_n v = 2 from if_pos c_9]; rfl) | (rw [show a_n v = 4 from if_neg c_9]; rfl)) ?_
      have hl : lv_has ls 7 [(0, .ref (L 0)), (1, .int v), (2, .int w)] := lv_sub hl [0, 1, 2] rfl
      exact hcut17 _ _ _ ⟨trivial, hG.to (rfl), hS, lv_to hl (rfl)⟩
    · skip
      refine lv_iconst (v := 2) hx hb dL_act_12 (by decide) ?_
      refine lv_goto (tgt := 17) hx hb dL_act_13 (by decide) ?_
      refine lv_toI (y := nI (a_n v)) (by first | (rw [show a_n v = 2 from if_pos c_9]; rfl) | (rw [show a_n v = 4 from if_neg c_9]; rfl)) ?_
      have hl : lv_has ls 7 [(0, .ref (L 0)), (1, .int v), (2, .int w)] := lv_sub hl [0, 1, 2] rfl
      exact hcut17 _ _ _ ⟨trivial, hG.to (rfl), hS, lv_to hl (rfl)⟩
  · obtain ⟨-, hG, hS, hl⟩ := hP9
    refine g_cSi (As := [.int (v >>> (4 &&& 31)), .int (nI (a_n v))]) (rest := []) hx hb hml hown hts hK hA hG hS (k_L_low l D cy N L _ (v >>> (4 &&& 31)) (a_n v) (by omega) (by omega)) (g_cwS 2 hts gL_act_L_low rfl rfl rfl (by decide +kernel) ⟨Nat.le_of_ble_eq_true rfl, Nat.le_of_ble_eq_true rfl⟩) rfl rfl hl.1 (Nat.le_of_ble_eq_true rfl) dL_act_17 ⟨Nat.zero_le _, Nat.zero_le _⟩ (fun H locs hG hS => ?_)
    refine lv_toN (k := a_k v) (rfl) ?_
    refine lv_istore_n (lv' := [(3, .int (nI (a_k v))), (0, .ref (L 0)), (1, .int v), (2, .int w)]) hx hb dL_act_20 rfl hl (by decide) rfl (fun ls hl => ?_)
    refine lv_iload_n hx hb dL_act_21 rfl (lv_at hl 2 rfl) ?_
    refine lv_bipush (v := 6) hx hb dL_act_22 (by decide) ?_
    refine lv_ishr hx hb dL_act_24 ?_
    refine lv_bipush (v := 6) hx hb dL_act_25 (by decide) ?_
    refine g_cSi (As := [.int (v >>> (6 &&& 31)), .int 6]) (rest := []) hx hb hml hown hts hK hA hG hS (k_L_low l D cy N L _ (v >>> (6 &&& 31)) 6 (by omega) (by omega)) (g_cwS 2 hts gL_act_L_low rfl rfl rfl (by decide +kernel) ⟨Nat.le_of_ble_eq_true rfl, Nat.le_of_ble_eq_true rfl⟩) rfl rfl hl.1 (Nat.le_of_ble_eq_true rfl) dL_act_27 ⟨Nat.zero_le _, Nat.zero_le _⟩ (fun H locs hG hS => ?_)
    refine lv_toN (k := a_j v) (rfl) ?_
    refine lv_istore (lv' := [(4, .int (nI (a_j v))), (3, .int (nI (a_k v))), (0, .ref (L 0)), (1, .int v), (2, .int w)]) hx hb dL_act_30 hl (by decide) rfl (fun ls hl => ?_)
    refine lv_iload_n hx hb dL_act_32 rfl (lv_at hl 3 rfl) ?_
    refine lv_bipush (v := 15) hx hb dL_act_33 (by decide) ?_
    refine lv_iand hx hb dL_act_35 ?_
    refine lv_toI (y := v &&& 15) rfl ?_
    by_cases c_36_0 : v &&& 15 = 0
    · skip
      refine lv_tableIn (off := 68) (tgt := 104) hx hb dL_act_36 (by rw [c_36_0]; decide) (by rw [c_36_0]; decide) (by rw [c_36_0]; decide) (by decide) ?_
      refine lv_iload_n hx hb dL_act_104 rfl (lv_at hl 4 rfl) ?_
      refine lv_sipush (v := 901) hx hb dL_act_105 (by decide) ?_
      refine g_cSi (As := [.int w, .int 901]) (rest := []) hx hb hml hown hts hK hA hG hS (k_L_low l D cy N L _ w 901 (by omega) (by omega)) (g_cwS 2 hts gL_act_L_low rfl rfl rfl (by decide +kernel) ⟨Nat.le_of_ble_eq_true rfl, Nat.le_of_ble_eq_true rfl⟩) rfl rfl hl.1 (Nat.le_of_ble_eq_true rfl) dL_act_108 ⟨Nat.zero_le _, Nat.zero_le _⟩ (fun H locs hG hS => ?_)
      refine lv_toN (k := a_u w) (rfl) ?_
      refine lv_istore (lv' := [(5, .int (nI (a_u w))), (4, .int (nI (a_j v))), (3, .int (nI (a_k v))), (0, .ref (L 0)), (1, .int v), (2, .int w)]) hx hb dL_act_111 hl (by decide) rfl (fun ls hl => ?_)
      refine lv_aload_n hx hb dL_act_113 rfl (lv_at hl 3 rfl) ?_
      refine lv_iload hx hb dL_act_114 (lv_at hl 1 rfl) ?_
      refine lv_iload hx hb dL_act_116 (lv_at hl 0 rfl) ?_
      refine lv_iload_n hx hb dL_act_118 rfl (lv_at hl 5 rfl) ?_
      refine lv_bipush (v := 6) hx hb dL_act_119 (by decide) ?_
      refine lv_ishr hx hb dL_act_121 ?_
      refine lv_iload hx hb dL_act_122 (lv_at hl 0 rfl) ?_
      refine lv_iconst (v := 1) hx hb dL_act_124 (by decide) ?_
      refine lv_iadd hx hb dL_act_125 ?_
      refine lv_toN (k := (a_u w) + 1) (nI_add (a_u w) 1) ?_
      refine g_cSi (As := [.int (w >>> (6 &&& 31)), .int (nI ((a_u w) + 1))]) (rest := [.int (nI (a_u w)), .int (nI (a_j v)), .ref (L 0)]) hx hb hml hown hts hK hA hG hS (k_L_low l D cy N L _ (w >>> (6 &&& 31)) ((a_u w) + 1) (by omega) (by omega)) (g_cwS 2 hts gL_act_L_low rfl rfl rfl (by decide +kernel) ⟨Nat.le_of_ble_eq_true rfl, Nat.le_of_ble_eq_true rfl⟩) rfl rfl hl.1 (Nat.le_of_ble_eq_true rfl) dL_act_126 ⟨Nat.zero_le _, Nat.zero_le _⟩ (fun H locs hG hS => ?_)
      refine lv_toN (k := a_t w) (rfl) ?_
      refine g_cVi (As := [.int (nI (a_j v)), .int (nI (a_u w)), .int (nI (a_t w))]) (rest := []) hx hb hml hown hts hK hA hG hS (k_X4_ship_ok l D cy N L _ (by omega) C (a_j v) (nI (a_u w)) (nI (a_t w)) (hy) (hq) (hm) (by omega) (n_pos (by omega)) (n_900 (by omega)) (n_pos (by omega)) (n_le (by omega) (by omega))) (cwV 3 hts gL_act_X4_ship rfl rfl rfl (by decide +kernel) ⟨Nat.le_of_ble_eq_true rfl, Nat.le_of_ble_eq_true rfl⟩) (by omega) cW_o (ci := 4) rfl rfl rfl rfl hl.1 (Nat.le_of_ble_eq_true rfl) dL_act_129 ⟨Nat.zero_le _, Nat.zero_le _⟩ (fun H locs hG hS => ?_)
      exact g_iret hx hb hr hlocks hK hG hS rfl dL_act_132 ⟨(congrArg (fun z9 => some (Value.int z9)) (by first | (simp only [a_R, a_res, a_ship, a_unl, a_flow, a_pads, a_shk, a_set, a_pass, eq_true c_36_0, if_true, if_false]; done) | (simp only [a_R, a_res, a_ship, a_unl, a_flow, a_pads, a_shk, a_set, a_pass, eq_true c_36_0, if_true, if_false]; rfl) | rfl)), (by first | (simp only [a_C, a_res, a_ship, a_unl, a_flow, a_pads, a_shk, a_set, a_pass, eq_true c_36_0, if_true, if_false]; done) | (simp only [a_C, a_res, a_ship, a_unl, a_flow, a_pads, a_shk, a_set, a_pass, eq_true c_36_0, if_true, if_false]; rfl) | rfl)⟩
    by_cases c_36_1 : v &&& 15 = 1
    · skip
      refine lv_tableIn (off := 68) (tgt := 104) hx hb dL_act_36 (by rw [c_36_1]; decide) (by rw [c_36_1]; decide) (by rw [c_36_1]; decide) (by decide) ?_
      refine lv_iload_n hx hb dL_act_104 rfl (lv_at hl 4 rfl) ?_
      refine lv_sipush (v := 901) hx hb dL_act_105 (by decide) ?_
      refine g_cSi (As := [.int w, .int 901]) (rest := []) hx hb hml hown hts hK hA hG hS (k_L_low l D cy N L _ w 901 (by omega) (by omega)) (g_cwS 2 hts gL_act_L_low rfl rfl rfl (by decide +kernel) ⟨Nat.le_of_ble_eq_true rfl, Nat.le_of_ble_eq_true rfl⟩) rfl rfl hl.1 (Nat.le_of_ble_eq_true rfl) dL_act_108 ⟨Nat.zero_le _, Nat.zero_le _⟩ (fun H locs hG hS => ?_)
      refine lv_toN (k := a_u w) (rfl) ?_
      refine lv_istore (lv' := [(5, .int (nI (a_u w))), (4, .int (nI (a_j v))), (3, .int (nI (a_k v))), (0, .ref (L 0)), (1, .int v), (2, .int w)]) hx hb dL_act_111 hl (by decide) rfl (fun ls hl => ?_)
      refine lv_aload_n hx hb dL_act_113 rfl (lv_at hl 3 rfl) ?_
      refine lv_iload hx hb dL_act_114 (lv_at hl 1 rfl) ?_
      refine lv_iload hx hb dL_act_116 (lv_at hl 0 rfl) ?_
      refine lv_iload_n hx hb dL_act_118 rfl (lv_at hl 5 rfl) ?_
      refine lv_bipush (v := 6) hx hb dL_act_119 (by decide) ?_
      refine lv_ishr hx hb dL_act_121 ?_
      refine lv_iload hx hb dL_act_122 (lv_at hl 0 rfl) ?_
      refine lv_iconst (v := 1) hx hb dL_act_124 (by decide) ?_
      refine lv_iadd hx hb dL_act_125 ?_
      refine lv_toN (k := (a_u w) + 1) (nI_add (a_u w) 1) ?_
      refine g_cSi (As := [.int (w >>> (6 &&& 31)), .int (nI ((a_u w) + 1))]) (rest := [.int (nI (a_u w)), .int (nI (a_j v)), .ref (L 0)]) hx hb hml hown hts hK hA hG hS (k_L_low l D cy N L _ (w >>> (6 &&& 31)) ((a_u w) + 1) (by omega) (by omega)) (g_cwS 2 hts gL_act_L_low rfl rfl rfl (by decide +kernel) ⟨Nat.le_of_ble_eq_true rfl, Nat.le_of_ble_eq_true rfl⟩) rfl rfl hl.1 (Nat.le_of_ble_eq_true rfl) dL_act_126 ⟨Nat.zero_le _, Nat.zero_le _⟩ (fun H locs hG hS => ?_)
      refine lv_toN (k := a_t w) (rfl) ?_
      refine g_cVi (As := [.int (nI (a_j v)), .int (nI (a_u w)), .int (nI (a_t w))]) (rest := []) hx hb hml hown hts hK hA hG hS (k_X4_ship_ok l D cy N L _ (by omega) C (a_j v) (nI (a_u w)) (nI (a_t w)) (hy) (hq) (hm) (by omega) (n_pos (by omega)) (n_900 (by omega)) (n_pos (by omega)) (n_le (by omega) (by omega))) (cwV 3 hts gL_act_X4_ship rfl rfl rfl (by decide +kernel) ⟨Nat.le_of_ble_eq_true rfl, Nat.le_of_ble_eq_true rfl⟩) (by omega) cW_o (ci := 4) rfl rfl rfl rfl hl.1 (Nat.le_of_ble_eq_true rfl) dL_act_129 ⟨Nat.zero_le _, Nat.zero_le _⟩ (fun H locs hG hS => ?_)
      exact g_iret hx hb hr hlocks hK hG hS rfl dL_act_132 ⟨(congrArg (fun z9 => some (Value.int z9)) (by first | (simp only [a_R, a_res, a_ship, a_unl, a_flow, a_pads, a_shk, a_set, a_pass, c_36_0, eq_true c_36_1, if_true, if_false]; done) | (simp only [a_R, a_res, a_ship, a_unl, a_flow, a_pads, a_shk, a_set, a_pass, c_36_0, eq_true c_36_1, if_true, if_false]; rfl) | rfl)), (by first | (simp only [a_C, a_res, a_ship, a_unl, a_flow, a_pads, a_shk, a_set, a_pass, c_36_0, eq_true c_36_1, if_true, if_false]; done) | (simp only [a_C, a_res, a_ship, a_unl, a_flow, a_pads, a_shk, a_set, a_pass, c_36_0, eq_true c_36_1, if_true, if_false]; rfl) | rfl)⟩
    by_cases c_36_2 : v &&& 15 = 2
    · skip
      refine lv_tableIn (off := 97) (tgt := 133) hx hb dL_act_36 (by rw [c_36_2]; decide) (by rw [c_36_2]; decide) (by rw [c_36_2]; decide) (by decide) ?_
      refine lv_aload_n hx hb dL_act_133 rfl (lv_at hl 2 rfl) ?_
      refine lv_iload_n hx hb dL_act_134 rfl (lv_at hl 1 rfl) ?_
      refine lv_iload hx hb dL_act_135 (lv_at hl 0 rfl) ?_
      refine lv_iconst (v := 1) hx hb dL_act_137 (by decide) ?_
      refine lv_iload_n hx hb dL_act_138 rfl (lv_at hl 4 rfl) ?_
      refine lv_iload_n hx hb dL_act_139 rfl (lv_at hl 4 rfl) ?_
      refine lv_bipush (v := 20) hx hb dL_act_140 (by decide) ?_
      refine lv_ishr hx hb dL_act_142 ?_
      refine lv_iconst (v := 1) hx hb dL_act_143 (by decide) ?_
      refine lv_iand hx hb dL_act_144 ?_
      refine lv_toI (y := b_20 w) (rfl) ?_
      refine W.cut (pc2 := 156) (st2 := [.int (nI (a_q w)), .int w, .int 1, .int (nI (a_j v)), .int (nI (a_k v)), .ref (L 0)]) (P := fun H locs ls => (True) ∧ GW D N L (gA N L s.heap.size) (cW cy L F C) H ∧ va_S (gA N L s.heap.size) s.heap H locs ∧ lv_has ls 7 [(4, .int (nI (a_j v))), (3, .int (nI (a_k v))), (0, .ref (L 0)), (1, .int v), (2, .int w)]) (fun hcut156 => ?_) (fun H locs ls hP9 => ?_)
      · skip
        refine lv_if_ne (tgt := 154) hx hb dL_act_145 (by decide) (fun c_145 => ?_) (fun c_145 => ?_)
        · skip
          refine lv_bipush (v := 60) hx hb dL_act_154 (by decide) ?_
          refine lv_toI (y := nI (a_q w)) (by first | (rw [show a_q w = 500 from if_pos c_145]; rfl) | (rw [show a_q w = 60 from if_neg c_145]; rfl)) ?_
          have hl : lv_has ls 7 [(4, .int (nI (a_j v))), (3, .int (nI (a_k v))), (0, .ref (L 0)), (1, .int v), (2, .int w)] := lv_sub hl [0, 1, 2, 3, 4] rfl
          exact hcut156 _ _ _ ⟨trivial, hG.to (rfl), hS, lv_to hl (rfl)⟩
        · skip
          refine lv_sipush (v := 500) hx hb dL_act_148 (by decide) ?_
          refine lv_goto (tgt := 156) hx hb dL_act_151 (by decide) ?_
          refine lv_toI (y := nI (a_q w)) (by first | (rw [show a_q w = 500 from if_pos c_145]; rfl) | (rw [show a_q w = 60 from if_neg c_145]; rfl)) ?_
          have hl : lv_has ls 7 [(4, .int (nI (a_j v))), (3, .int (nI (a_k v))), (0, .ref (L 0)), (1, .int v), (2, .int w)] := lv_sub hl [0, 1, 2, 3, 4] rfl
          exact hcut156 _ _ _ ⟨trivial, hG.to (rfl), hS, lv_to hl (rfl)⟩
      · obtain ⟨-, hG, hS, hl⟩ := hP9
        refine g_cSi (As := [.int w, .int (nI (a_q w))]) (rest := [.int 1, .int (nI (a_j v)), .int (nI (a_k v)), .ref (L 0)]) hx hb hml hown hts hK hA hG hS (k_L_low l D cy N L _ w (a_q w) (by omega) (by omega)) (g_cwS 2 hts gL_act_L_low rfl rfl rfl (by decide +kernel) ⟨Nat.le_of_ble_eq_true rfl, Nat.le_of_ble_eq_true rfl⟩) rfl rfl hl.1 (Nat.le_of_ble_eq_true rfl) dL_act_156 ⟨Nat.zero_le _, Nat.zero_le _⟩ (fun H locs hG hS => ?_)
        refine lv_iadd hx hb dL_act_159 ?_
        refine lv_toN (k := 1 + (lowN w (a_q w))) (nI_add 1 (lowN w (a_q w))) ?_
        refine g_cVi (As := [.int (nI (a_k v)), .int (nI (a_j v)), .int (nI (1 + (lowN w (a_q w))))]) (rest := []) hx hb hml hown hts hK hA hG hS (k_X4_unload_ok l D cy N L _ (by omega) C (a_k v) (a_j v) (nI (1 + (lowN w (a_q w)))) (hy) (hq) (hm) (by omega) (by omega) (n_1 (by omega) (by omega)) (n_500 (by omega))) (cwV 3 hts gL_act_X4_unload rfl rfl rfl (by decide +kernel) ⟨Nat.le_of_ble_eq_true rfl, Nat.le_of_ble_eq_true rfl⟩) (by omega) cW_o (ci := 4) rfl rfl rfl rfl hl.1 (Nat.le_of_ble_eq_true rfl) dL_act_160 ⟨Nat.zero_le _, Nat.zero_le _⟩ (fun H locs hG hS => ?_)
        exact g_iret hx hb hr hlocks hK hG hS rfl dL_act_163 ⟨(congrArg (fun z9 => some (Value.int z9)) (by first | (simp only [a_R, a_res, a_ship, a_unl, a_flow, a_pads, a_shk, a_set, a_pass, c_36_0, c_36_1, eq_true c_36_2, if_true, if_false]; done) | (simp only [a_R, a_res, a_ship, a_unl, a_flow, a_pads, a_shk, a_set, a_pass, c_36_0, c_36_1, eq_true c_36_2, if_true, if_false]; rfl) | rfl)), (by first | (simp only [a_C, a_res, a_ship, a_unl, a_flow, a_pads, a_shk, a_set, a_pass, c_36_0, c_36_1, eq_true c_36_2, if_true, if_false]; done) | (simp only [a_C, a_res, a_ship, a_unl, a_flow, a_pads, a_shk, a_set, a_pass, c_36_0, c_36_1, eq_true c_36_2, if_true, if_false]; rfl) | rfl)⟩
    by_cases c_36_3 : v &&& 15 = 3
    · skip
      refine lv_tableIn (off := 97) (tgt := 133) hx hb dL_act_36 (by rw [c_36_3]; decide) (by rw [c_36_3]; decide) (by rw [c_36_3]; decide) (by decide) ?_
      refine lv_aload_n hx hb dL_act_133 rfl (lv_at hl 2 rfl) ?_
      refine lv_iload_n hx hb dL_act_134 rfl (lv_at hl 1 rfl) ?_
      refine lv_iload hx hb dL_act_135 (lv_at hl 0 rfl) ?_
      refine lv_iconst (v := 1) hx hb dL_act_137 (by decide) ?_
      refine lv_iload_n hx hb dL_act_138 rfl (lv_at hl 4 rfl) ?_
      refine lv_iload_n hx hb dL_act_139 rfl (lv_at hl 4 rfl) ?_
      refine lv_bipush (v := 20) hx hb dL_act_140 (by decide) ?_
      refine lv_ishr hx hb dL_act_142 ?_
      refine lv_iconst (v := 1) hx hb dL_act_143 (by decide) ?_
      refine lv_iand hx hb dL_act_144 ?_
      refine lv_toI (y := b_20 w) (rfl) ?_
      refine W.cut (pc2 := 156) (st2 := [.int (nI (a_q w)), .int w, .int 1, .int (nI (a_j v)), .int (nI (a_k v)), .ref (L 0)]) (P := fun H locs ls => (True) ∧ GW D N L (gA N L s.heap.size) (cW cy L F C) H ∧ va_S (gA N L s.heap.size) s.heap H locs ∧ lv_has ls 7 [(4, .int (nI (a_j v))), (3, .int (nI (a_k v))), (0, .ref (L 0)), (1, .int v), (2, .int w)]) (fun hcut156 => ?_) (fun H locs ls hP9 => ?_)
      · skip
        refine lv_if_ne (tgt := 154) hx hb dL_act_145 (by decide) (fun c_145 => ?_) (fun c_145 => ?_)
        · skip
          refine lv_bipush (v := 60) hx hb dL_act_154 (by decide) ?_
          refine lv_toI (y := nI (a_q w)) (by first | (rw [show a_q w = 500 from if_pos c_145]; rfl) | (rw [show a_q w = 60 from if_neg c_145]; rfl)) ?_
          have hl : lv_has ls 7 [(4, .int (nI (a_j v))), (3, .int (nI (a_k v))), (0, .ref (L 0)), (1, .int v), (2, .int w)] := lv_sub hl [0, 1, 2, 3, 4] rfl
          exact hcut156 _ _ _ ⟨trivial, hG.to (rfl), hS, lv_to hl (rfl)⟩
        · skip
          refine lv_sipush (v := 500) hx hb dL_act_148 (by decide) ?_
          refine lv_goto (tgt := 156) hx hb dL_act_151 (by decide) ?_
          refine lv_toI (y := nI (a_q w)) (by first | (rw [show a_q w = 500 from if_pos c_145]; rfl) | (rw [show a_q w = 60 from if_neg c_145]; rfl)) ?_
          have hl : lv_has ls 7 [(4, .int (nI (a_j v))), (3, .int (nI (a_k v))), (0, .ref (L 0)), (1, .int v), (2, .int w)] := lv_sub hl [0, 1, 2, 3, 4] rfl
          exact hcut156 _ _ _ ⟨trivial, hG.to (rfl), hS, lv_to hl (rfl)⟩
      · obtain ⟨-, hG, hS, hl⟩ := hP9
        refine g_cSi (As := [.int w, .int (nI (a_q w))]) (rest := [.int 1, .int (nI (a_j v)), .int (nI (a_k v)), .ref (L 0)]) hx hb hml hown hts hK hA hG hS (k_L_low l D cy N L _ w (a_q w) (by omega) (by omega)) (g_cwS 2 hts gL_act_L_low rfl rfl rfl (by decide +kernel) ⟨Nat.le_of_ble_eq_true rfl, Nat.le_of_ble_eq_true rfl⟩) rfl rfl hl.1 (Nat.le_of_ble_eq_true rfl) dL_act_156 ⟨Nat.zero_le _, Nat.zero_le _⟩ (fun H locs hG hS => ?_)
        refine lv_iadd hx hb dL_act_159 ?_
        refine lv_toN (k := 1 + (lowN w (a_q w))) (nI_add 1 (lowN w (a_q w))) ?_
        refine g_cVi (As := [.int (nI (a_k v)), .int (nI (a_j v)), .int (nI (1 + (lowN w (a_q w))))]) (rest := []) hx hb hml hown hts hK hA hG hS (k_X4_unload_ok l D cy N L _ (by omega) C (a_k v) (a_j v) (nI (1 + (lowN w (a_q w)))) (hy) (hq) (hm) (by omega) (by omega) (n_1 (by omega) (by omega)) (n_500 (by omega))) (cwV 3 hts gL_act_X4_unload rfl rfl rfl (by decide +kernel) ⟨Nat.le_of_ble_eq_true rfl, Nat.le_of_ble_eq_true rfl⟩) (by omega) cW_o (ci := 4) rfl rfl rfl rfl hl.1 (Nat.le_of_ble_eq_true rfl) dL_act_160 ⟨Nat.zero_le _, Nat.zero_le _⟩ (fun H locs hG hS => ?_)
        exact g_iret hx hb hr hlocks hK hG hS rfl dL_act_163 ⟨(congrArg (fun z9 => some (Value.int z9)) (by first | (simp only [a_R, a_res, a_ship, a_unl, a_flow, a_pads, a_shk, a_set, a_pass, c_36_0, c_36_1, c_36_2, eq_true c_36_3, if_true, if_false]; done) | (simp only [a_R, a_res, a_ship, a_unl, a_flow, a_pads, a_shk, a_set, a_pass, c_36_0, c_36_1, c_36_2, eq_true c_36_3, if_true, if_false]; rfl) | rfl)), (by first | (simp only [a_C, a_res, a_ship, a_unl, a_flow, a_pads, a_shk, a_set, a_pass, c_36_0, c_36_1, c_36_2, eq_true c_36_3, if_true, if_false]; done) | (simp only [a_C, a_res, a_ship, a_unl, a_flow, a_pads, a_shk, a_set, a_pass, c_36_0, c_36_1, c_36_2, eq_true c_36_3, if_true, if_false]; rfl) | rfl)⟩
    by_cases c_36_4 : v &&& 15 = 4
    · skip
      refine lv_tableIn (off := 97) (tgt := 133) hx hb dL_act_36 (by rw [c_36_4]; decide) (by rw [c_36_4]; decide) (by rw [c_36_4]; decide) (by decide) ?_
      refine lv_aload_n hx hb dL_act_133 rfl (lv_at hl 2 rfl) ?_
      refine lv_iload_n hx hb dL_act_134 rfl (lv_at hl 1 rfl) ?_
      refine lv_iload hx hb dL_act_135 (lv_at hl 0 rfl) ?_
      refine lv_iconst (v := 1) hx hb dL_act_137 (by decide) ?_
      refine lv_iload_n hx hb dL_act_138 rfl (lv_at hl 4 rfl) ?_
      refine lv_iload_n hx hb dL_act_139 rfl (lv_at hl 4 rfl) ?_
      refine lv_bipush (v := 20) hx hb dL_act_140 (by decide) ?_
      refine lv_ishr hx hb dL_act_142 ?_
      refine lv_iconst (v := 1) hx hb dL_act_143 (by decide) ?_
      refine lv_iand hx hb dL_act_144 ?_
      refine lv_toI (y := b_20 w) (rfl) ?_
      refine W.cut (pc2 := 156) (st2 := [.int (nI (a_q w)), .int w, .int 1, .int (nI (a_j v)), .int (nI (a_k v)), .ref (L 0)]) (P := fun H locs ls => (True) ∧ GW D N L (gA N L s.heap.size) (cW cy L F C) H ∧ va_S (gA N L s.heap.size) s.heap H locs ∧ lv_has ls 7 [(4, .int (nI (a_j v))), (3, .int (nI (a_k v))), (0, .ref (L 0)), (1, .int v), (2, .int w)]) (fun hcut156 => ?_) (fun H locs ls hP9 => ?_)
      · skip
        refine lv_if_ne (tgt := 154) hx hb dL_act_145 (by decide) (fun c_145 => ?_) (fun c_145 => ?_)
        · skip
          refine lv_bipush (v := 60) hx hb dL_act_154 (by decide) ?_
          refine lv_toI (y := nI (a_q w)) (by first | (rw [show a_q w = 500 from if_pos c_145]; rfl) | (rw [show a_q w = 60 from if_neg c_145]; rfl)) ?_
          have hl : lv_has ls 7 [(4, .int (nI (a_j v))), (3, .int (nI (a_k v))), (0, .ref (L 0)), (1, .int v), (2, .int w)] := lv_sub hl [0, 1, 2, 3, 4] rfl
          exact hcut156 _ _ _ ⟨trivial, hG.to (rfl), hS, lv_to hl (rfl)⟩
        · skip
          refine lv_sipush (v := 500) hx hb dL_act_148 (by decide) ?_
          refine lv_goto (tgt := 156) hx hb dL_act_151 (by decide) ?_
          refine lv_toI (y := nI (a_q w)) (by first | (rw [show a_q w = 500 from if_pos c_145]; rfl) | (rw [show a_q w = 60 from if_neg c_145]; rfl)) ?_
          have hl : lv_has ls 7 [(4, .int (nI (a_j v))), (3, .int (nI (a_k v))), (0, .ref (L 0)), (1, .int v), (2, .int w)] := lv_sub hl [0, 1, 2, 3, 4] rfl
          exact hcut156 _ _ _ ⟨trivial, hG.to (rfl), hS, lv_to hl (rfl)⟩
      · obtain ⟨-, hG, hS, hl⟩ := hP9
        refine g_cSi (As := [.int w, .int (nI (a_q w))]) (rest := [.int 1, .int (nI (a_j v)), .int (nI (a_k v)), .ref (L 0)]) hx hb hml hown hts hK hA hG hS (k_L_low l D cy N L _ w (a_q w) (by omega) (by omega)) (g_cwS 2 hts gL_act_L_low rfl rfl rfl (by decide +kernel) ⟨Nat.le_of_ble_eq_true rfl, Nat.le_of_ble_eq_true rfl⟩) rfl rfl hl.1 (Nat.le_of_ble_eq_true rfl) dL_act_156 ⟨Nat.zero_le _, Nat.zero_le _⟩ (fun H locs hG hS => ?_)
        refine lv_iadd hx hb dL_act_159 ?_
        refine lv_toN (k := 1 + (lowN w (a_q w))) (nI_add 1 (lowN w (a_q w))) ?_
        refine g_cVi (As := [.int (nI (a_k v)), .int (nI (a_j v)), .int (nI (1 + (lowN w (a_q w))))]) (rest := []) hx hb hml hown hts hK hA hG hS (k_X4_unload_ok l D cy N L _ (by omega) C (a_k v) (a_j v) (nI (1 + (lowN w (a_q w)))) (hy) (hq) (hm) (by omega) (by omega) (n_1 (by omega) (by omega)) (n_500 (by omega))) (cwV 3 hts gL_act_X4_unload rfl rfl rfl (by decide +kernel) ⟨Nat.le_of_ble_eq_true rfl, Nat.le_of_ble_eq_true rfl⟩) (by omega) cW_o (ci := 4) rfl rfl rfl rfl hl.1 (Nat.le_of_ble_eq_true rfl) dL_act_160 ⟨Nat.zero_le _, Nat.zero_le _⟩ (fun H locs hG hS => ?_)
        exact g_iret hx hb hr hlocks hK hG hS rfl dL_act_163 ⟨(congrArg (fun z9 => some (Value.int z9)) (by first | (simp only [a_R, a_res, a_ship, a_unl, a_flow, a_pads, a_shk, a_set, a_pass, c_36_0, c_36_1, c_36_2, c_36_3, eq_true c_36_4, if_true, if_false]; done) | (simp only [a_R, a_res, a_ship, a_unl, a_flow, a_pads, a_shk, a_set, a_pass, c_36_0, c_36_1, c_36_2, c_36_3, eq_true c_36_4, if_true, if_false]; rfl) | rfl)), (by first | (simp only [a_C, a_res, a_ship, a_unl, a_flow, a_pads, a_shk, a_set, a_pass, c_36_0, c_36_1, c_36_2, c_36_3, eq_true c_36_4, if_true, if_false]; done) | (simp only [a_C, a_res, a_ship, a_unl, a_flow, a_pads, a_shk, a_set, a_pass, c_36_0, c_36_1, c_36_2, c_36_3, eq_true c_36_4, if_true, if_false]; rfl) | rfl)⟩
    by_cases c_36_5 : v &&& 15 = 5
    · skip
      refine lv_tableIn (off := 128) (tgt := 164) hx hb dL_act_36 (by rw [c_36_5]; decide) (by rw [c_36_5]; decide) (by rw [c_36_5]; decide) (by decide) ?_
      refine lv_aload_n hx hb dL_act_164 rfl (lv_at hl 2 rfl) ?_
      refine lv_iload_n hx hb dL_act_165 rfl (lv_at hl 1 rfl) ?_
      refine lv_iload hx hb dL_act_166 (lv_at hl 0 rfl) ?_
      refine lv_iconst (v := 1) hx hb dL_act_168 (by decide) ?_
      refine lv_iload_n hx hb dL_act_169 rfl (lv_at hl 4 rfl) ?_
      refine lv_bipush (v := 24) hx hb dL_act_170 (by decide) ?_
      refine g_cSi (As := [.int w, .int 24]) (rest := [.int 1, .int (nI (a_j v)), .int (nI (a_k v)), .ref (L 0)]) hx hb hml hown hts hK hA hG hS (k_L_low l D cy N L _ w 24 (by omega) (by omega)) (g_cwS 2 hts gL_act_L_low rfl rfl rfl (by decide +kernel) ⟨Nat.le_of_ble_eq_true rfl, Nat.le_of_ble_eq_true rfl⟩) rfl rfl hl.1 (Nat.le_of_ble_eq_true rfl) dL_act_172 ⟨Nat.zero_le _, Nat.zero_le _⟩ (fun H locs hG hS => ?_)
      refine lv_iadd hx hb dL_act_175 ?_
      refine lv_toN (k := 1 + (lowN w 24)) (nI_add 1 (lowN w 24)) ?_
      refine g_cVi (As := [.int (nI (a_k v)), .int (nI (a_j v)), .int (nI (1 + (lowN w 24)))]) (rest := []) hx hb hml hown hts hK hA hG hS (k_X4_flow_ok l D cy N L _ (by omega) C (a_k v) (a_j v) (1 + (lowN w 24)) (hy) (hq) (hm) (by omega) (by omega) (by omega) (by omega)) (cwV 3 hts gL_act_X4_flow rfl rfl rfl (by decide +kernel) ⟨Nat.le_of_ble_eq_true rfl, Nat.le_of_ble_eq_true rfl⟩) (by omega) cW_o (ci := 4) rfl rfl rfl rfl hl.1 (Nat.le_of_ble_eq_true rfl) dL_act_176 ⟨Nat.zero_le _, Nat.zero_le _⟩ (fun H locs hG hS => ?_)
      exact g_iret hx hb hr hlocks hK hG hS rfl dL_act_179 ⟨(congrArg (fun z9 => some (Value.int z9)) (by first | (simp only [a_R, a_res, a_ship, a_unl, a_flow, a_pads, a_shk, a_set, a_pass, c_36_0, c_36_1, c_36_2, c_36_3, c_36_4, eq_true c_36_5, if_true, if_false]; done) | (simp only [a_R, a_res, a_ship, a_unl, a_flow, a_pads, a_shk, a_set, a_pass, c_36_0, c_36_1, c_36_2, c_36_3, c_36_4, eq_true c_36_5, if_true, if_false]; rfl) | rfl)), (by first | (simp only [a_C, a_res, a_ship, a_unl, a_flow, a_pads, a_shk, a_set, a_pass, c_36_0, c_36_1, c_36_2, c_36_3, c_36_4, eq_true c_36_5, if_true, if_false]; done) | (simp only [a_C, a_res, a_ship, a_unl, a_flow, a_pads, a_shk, a_set, a_pass, c_36_0, c_36_1, c_36_2, c_36_3, c_36_4, eq_true c_36_5, if_true, if_false]; rfl) | rfl)⟩
    by_cases c_36_6 : v &&& 15 = 6
    · skip
      refine lv_tableIn (off := 128) (tgt := 164) hx hb dL_act_36 (by rw [c_36_6]; decide) (by rw [c_36_6]; decide) (by rw [c_36_6]; decide) (by decide) ?_
      refine lv_aload_n hx hb dL_act_164 rfl (lv_at hl 2 rfl) ?_
      refine lv_iload_n hx hb dL_act_165 rfl (lv_at hl 1 rfl) ?_
      refine lv_iload hx hb dL_act_166 (lv_at hl 0 rfl) ?_
      refine lv_iconst (v := 1) hx hb dL_act_168 (by decide) ?_
      refine lv_iload_n hx hb dL_act_169 rfl (lv_at hl 4 rfl) ?_
      refine lv_bipush (v := 24) hx hb dL_act_170 (by decide) ?_
      refine g_cSi (As := [.int w, .int 24]) (rest := [.int 1, .int (nI (a_j v)), .int (nI (a_k v)), .ref (L 0)]) hx hb hml hown hts hK hA hG hS (k_L_low l D cy N L _ w 24 (by omega) (by omega)) (g_cwS 2 hts gL_act_L_low rfl rfl rfl (by decide +kernel) ⟨Nat.le_of_ble_eq_true rfl, Nat.le_of_ble_eq_true rfl⟩) rfl rfl hl.1 (Nat.le_of_ble_eq_true rfl) dL_act_172 ⟨Nat.zero_le _, Nat.zero_le _⟩ (fun H locs hG hS => ?_)
      refine lv_iadd hx hb dL_act_175 ?_
      refine lv_toN (k := 1 + (lowN w 24)) (nI_add 1 (lowN w 24)) ?_
      refine g_cVi (As := [.int (nI (a_k v)), .int (nI (a_j v)), .int (nI (1 + (lowN w 24)))]) (rest := []) hx hb hml hown hts hK hA hG hS (k_X4_flow_ok l D cy N L _ (by omega) C (a_k v) (a_j v) (1 + (lowN w 24)) (hy) (hq) (hm) (by omega) (by omega) (by omega) (by omega)) (cwV 3 hts gL_act_X4_flow rfl rfl rfl (by decide +kernel) ⟨Nat.le_of_ble_eq_true rfl, Nat.le_of_ble_eq_true rfl⟩) (by omega) cW_o (ci := 4) rfl rfl rfl rfl hl.1 (Nat.le_of_ble_eq_true rfl) dL_act_176 ⟨Nat.zero_le _, Nat.zero_le _⟩ (fun H locs hG hS => ?_)
      exact g_iret hx hb hr hlocks hK hG hS rfl dL_act_179 ⟨(congrArg (fun z9 => some (Value.int z9)) (by first | (simp only [a_R, a_res, a_ship, a_unl, a_flow, a_pads, a_shk, a_set, a_pass, c_36_0, c_36_1, c_36_2, c_36_3, c_36_4, c_36_5, eq_true c_36_6, if_true, if_false]; done) | (simp only [a_R, a_res, a_ship, a_unl, a_flow, a_pads, a_shk, a_set, a_pass, c_36_0, c_36_1, c_36_2, c_36_3, c_36_4, c_36_5, eq_true c_36_6, if_true, if_false]; rfl) | rfl)), (by first | (simp only [a_C, a_res, a_ship, a_unl, a_flow, a_pads, a_shk, a_set, a_pass, c_36_0, c_36_1, c_36_2, c_36_3, c_36_4, c_36_5, eq_true c_36_6, if_true, if_false]; done) | (simp only [a_C, a_res, a_ship, a_unl, a_flow, a_pads, a_shk, a_set, a_pass, c_36_0, c_36_1, c_36_2, c_36_3, c_36_4, c_36_5, eq_true c_36_6, if_true, if_false]; rfl) | rfl)⟩
    by_cases c_36_7 : v &&& 15 = 7
    · skip
      refine lv_tableIn (off := 128) (tgt := 164) hx hb dL_act_36 (by rw [c_36_7]; decide) (by rw [c_36_7]; decide) (by rw [c_36_7]; decide) (by decide) ?_
      refine lv_aload_n hx hb dL_act_164 rfl (lv_at hl 2 rfl) ?_
      refine lv_iload_n hx hb dL_act_165 rfl (lv_at hl 1 rfl) ?_
      refine lv_iload hx hb dL_act_166 (lv_at hl 0 rfl) ?_
      refine lv_iconst (v := 1) hx hb dL_act_168 (by decide) ?_
      refine lv_iload_n hx hb dL_act_169 rfl (lv_at hl 4 rfl) ?_
      refine lv_bipush (v := 24) hx hb dL_act_170 (by decide) ?_
      refine g_cSi (As := [.int w, .int 24]) (rest := [.int 1, .int (nI (a_j v)), .int (nI (a_k v)), .ref (L 0)]) hx hb hml hown hts hK hA hG hS (k_L_low l D cy N L _ w 24 (by omega) (by omega)) (g_cwS 2 hts gL_act_L_low rfl rfl rfl (by decide +kernel) ⟨Nat.le_of_ble_eq_true rfl, Nat.le_of_ble_eq_true rfl⟩) rfl rfl hl.1 (Nat.le_of_ble_eq_true rfl) dL_act_172 ⟨Nat.zero_le _, Nat.zero_le _⟩ (fun H locs hG hS => ?_)
      refine lv_iadd hx hb dL_act_175 ?_
      refine lv_toN (k := 1 + (lowN w 24)) (nI_add 1 (lowN w 24)) ?_
      refine g_cVi (As := [.int (nI (a_k v)), .int (nI (a_j v)), .int (nI (1 + (lowN w 24)))]) (rest := []) hx hb hml hown hts hK hA hG hS (k_X4_flow_ok l D cy N L _ (by omega) C (a_k v) (a_j v) (1 + (lowN w 24)) (hy) (hq) (hm) (by omega) (by omega) (by omega) (by omega)) (cwV 3 hts gL_act_X4_flow rfl rfl rfl (by decide +kernel) ⟨Nat.le_of_ble_eq_true rfl, Nat.le_of_ble_eq_true rfl⟩) (by omega) cW_o (ci := 4) rfl rfl rfl rfl hl.1 (Nat.le_of_ble_eq_true rfl) dL_act_176 ⟨Nat.zero_le _, Nat.zero_le _⟩ (fun H locs hG hS => ?_)
      exact g_iret hx hb hr hlocks hK hG hS rfl dL_act_179 ⟨(congrArg (fun z9 => some (Value.int z9)) (by first | (simp only [a_R, a_res, a_ship, a_unl, a_flow, a_pads, a_shk, a_set, a_pass, c_36_0, c_36_1, c_36_2, c_36_3, c_36_4, c_36_5, c_36_6, eq_true c_36_7, if_true, if_false]; done) | (simp only [a_R, a_res, a_ship, a_unl, a_flow, a_pads, a_shk, a_set, a_pass, c_36_0, c_36_1, c_36_2, c_36_3, c_36_4, c_36_5, c_36_6, eq_true c_36_7, if_true, if_false]; rfl) | rfl)), (by first | (simp only [a_C, a_res, a_ship, a_unl, a_flow, a_pads, a_shk, a_set, a_pass, c_36_0, c_36_1, c_36_2, c_36_3, c_36_4, c_36_5, c_36_6, eq_true c_36_7, if_true, if_false]; done) | (simp only [a_C, a_res, a_ship, a_unl, a_flow, a_pads, a_shk, a_set, a_pass, c_36_0, c_36_1, c_36_2, c_36_3, c_36_4, c_36_5, c_36_6, eq_true c_36_7, if_true, if_false]; rfl) | rfl)⟩
    by_cases c_36_8 : v &&& 15 = 8
    · skip
      refine lv_tableIn (off := 144) (tgt := 180) hx hb dL_act_36 (by rw [c_36_8]; decide) (by rw [c_36_8]; decide) (by rw [c_36_8]; decide) (by decide) ?_
      refine lv_iload_n hx hb dL_act_180 rfl (lv_at hl 4 rfl) ?_
      refine lv_iconst (v := 5) hx hb dL_act_181 (by decide) ?_
      refine g_cSi (As := [.int w, .int 5]) (rest := []) hx hb hml hown hts hK hA hG hS (k_L_low l D cy N L _ w 5 (by omega) (by omega)) (g_cwS 2 hts gL_act_L_low rfl rfl rfl (by decide +kernel) ⟨Nat.le_of_ble_eq_true rfl, Nat.le_of_ble_eq_true rfl⟩) rfl rfl hl.1 (Nat.le_of_ble_eq_true rfl) dL_act_182 ⟨Nat.zero_le _, Nat.zero_le _⟩ (fun H locs hG hS => ?_)
      refine lv_istore (lv' := [(6, .int (nI (lowN w 5))), (4, .int (nI (a_j v))), (3, .int (nI (a_k v))), (0, .ref (L 0)), (1, .int v), (2, .int w)]) hx hb dL_act_185 hl (by decide) rfl (fun ls hl => ?_)
      refine lv_aload_n hx hb dL_act_187 rfl (lv_at hl 3 rfl) ?_
      refine lv_bipush (v := 6) hx hb dL_act_188 (by decide) ?_
      refine g_cVi (As := [.int 6]) (rest := []) hx hb hml hown hts hK hA hG hS (k_X4_count_ok l D cy N L _ (by omega) C 6 (hy) (by decide)) (cwV 1 hts gL_act_X4_count rfl rfl rfl (by decide +kernel) ⟨Nat.le_of_ble_eq_true rfl, Nat.le_of_ble_eq_true rfl⟩) (by omega) cW_o (ci := 4) rfl rfl rfl rfl hl.1 (Nat.le_of_ble_eq_true rfl) dL_act_190 ⟨Nat.zero_le _, Nat.zero_le _⟩ (fun H locs hG hS => ?_)
      refine lv_toI (y := y_pads (cY C) 4) (cnt_6) ?_
      refine lv_aload_n hx hb dL_act_193 rfl (lv_at hl 3 rfl) ?_
      refine lv_iload_n hx hb dL_act_194 rfl (lv_at hl 2 rfl) ?_
      refine lv_iconst (v := 2) hx hb dL_act_195 (by decide) ?_
      refine g_cVi (As := [.int (nI (a_k v)), .int 2]) (rest := [.int (y_pads (cY C) 4)]) hx hb hml hown hts hK hA hG hS (k_X4_silo_ok l D cy N L _ (by omega) C (a_k v) 2 (hy) (by omega) (by decide)) (cwV 2 hts gL_act_X4_silo rfl rfl rfl (by decide +kernel) ⟨Nat.le_of_ble_eq_true rfl, Nat.le_of_ble_eq_true rfl⟩) (by omega) cW_o (ci := 4) rfl rfl rfl rfl hl.1 (Nat.le_of_ble_eq_true rfl) dL_act_196 ⟨Nat.zero_le _, Nat.zero_le _⟩ (fun H locs hG hS => ?_)
      refine lv_toI (y := sP (yS (cY C) (a_k v))) (tell_2) ?_
      refine lv_isub hx hb dL_act_199 ?_
      refine lv_iload hx hb dL_act_200 (lv_at hl 0 rfl) ?_
      refine lv_iadd hx hb dL_act_202 ?_
      refine lv_aload_n hx hb dL_act_203 rfl (lv_at hl 3 rfl) ?_
      refine lv_bipush (v := 10) hx hb dL_act_204 (by decide) ?_
      refine g_cVi (As := [.int 10]) (rest := [.int (((y_pads (cY C) 4) - (sP (yS (cY C) (a_k v)))) + (nI (lowN w 5)))]) hx hb hml hown hts hK hA hG hS (k_X4_count_ok l D cy N L _ (by omega) C 10 (hy) (by decide)) (cwV 1 hts gL_act_X4_count rfl rfl rfl (by decide +kernel) ⟨Nat.le_of_ble_eq_true rfl, Nat.le_of_ble_eq_true rfl⟩) (by omega) cW_o (ci := 4) rfl rfl rfl rfl hl.1 (Nat.le_of_ble_eq_true rfl) dL_act_206 ⟨Nat.zero_le _, Nat.zero_le _⟩ (fun H locs hG hS => ?_)
      refine lv_toI (y := yZ (cY C) 0) (cnt_10) ?_
      refine lv_icmp_le (tgt := 217) hx hb dL_act_209 (by decide) (fun c_209 => ?_) (fun c_209 => ?_)
      · skip
        refine lv_aload_n hx hb dL_act_217 rfl (lv_at hl 3 rfl) ?_
        refine lv_iload_n hx hb dL_act_218 rfl (lv_at hl 2 rfl) ?_
        refine lv_iload hx hb dL_act_219 (lv_at hl 0 rfl) ?_
        refine g_cVi (As := [.int (nI (a_k v)), .int (nI (lowN w 5))]) (rest := []) hx hb hml hown hts hK hA hG hS (k_X4_pads_ok l D cy N L _ (by omega) C (a_k v) (lowN w 5) (hy) (hq) (hm) (by omega) (by omega) (c_209)) (cwV 2 hts gL_act_X4_pads rfl rfl rfl (by decide +kernel) ⟨Nat.le_of_ble_eq_true rfl, Nat.le_of_ble_eq_true rfl⟩) (by omega) cW_o (ci := 4) rfl rfl rfl rfl hl.1 (Nat.le_of_ble_eq_true rfl) dL_act_221 ⟨Nat.zero_le _, Nat.zero_le _⟩ (fun H locs hG hS => ?_)
        exact g_iret hx hb hr hlocks hK hG hS rfl dL_act_224 ⟨(congrArg (fun z9 => some (Value.int z9)) (by first | (simp only [a_R, a_res, a_ship, a_unl, a_flow, a_pads, a_shk, a_set, a_pass, c_36_0, c_36_1, c_36_2, c_36_3, c_36_4, c_36_5, c_36_6, c_36_7, eq_true c_36_8, c_209, if_true, if_false]; done) | (simp only [a_R, a_res, a_ship, a_unl, a_flow, a_pads, a_shk, a_set, a_pass, c_36_0, c_36_1, c_36_2, c_36_3, c_36_4, c_36_5, c_36_6, c_36_7, eq_true c_36_8, c_209, if_true, if_false]; rfl) | rfl)), (by first | (simp only [a_C, a_res, a_ship, a_unl, a_flow, a_pads, a_shk, a_set, a_pass, c_36_0, c_36_1, c_36_2, c_36_3, c_36_4, c_36_5, c_36_6, c_36_7, eq_true c_36_8, c_209, if_true, if_false]; done) | (simp only [a_C, a_res, a_ship, a_unl, a_flow, a_pads, a_shk, a_set, a_pass, c_36_0, c_36_1, c_36_2, c_36_3, c_36_4, c_36_5, c_36_6, c_36_7, eq_true c_36_8, c_209, if_true, if_false]; rfl) | rfl)⟩
      · skip
        refine lv_bipush (v := -9) hx hb dL_act_212 (by decide) ?_
        refine lv_goto (tgt := 224) hx hb dL_act_214 (by decide) ?_
        exact g_iret hx hb hr hlocks hK hG hS rfl dL_act_224 ⟨(congrArg (fun z9 => some (Value.int z9)) (by first | (simp only [a_R, a_res, a_ship, a_unl, a_flow, a_pads, a_shk, a_set, a_pass, c_36_0, c_36_1, c_36_2, c_36_3, c_36_4, c_36_5, c_36_6, c_36_7, eq_true c_36_8, c_209, if_true, if_false]; done) | (simp only [a_R, a_res, a_ship, a_unl, a_flow, a_pads, a_shk, a_set, a_pass, c_36_0, c_36_1, c_36_2, c_36_3, c_36_4, c_36_5, c_36_6, c_36_7, eq_true c_36_8, c_209, if_true, if_false]; rfl) | rfl)), (by first | (simp only [a_C, a_res, a_ship, a_unl, a_flow, a_pads, a_shk, a_set, a_pass, c_36_0, c_36_1, c_36_2, c_36_3, c_36_4, c_36_5, c_36_6, c_36_7, eq_true c_36_8, c_209, if_true, if_false]; done) | (simp only [a_C, a_res, a_ship, a_unl, a_flow, a_pads, a_shk, a_set, a_pass, c_36_0, c_36_1, c_36_2, c_36_3, c_36_4, c_36_5, c_36_6, c_36_7, eq_true c_36_8, c_209, if_true, if_false]; rfl) | rfl)⟩
    by_cases c_36_9 : v &&& 15 = 9
    · skip
      refine lv_tableIn (off := 144) (tgt := 180) hx hb dL_act_36 (by rw [c_36_9]; decide) (by rw [c_36_9]; decide) (by rw [c_36_9]; decide) (by decide) ?_
      refine lv_iload_n hx hb dL_act_180 rfl (lv_at hl 4 rfl) ?_
      refine lv_iconst (v := 5) hx hb dL_act_181 (by decide) ?_
      refine g_cSi (As := [.int w, .int 5]) (rest := []) hx hb hml hown hts hK hA hG hS (k_L_low l D cy N L _ w 5 (by omega) (by omega)) (g_cwS 2 hts gL_act_L_low rfl rfl rfl (by decide +kernel) ⟨Nat.le_of_ble_eq_true rfl, Nat.le_of_ble_eq_true rfl⟩) rfl rfl hl.1 (Nat.le_of_ble_eq_true rfl) dL_act_182 ⟨Nat.zero_le _, Nat.zero_le _⟩ (fun H locs hG hS => ?_)
      refine lv_istore (lv' := [(6, .int (nI (lowN w 5))), (4, .int (nI (a_j v))), (3, .int (nI (a_k v))), (0, .ref (L 0)), (1, .int v), (2, .int w)]) hx hb dL_act_185 hl (by decide) rfl (fun ls hl => ?_)
      refine lv_aload_n hx hb dL_act_187 rfl (lv_at hl 3 rfl) ?_
      refine lv_bipush (v := 6) hx hb dL_act_188 (by decide) ?_
      refine g_cVi (As := [.int 6]) (rest := []) hx hb hml hown hts hK hA hG hS (k_X4_count_ok l D cy N L _ (by omega) C 6 (hy) (by decide)) (cwV 1 hts gL_act_X4_count rfl rfl rfl (by decide +kernel) ⟨Nat.le_of_ble_eq_true rfl, Nat.le_of_ble_eq_true rfl⟩) (by omega) cW_o (ci := 4) rfl rfl rfl rfl hl.1 (Nat.le_of_ble_eq_true rfl) dL_act_190 ⟨Nat.zero_le _, Nat.zero_le _⟩ (fun H locs hG hS => ?_)
      refine lv_toI (y := y_pads (cY C) 4) (cnt_6) ?_
      refine lv_aload_n hx hb dL_act_193 rfl (lv_at hl 3 rfl) ?_
      refine lv_iload_n hx hb dL_act_194 rfl (lv_at hl 2 rfl) ?_
      refine lv_iconst (v := 2) hx hb dL_act_195 (by decide) ?_
      refine g_cVi (As := [.int (nI (a_k v)), .int 2]) (rest := [.int (y_pads (cY C) 4)]) hx hb hml hown hts hK hA hG hS (k_X4_silo_ok l D cy N L _ (by omega) C (a_k v) 2 (hy) (by omega) (by decide)) (cwV 2 hts gL_act_X4_silo rfl rfl rfl (by decide +kernel) ⟨Nat.le_of_ble_eq_true rfl, Nat.le_of_ble_eq_true rfl⟩) (by omega) cW_o (ci := 4) rfl rfl rfl rfl hl.1 (Nat.le_of_ble_eq_true rfl) dL_act_196 ⟨Nat.zero_le _, Nat.zero_le _⟩ (fun H locs hG hS => ?_)
      refine lv_toI (y := sP (yS (cY C) (a_k v))) (tell_2) ?_
      refine lv_isub hx hb dL_act_199 ?_
      refine lv_iload hx hb dL_act_200 (lv_at hl 0 rfl) ?_
      refine lv_iadd hx hb dL_act_202 ?_
      refine lv_aload_n hx hb dL_act_203 rfl (lv_at hl 3 rfl) ?_
      refine lv_bipush (v := 10) hx hb dL_act_204 (by decide) ?_
      refine g_cVi (As := [.int 10]) (rest := [.int (((y_pads (cY C) 4) - (sP (yS (cY C) (a_k v)))) + (nI (lowN w 5)))]) hx hb hml hown hts hK hA hG hS (k_X4_count_ok l D cy N L _ (by omega) C 10 (hy) (by decide)) (cwV 1 hts gL_act_X4_count rfl rfl rfl (by decide +kernel) ⟨Nat.le_of_ble_eq_true rfl, Nat.le_of_ble_eq_true rfl⟩) (by omega) cW_o (ci := 4) rfl rfl rfl rfl hl.1 (Nat.le_of_ble_eq_true rfl) dL_act_206 ⟨Nat.zero_le _, Nat.zero_le _⟩ (fun H locs hG hS => ?_)
      refine lv_toI (y := yZ (cY C) 0) (cnt_10) ?_
      refine lv_icmp_le (tgt := 217) hx hb dL_act_209 (by decide) (fun c_209 => ?_) (fun c_209 => ?_)
      · skip
        refine lv_aload_n hx hb dL_act_217 rfl (lv_at hl 3 rfl) ?_
        refine lv_iload_n hx hb dL_act_218 rfl (lv_at hl 2 rfl) ?_
        refine lv_iload hx hb dL_act_219 (lv_at hl 0 rfl) ?_
        refine g_cVi (As := [.int (nI (a_k v)), .int (nI (lowN w 5))]) (rest := []) hx hb hml hown hts hK hA hG hS (k_X4_pads_ok l D cy N L _ (by omega) C (a_k v) (lowN w 5) (hy) (hq) (hm) (by omega) (by omega) (c_209)) (cwV 2 hts gL_act_X4_pads rfl rfl rfl (by decide +kernel) ⟨Nat.le_of_ble_eq_true rfl, Nat.le_of_ble_eq_true rfl⟩) (by omega) cW_o (ci := 4) rfl rfl rfl rfl hl.1 (Nat.le_of_ble_eq_true rfl) dL_act_221 ⟨Nat.zero_le _, Nat.zero_le _⟩ (fun H locs hG hS => ?_)
        exact g_iret hx hb hr hlocks hK hG hS rfl dL_act_224 ⟨(congrArg (fun z9 => some (Value.int z9)) (by first | (simp only [a_R, a_res, a_ship, a_unl, a_flow, a_pads, a_shk, a_set, a_pass, c_36_0, c_36_1, c_36_2, c_36_3, c_36_4, c_36_5, c_36_6, c_36_7, c_36_8, eq_true c_36_9, c_209, if_true, if_false]; done) | (simp only [a_R, a_res, a_ship, a_unl, a_flow, a_pads, a_shk, a_set, a_pass, c_36_0, c_36_1, c_36_2, c_36_3, c_36_4, c_36_5, c_36_6, c_36_7, c_36_8, eq_true c_36_9, c_209, if_true, if_false]; rfl) | rfl)), (by first | (simp only [a_C, a_res, a_ship, a_unl, a_flow, a_pads, a_shk, a_set, a_pass, c_36_0, c_36_1, c_36_2, c_36_3, c_36_4, c_36_5, c_36_6, c_36_7, c_36_8, eq_true c_36_9, c_209, if_true, if_false]; done) | (simp only [a_C, a_res, a_ship, a_unl, a_flow, a_pads, a_shk, a_set, a_pass, c_36_0, c_36_1, c_36_2, c_36_3, c_36_4, c_36_5, c_36_6, c_36_7, c_36_8, eq_true c_36_9, c_209, if_true, if_false]; rfl) | rfl)⟩
      · skip
        refine lv_bipush (v := -9) hx hb dL_act_212 (by decide) ?_
        refine lv_goto (tgt := 224) hx hb dL_act_214 (by decide) ?_
        exact g_iret hx hb hr hlocks hK hG hS rfl dL_act_224 ⟨(congrArg (fun z9 => some (Value.int z9)) (by first | (simp only [a_R, a_res, a_ship, a_unl, a_flow, a_pads, a_shk, a_set, a_pass, c_36_0, c_36_1, c_36_2, c_36_3, c_36_4, c_36_5, c_36_6, c_36_7, c_36_8, eq_true c_36_9, c_209, if_true, if_false]; done) | (simp only [a_R, a_res, a_ship, a_unl, a_flow, a_pads, a_shk, a_set, a_pass, c_36_0, c_36_1, c_36_2, c_36_3, c_36_4, c_36_5, c_36_6, c_36_7, c_36_8, eq_true c_36_9, c_209, if_true, if_false]; rfl) | rfl)), (by first | (simp only [a_C, a_res, a_ship, a_unl, a_flow, a_pads, a_shk, a_set, a_pass, c_36_0, c_36_1, c_36_2, c_36_3, c_36_4, c_36_5, c_36_6, c_36_7, c_36_8, eq_true c_36_9, c_209, if_true, if_false]; done) | (simp only [a_C, a_res, a_ship, a_unl, a_flow, a_pads, a_shk, a_set, a_pass, c_36_0, c_36_1, c_36_2, c_36_3, c_36_4, c_36_5, c_36_6, c_36_7, c_36_8, eq_true c_36_9, c_209, if_true, if_false]; rfl) | rfl)⟩
    by_cases c_36_10 : v &&& 15 = 10
    · skip
      refine lv_tableIn (off := 189) (tgt := 225) hx hb dL_act_36 (by rw [c_36_10]; decide) (by rw [c_36_10]; decide) (by rw [c_36_10]; decide) (by decide) ?_
      refine lv_aload_n hx hb dL_act_225 rfl (lv_at hl 2 rfl) ?_
      refine lv_iload_n hx hb dL_act_226 rfl (lv_at hl 1 rfl) ?_
      refine lv_iconst (v := 1) hx hb dL_act_227 (by decide) ?_
      refine g_cVi (As := [.int (nI (a_k v)), .int 1]) (rest := []) hx hb hml hown hts hK hA hG hS (k_X4_silo_ok l D cy N L _ (by omega) C (a_k v) 1 (hy) (by omega) (by decide)) (cwV 2 hts gL_act_X4_silo rfl rfl rfl (by decide +kernel) ⟨Nat.le_of_ble_eq_true rfl, Nat.le_of_ble_eq_true rfl⟩) (by omega) cW_o (ci := 4) rfl rfl rfl rfl hl.1 (Nat.le_of_ble_eq_true rfl) dL_act_228 ⟨Nat.zero_le _, Nat.zero_le _⟩ (fun H locs hG hS => ?_)
      refine lv_toN (k := sN (yS (cY C) (a_k v))) (tell_1) ?_
      refine lv_if_ne (tgt := 239) hx hb dL_act_231 (by decide) (fun c_231 => ?_) (fun c_231 => ?_)
      · skip
        have c_231 : ¬ (sN (yS (cY C) (a_k v))) = 0 := fun h9 => c_231 ((nI_eq (a := sN (yS (cY C) (a_k v))) (b := 0) (by omega) (by omega)).mpr h9)
        refine lv_aload_n hx hb dL_act_239 rfl (lv_at hl 2 rfl) ?_
        refine lv_iload_n hx hb dL_act_240 rfl (lv_at hl 1 rfl) ?_
        refine g_cVi (As := [.int (nI (a_k v))]) (rest := []) hx hb hml hown hts hK hA hG hS (k_X4_shake_ok l D cy N L _ (by omega) C (a_k v) (hy) (hq) (hm) (by omega) (by omega)) (cwV 1 hts gL_act_X4_shake rfl rfl rfl (by decide +kernel) ⟨Nat.le_of_ble_eq_true rfl, Nat.le_of_ble_eq_true rfl⟩) (by omega) cW_o (ci := 4) rfl rfl rfl rfl hl.1 (Nat.le_of_ble_eq_true rfl) dL_act_241 ⟨Nat.zero_le _, Nat.zero_le _⟩ (fun H locs hG hS => ?_)
        exact g_iret hx hb hr hlocks hK hG hS rfl dL_act_244 ⟨(congrArg (fun z9 => some (Value.int z9)) (by first | (simp only [a_R, a_res, a_ship, a_unl, a_flow, a_pads, a_shk, a_set, a_pass, c_36_0, c_36_1, c_36_2, c_36_3, c_36_4, c_36_5, c_36_6, c_36_7, c_36_8, c_36_9, eq_true c_36_10, c_231, if_true, if_false]; done) | (simp only [a_R, a_res, a_ship, a_unl, a_flow, a_pads, a_shk, a_set, a_pass, c_36_0, c_36_1, c_36_2, c_36_3, c_36_4, c_36_5, c_36_6, c_36_7, c_36_8, c_36_9, eq_true c_36_10, c_231, if_true, if_false]; rfl) | rfl)), (by first | (simp only [a_C, a_res, a_ship, a_unl, a_flow, a_pads, a_shk, a_set, a_pass, c_36_0, c_36_1, c_36_2, c_36_3, c_36_4, c_36_5, c_36_6, c_36_7, c_36_8, c_36_9, eq_true c_36_10, c_231, if_true, if_false]; done) | (simp only [a_C, a_res, a_ship, a_unl, a_flow, a_pads, a_shk, a_set, a_pass, c_36_0, c_36_1, c_36_2, c_36_3, c_36_4, c_36_5, c_36_6, c_36_7, c_36_8, c_36_9, eq_true c_36_10, c_231, if_true, if_false]; rfl) | rfl)⟩
      · skip
        have c_231 : (sN (yS (cY C) (a_k v))) = 0 := (nI_eq (a := sN (yS (cY C) (a_k v))) (b := 0) (by omega) (by omega)).mp c_231
        refine lv_bipush (v := -9) hx hb dL_act_234 (by decide) ?_
        refine lv_goto (tgt := 244) hx hb dL_act_236 (by decide) ?_
        exact g_iret hx hb hr hlocks hK hG hS rfl dL_act_244 ⟨(congrArg (fun z9 => some (Value.int z9)) (by first | (simp only [a_R, a_res, a_ship, a_unl, a_flow, a_pads, a_shk, a_set, a_pass, c_36_0, c_36_1, c_36_2, c_36_3, c_36_4, c_36_5, c_36_6, c_36_7, c_36_8, c_36_9, eq_true c_36_10, eq_true c_231, if_true, if_false]; done) | (simp only [a_R, a_res, a_ship, a_unl, a_flow, a_pads, a_shk, a_set, a_pass, c_36_0, c_36_1, c_36_2, c_36_3, c_36_4, c_36_5, c_36_6, c_36_7, c_36_8, c_36_9, eq_true c_36_10, eq_true c_231, if_true, if_false]; rfl) | rfl)), (by first | (simp only [a_C, a_res, a_ship, a_unl, a_flow, a_pads, a_shk, a_set, a_pass, c_36_0, c_36_1, c_36_2, c_36_3, c_36_4, c_36_5, c_36_6, c_36_7, c_36_8, c_36_9, eq_true c_36_10, eq_true c_231, if_true, if_false]; done) | (simp only [a_C, a_res, a_ship, a_unl, a_flow, a_pads, a_shk, a_set, a_pass, c_36_0, c_36_1, c_36_2, c_36_3, c_36_4, c_36_5, c_36_6, c_36_7, c_36_8, c_36_9, eq_true c_36_10, eq_true c_231, if_true, if_false]; rfl) | rfl)⟩
    by_cases c_36_11 : v &&& 15 = 11
    · skip
      refine lv_tableIn (off := 189) (tgt := 225) hx hb dL_act_36 (by rw [c_36_11]; decide) (by rw [c_36_11]; decide) (by rw [c_36_11]; decide) (by decide) ?_
      refine lv_aload_n hx hb dL_act_225 rfl (lv_at hl 2 rfl) ?_
      refine lv_iload_n hx hb dL_act_226 rfl (lv_at hl 1 rfl) ?_
      refine lv_iconst (v := 1) hx hb dL_act_227 (by decide) ?_
      refine g_cVi (As := [.int (nI (a_k v)), .int 1]) (rest := []) hx hb hml hown hts hK hA hG hS (k_X4_silo_ok l D cy N L _ (by omega) C (a_k v) 1 (hy) (by omega) (by decide)) (cwV 2 hts gL_act_X4_silo rfl rfl rfl (by decide +kernel) ⟨Nat.le_of_ble_eq_true rfl, Nat.le_of_ble_eq_true rfl⟩) (by omega) cW_o (ci := 4) rfl rfl rfl rfl hl.1 (Nat.le_of_ble_eq_true rfl) dL_act_228 ⟨Nat.zero_le _, Nat.zero_le _⟩ (fun H locs hG hS => ?_)
      refine lv_toN (k := sN (yS (cY C) (a_k v))) (tell_1) ?_
      refine lv_if_ne (tgt := 239) hx hb dL_act_231 (by decide) (fun c_231 => ?_) (fun c_231 => ?_)
      · skip
        have c_231 : ¬ (sN (yS (cY C) (a_k v))) = 0 := fun h9 => c_231 ((nI_eq (a := sN (yS (cY C) (a_k v))) (b := 0) (by omega) (by omega)).mpr h9)
        refine lv_aload_n hx hb dL_act_239 rfl (lv_at hl 2 rfl) ?_
        refine lv_iload_n hx hb dL_act_240 rfl (lv_at hl 1 rfl) ?_
        refine g_cVi (As := [.int (nI (a_k v))]) (rest := []) hx hb hml hown hts hK hA hG hS (k_X4_shake_ok l D cy N L _ (by omega) C (a_k v) (hy) (hq) (hm) (by omega) (by omega)) (cwV 1 hts gL_act_X4_shake rfl rfl rfl (by decide +kernel) ⟨Nat.le_of_ble_eq_true rfl, Nat.le_of_ble_eq_true rfl⟩) (by omega) cW_o (ci := 4) rfl rfl rfl rfl hl.1 (Nat.le_of_ble_eq_true rfl) dL_act_241 ⟨Nat.zero_le _, Nat.zero_le _⟩ (fun H locs hG hS => ?_)
        exact g_iret hx hb hr hlocks hK hG hS rfl dL_act_244 ⟨(congrArg (fun z9 => some (Value.int z9)) (by first | (simp only [a_R, a_res, a_ship, a_unl, a_flow, a_pads, a_shk, a_set, a_pass, c_36_0, c_36_1, c_36_2, c_36_3, c_36_4, c_36_5, c_36_6, c_36_7, c_36_8, c_36_9, c_36_10, eq_true c_36_11, c_231, if_true, if_false]; done) | (simp only [a_R, a_res, a_ship, a_unl, a_flow, a_pads, a_shk, a_set, a_pass, c_36_0, c_36_1, c_36_2, c_36_3, c_36_4, c_36_5, c_36_6, c_36_7, c_36_8, c_36_9, c_36_10, eq_true c_36_11, c_231, if_true, if_false]; rfl) | rfl)), (by first | (simp only [a_C, a_res, a_ship, a_unl, a_flow, a_pads, a_shk, a_set, a_pass, c_36_0, c_36_1, c_36_2, c_36_3, c_36_4, c_36_5, c_36_6, c_36_7, c_36_8, c_36_9, c_36_10, eq_true c_36_11, c_231, if_true, if_false]; done) | (simp only [a_C, a_res, a_ship, a_unl, a_flow, a_pads, a_shk, a_set, a_pass, c_36_0, c_36_1, c_36_2, c_36_3, c_36_4, c_36_5, c_36_6, c_36_7, c_36_8, c_36_9, c_36_10, eq_true c_36_11, c_231, if_true, if_false]; rfl) | rfl)⟩
      · skip
        have c_231 : (sN (yS (cY C) (a_k v))) = 0 := (nI_eq (a := sN (yS (cY C) (a_k v))) (b := 0) (by omega) (by omega)).mp c_231
        refine lv_bipush (v := -9) hx hb dL_act_234 (by decide) ?_
        refine lv_goto (tgt := 244) hx hb dL_act_236 (by decide) ?_
        exact g_iret hx hb hr hlocks hK hG hS rfl dL_act_244 ⟨(congrArg (fun z9 => some (Value.int z9)) (by first | (simp only [a_R, a_res, a_ship, a_unl, a_flow, a_pads, a_shk, a_set, a_pass, c_36_0, c_36_1, c_36_2, c_36_3, c_36_4, c_36_5, c_36_6, c_36_7, c_36_8, c_36_9, c_36_10, eq_true c_36_11, eq_true c_231, if_true, if_false]; done) | (simp only [a_R, a_res, a_ship, a_unl, a_flow, a_pads, a_shk, a_set, a_pass, c_36_0, c_36_1, c_36_2, c_36_3, c_36_4, c_36_5, c_36_6, c_36_7, c_36_8, c_36_9, c_36_10, eq_true c_36_11, eq_true c_231, if_true, if_false]; rfl) | rfl)), (by first | (simp only [a_C, a_res, a_ship, a_unl, a_flow, a_pads, a_shk, a_set, a_pass, c_36_0, c_36_1, c_36_2, c_36_3, c_36_4, c_36_5, c_36_6, c_36_7, c_36_8, c_36_9, c_36_10, eq_true c_36_11, eq_true c_231, if_true, if_false]; done) | (simp only [a_C, a_res, a_ship, a_unl, a_flow, a_pads, a_shk, a_set, a_pass, c_36_0, c_36_1, c_36_2, c_36_3, c_36_4, c_36_5, c_36_6, c_36_7, c_36_8, c_36_9, c_36_10, eq_true c_36_11, eq_true c_231, if_true, if_false]; rfl) | rfl)⟩
    by_cases c_36_12 : v &&& 15 = 12
    · skip
      refine lv_tableIn (off := 209) (tgt := 245) hx hb dL_act_36 (by rw [c_36_12]; decide) (by rw [c_36_12]; decide) (by rw [c_36_12]; decide) (by decide) ?_
      refine lv_aload_n hx hb dL_act_245 rfl (lv_at hl 2 rfl) ?_
      refine lv_iconst (v := 1) hx hb dL_act_246 (by decide) ?_
      refine lv_iload_n hx hb dL_act_247 rfl (lv_at hl 4 rfl) ?_
      refine lv_iconst (v := 3) hx hb dL_act_248 (by decide) ?_
      refine g_cSi (As := [.int w, .int 3]) (rest := [.int 1, .ref (L 0)]) hx hb hml hown hts hK hA hG hS (k_L_low l D cy N L _ w 3 (by omega) (by omega)) (g_cwS 2 hts gL_act_L_low rfl rfl rfl (by decide +kernel) ⟨Nat.le_of_ble_eq_true rfl, Nat.le_of_ble_eq_true rfl⟩) rfl rfl hl.1 (Nat.le_of_ble_eq_true rfl) dL_act_249 ⟨Nat.zero_le _, Nat.zero_le _⟩ (fun H locs hG hS => ?_)
      refine lv_iadd hx hb dL_act_252 ?_
      refine lv_toN (k := 1 + (lowN w 3)) (nI_add 1 (lowN w 3)) ?_
      refine lv_iconst (v := 5) hx hb dL_act_253 (by decide) ?_
      refine lv_iload_n hx hb dL_act_254 rfl (lv_at hl 4 rfl) ?_
      refine lv_iconst (v := 2) hx hb dL_act_255 (by decide) ?_
      refine lv_ishr hx hb dL_act_256 ?_
      refine lv_bipush (v := 16) hx hb dL_act_257 (by decide) ?_
      refine g_cSi (As := [.int (w >>> (2 &&& 31)), .int 16]) (rest := [.int 5, .int (nI (1 + (lowN w 3))), .ref (L 0)]) hx hb hml hown hts hK hA hG hS (k_L_low l D cy N L _ (w >>> (2 &&& 31)) 16 (by omega) (by omega)) (g_cwS 2 hts gL_act_L_low rfl rfl rfl (by decide +kernel) ⟨Nat.le_of_ble_eq_true rfl, Nat.le_of_ble_eq_true rfl⟩) rfl rfl hl.1 (Nat.le_of_ble_eq_true rfl) dL_act_259 ⟨Nat.zero_le _, Nat.zero_le _⟩ (fun H locs hG hS => ?_)
      refine lv_iadd hx hb dL_act_262 ?_
      refine lv_toN (k := 5 + (lowN (w >>> (2 &&& 31)) 16)) (nI_add 5 (lowN (w >>> (2 &&& 31)) 16)) ?_
      refine g_cVi (As := [.int (nI (1 + (lowN w 3))), .int (nI (5 + (lowN (w >>> (2 &&& 31)) 16)))]) (rest := []) hx hb hml hown hts hK hA hG hS (k_X4_set_ok l D cy N L _ (by omega) C (1 + (lowN w 3)) (nI (5 + (lowN (w >>> (2 &&& 31)) 16))) (hy) (hq) (hm) (by omega) (hset.1) (hset.2) (fun h9 => absurd h9 (by omega))) (cwV 2 hts gL_act_X4_set rfl rfl rfl (by decide +kernel) ⟨Nat.le_of_ble_eq_true rfl, Nat.le_of_ble_eq_true rfl⟩) (by omega) cW_o (ci := 4) rfl rfl rfl rfl hl.1 (Nat.le_of_ble_eq_true rfl) dL_act_263 ⟨Nat.zero_le _, Nat.zero_le _⟩ (fun H locs hG hS => ?_)
      exact g_iret hx hb hr hlocks hK hG hS rfl dL_act_266 ⟨(congrArg (fun z9 => some (Value.int z9)) (by first | (simp only [a_R, a_res, a_ship, a_unl, a_flow, a_pads, a_shk, a_set, a_pass, c_36_0, c_36_1, c_36_2, c_36_3, c_36_4, c_36_5, c_36_6, c_36_7, c_36_8, c_36_9, c_36_10, c_36_11, eq_true c_36_12, if_true, if_false]; done) | (simp only [a_R, a_res, a_ship, a_unl, a_flow, a_pads, a_shk, a_set, a_pass, c_36_0, c_36_1, c_36_2, c_36_3, c_36_4, c_36_5, c_36_6, c_36_7, c_36_8, c_36_9, c_36_10, c_36_11, eq_true c_36_12, if_true, if_false]; rfl) | rfl)), (by first | (simp only [a_C, a_res, a_ship, a_unl, a_flow, a_pads, a_shk, a_set, a_pass, c_36_0, c_36_1, c_36_2, c_36_3, c_36_4, c_36_5, c_36_6, c_36_7, c_36_8, c_36_9, c_36_10, c_36_11, eq_true c_36_12, if_true, if_false]; done) | (simp only [a_C, a_res, a_ship, a_unl, a_flow, a_pads, a_shk, a_set, a_pass, c_36_0, c_36_1, c_36_2, c_36_3, c_36_4, c_36_5, c_36_6, c_36_7, c_36_8, c_36_9, c_36_10, c_36_11, eq_true c_36_12, if_true, if_false]; rfl) | rfl)⟩
    refine lv_tableOut (tgt := 267) hx hb dL_act_36 (by have q0 := sw_ne (n := 0) (by decide) c_36_0; have q1 := sw_ne (n := 1) (by decide) c_36_1; have q2 := sw_ne (n := 2) (by decide) c_36_2; have q3 := sw_ne (n := 3) (by decide) c_36_3; have q4 := sw_ne (n := 4) (by decide) c_36_4; have q5 := sw_ne (n := 5) (by decide) c_36_5; have q6 := sw_ne (n := 6) (by decide) c_36_6; have q7 := sw_ne (n := 7) (by decide) c_36_7; have q8 := sw_ne (n := 8) (by decide) c_36_8; have q9 := sw_ne (n := 9) (by decide) c_36_9; have q10 := sw_ne (n := 10) (by decide) c_36_10; have q11 := sw_ne (n := 11) (by decide) c_36_11; have q12 := sw_ne (n := 12) (by decide) c_36_12; omega) (by decide) ?_
    refine lv_aload_n hx hb dL_act_267 rfl (lv_at hl 2 rfl) ?_
    refine lv_iconst (v := 1) hx hb dL_act_268 (by decide) ?_
    refine lv_iload_n hx hb dL_act_269 rfl (lv_at hl 4 rfl) ?_
    refine lv_iload_n hx hb dL_act_270 rfl (lv_at hl 4 rfl) ?_
    refine lv_bipush (v := 20) hx hb dL_act_271 (by decide) ?_
    refine lv_ishr hx hb dL_act_273 ?_
    refine lv_iconst (v := 1) hx hb dL_act_274 (by decide) ?_
    refine lv_iand hx hb dL_act_275 ?_
    refine lv_toI (y := b_20 w) (rfl) ?_
    refine W.cut (pc2 := 285) (st2 := [.int (nI (a_d w)), .int w, .int 1, .ref (L 0)]) (P := fun H locs ls => (True) ∧ GW D N L (gA N L s.heap.size) (cW cy L F C) H ∧ va_S (gA N L s.heap.size) s.heap H locs ∧ lv_has ls 7 [(4, .int (nI (a_j v))), (3, .int (nI (a_k v))), (0, .ref (L 0)), (1, .int v), (2, .int w)]) (fun hcut285 => ?_) (fun H locs ls hP9 => ?_)
    · skip
      refine lv_if_ne (tgt := 283) hx hb dL_act_276 (by decide) (fun c_276 => ?_) (fun c_276 => ?_)
      · skip
        refine lv_bipush (v := 30) hx hb dL_act_283 (by decide) ?_
        refine lv_toI (y := nI (a_d w)) (by first | (rw [show a_d w = 3 from if_pos c_276]; rfl) | (rw [show a_d w = 30 from if_neg c_276]; rfl)) ?_
        have hl : lv_has ls 7 [(4, .int (nI (a_j v))), (3, .int (nI (a_k v))), (0, .ref (L 0)), (1, .int v), (2, .int w)] := lv_sub hl [0, 1, 2, 3, 4] rfl
        exact hcut285 _ _ _ ⟨trivial, hG.to (rfl), hS, lv_to hl (rfl)⟩
      · skip
        refine lv_iconst (v := 3) hx hb dL_act_279 (by decide) ?_
        refine lv_goto (tgt := 285) hx hb dL_act_280 (by decide) ?_
        refine lv_toI (y := nI (a_d w)) (by first | (rw [show a_d w = 3 from if_pos c_276]; rfl) | (rw [show a_d w = 30 from if_neg c_276]; rfl)) ?_
        have hl : lv_has ls 7 [(4, .int (nI (a_j v))), (3, .int (nI (a_k v))), (0, .ref (L 0)), (1, .int v), (2, .int w)] := lv_sub hl [0, 1, 2, 3, 4] rfl
        exact hcut285 _ _ _ ⟨trivial, hG.to (rfl), hS, lv_to hl (rfl)⟩
    · obtain ⟨-, hG, hS, hl⟩ := hP9
      refine g_cSi (As := [.int w, .int (nI (a_d w))]) (rest := [.int 1, .ref (L 0)]) hx hb hml hown hts hK hA hG hS (k_L_low l D cy N L _ w (a_d w) (by omega) (by omega)) (g_cwS 2 hts gL_act_L_low rfl rfl rfl (by decide +kernel) ⟨Nat.le_of_ble_eq_true rfl, Nat.le_of_ble_eq_true rfl⟩) rfl rfl hl.1 (Nat.le_of_ble_eq_true rfl) dL_act_285 ⟨Nat.zero_le _, Nat.zero_le _⟩ (fun H locs hG hS => ?_)
      refine lv_iadd hx hb dL_act_288 ?_
      refine lv_toN (k := 1 + (lowN w (a_d w))) (nI_add 1 (lowN w (a_d w))) ?_
      refine g_cVi (As := [.int (nI (1 + (lowN w (a_d w))))]) (rest := []) hx hb hml hown hts hK hA hG hS (k_X4_pass_ok l D cy N L _ (by omega) C (1 + (lowN w (a_d w))) (hy) (hq) (hm) (by omega) (by omega)) (cwV 1 hts gL_act_X4_pass rfl rfl rfl (by decide +kernel) ⟨Nat.le_of_ble_eq_true rfl, Nat.le_of_ble_eq_true rfl⟩) (by omega) cW_o (ci := 4) rfl rfl rfl rfl hl.1 (Nat.le_of_ble_eq_true rfl) dL_act_289 ⟨Nat.zero_le _, Nat.zero_le _⟩ (fun H locs hG hS => ?_)
      exact g_iret hx hb hr hlocks hK hG hS rfl dL_act_292 ⟨(congrArg (fun z9 => some (Value.int z9)) (by first | (simp only [a_R, a_res, a_ship, a_unl, a_flow, a_pads, a_shk, a_set, a_pass, c_36_0, c_36_1, c_36_2, c_36_3, c_36_4, c_36_5, c_36_6, c_36_7, c_36_8, c_36_9, c_36_10, c_36_11, c_36_12, if_true, if_false]; done) | (simp only [a_R, a_res, a_ship, a_unl, a_flow, a_pads, a_shk, a_set, a_pass, c_36_0, c_36_1, c_36_2, c_36_3, c_36_4, c_36_5, c_36_6, c_36_7, c_36_8, c_36_9, c_36_10, c_36_11, c_36_12, if_true, if_false]; rfl) | rfl)), (by first | (simp only [a_C, a_res, a_ship, a_unl, a_flow, a_pads, a_shk, a_set, a_pass, c_36_0, c_36_1, c_36_2, c_36_3, c_36_4, c_36_5, c_36_6, c_36_7, c_36_8, c_36_9, c_36_10, c_36_11, c_36_12, if_true, if_false]; done) | (simp only [a_C, a_res, a_ship, a_unl, a_flow, a_pads, a_shk, a_set, a_pass, c_36_0, c_36_1, c_36_2, c_36_3, c_36_4, c_36_5, c_36_6, c_36_7, c_36_8, c_36_9, c_36_10, c_36_11, c_36_12, if_true, if_false]; rfl) | rfl)⟩
