set_option maxHeartbeats 4000000 in
set_option maxRecDepth 100000 in
theorem k_L_low (l : Launch) (D : va_G) (cy : Nat → ClassId) (N : Nat) (L : Nat → Nat) (F : Nat → va_E) (v : Int32) (n : Nat) (h1 : 1 ≤ n) (h2 : n < 2 ^ 31) : GM l D cy N L yL_low wsL_low ({ frames := 0, cells := 0, slots := 0, locals := 0 }) [.int v, .int (nI n)] (F) (some (.int (nI (lowN v n)))) (F) := by
  refine GM.ofW (cc := cL_low) (maxL := 2) (ret := (some .int)) (by decide) rfl (Nat.le_of_ble_eq_true rfl) ?_
  intro p e s m below meth c ls hx hb hr hts hown hlocks hml hK hA hG hS hl
  have hl : lv_has ls 2 [(0, .int v), (1, .int (nI n))] := hl
  refine lv_iload_n hx hb dL_low_0 rfl (lv_at hl 0 rfl) ?_
  refine lv_ldc (v := 2147483647) hx hb hown (hts (.constant RL 7 2147483647) (by decide +kernel)) dL_low_1 ?_
  refine lv_iand hx hb dL_low_3 ?_
  refine lv_iload_n hx hb dL_low_4 rfl (lv_at hl 1 rfl) ?_
  refine lv_irem hx hb dL_low_5 (nI_ne0 (by omega) h2) ?_
  refine lv_toI (y := nI (lowN v n)) (low_eq h1 h2) ?_
  exact g_iret hx hb hr hlocks hK hG hS rfl dL_low_6 ⟨rfl, rfl⟩
set_option maxHeartbeats 4000000 in
set_option maxRecDepth 100000 in
theorem k_L_told (l : Launch) (D : va_G) (cy : Nat → ClassId) (N : Nat) (L : Nat → Nat) (F : Nat → va_E) (hN : 162 ≤ N) (C : CT)  (hy : wfY (cY C)) : GM l D cy N L yL_told wsL_told ({ frames := 8, cells := 0, slots := 0, locals := 174 }) [.ref (L 0)] (cW cy L F C) (some (.long (t_told C))) (cW cy L F C) := by
  refine GM.ofW (cc := cL_told) (maxL := 5) (ret := (some .long)) (by decide) rfl (Nat.le_of_ble_eq_true rfl) ?_
  intro p e s m below meth c ls hx hb hr hts hown hlocks hml hK hA hG hS hl
  have hl : lv_has ls 5 [(0, .ref (L 0))] := hl
  refine lv_ldc2 (v := 3) hx hb hown (hts (.constantLong RL 8 3) (by decide +kernel)) dL_told_0 ?_
  refine lv_lstore_n (lv' := [(1, .long 3), (0, .ref (L 0))]) hx hb dL_told_3 rfl hl (by decide) rfl (fun ls hl => ?_)
  refine lv_iconst (v := 0) hx hb dL_told_4 (by decide) ?_
  refine lv_istore_n (lv' := [(3, .int 0), (1, .long 3), (0, .ref (L 0))]) hx hb dL_told_5 rfl hl (by decide) rfl (fun ls hl => ?_)
  refine W.loop (σ := Nat) (fun v H locs ls => (v ≤ 14) ∧ GW D N L (gA N L s.heap.size) (cW cy L F C) H ∧ va_S (gA N L s.heap.size) s.heap H locs ∧ lv_has ls 5 [(1, .long (t_N C v)), (3, .int (nI v)), (0, .ref (L 0))]) (fun v => 14 - v) 0 ⟨by omega, hG.to (rfl), hS, lv_to (lv_sub hl [1, 0, 2] rfl) (rfl)⟩ ?_
  intro v H locs ls hP9 ih6
  obtain ⟨hv9, hG, hS, hl⟩ := hP9
  refine lv_iload_n hx hb dL_told_6 rfl (lv_at hl 1 rfl) ?_
  refine lv_bipush (v := 14) hx hb dL_told_7 (by decide) ?_
  refine lv_icmp_ge (tgt := 31) hx hb dL_told_9 (by decide) (fun c_9 => ?_) (fun c_9 => ?_)
  · skip
    have c_9 : 14 ≤ v := (nI_leI (a := 14) (b := v) (by omega) (by omega)).mp c_9
    refine lv_iconst (v := 0) hx hb dL_told_31 (by decide) ?_
    refine lv_istore_n (lv' := [(3, .int 0), (1, .long (t_N C v)), (0, .ref (L 0))]) hx hb dL_told_32 rfl hl (by decide) rfl (fun ls hl => ?_)
    refine W.loop (σ := Nat) (fun k H locs ls => (k ≤ 4) ∧ GW D N L (gA N L s.heap.size) (cW cy L F C) H ∧ va_S (gA N L s.heap.size) s.heap H locs ∧ lv_has ls 5 [(1, .long (t_K (cY C) (t_N C 14) k)), (3, .int (nI k)), (0, .ref (L 0))]) (fun k => 4 - k) 0 ⟨by omega, hG.to (rfl), hS, lv_to (lv_sub hl [1, 0, 2] rfl) (by rw [show v = 14 by omega]; rfl)⟩ ?_
    intro k H locs ls hP9 ih33
    obtain ⟨hk9, hG, hS, hl⟩ := hP9
    refine lv_iload_n hx hb dL_told_33 rfl (lv_at hl 1 rfl) ?_
    refine lv_iconst (v := 4) hx hb dL_told_34 (by decide) ?_
    refine lv_icmp_ge (tgt := 125) hx hb dL_told_35 (by decide) (fun c_35 => ?_) (fun c_35 => ?_)
    · skip
      have c_35 : 4 ≤ k := (nI_leI (a := 4) (b := k) (by omega) (by omega)).mp c_35
      refine lv_iconst (v := 0) hx hb dL_told_125 (by decide) ?_
      refine lv_istore_n (lv' := [(3, .int 0), (1, .long (t_K (cY C) (t_N C 14) k)), (0, .ref (L 0))]) hx hb dL_told_126 rfl hl (by decide) rfl (fun ls hl => ?_)
      refine W.loop (σ := Nat) (fun j H locs ls => (j ≤ 6) ∧ GW D N L (gA N L s.heap.size) (cW cy L F C) H ∧ va_S (gA N L s.heap.size) s.heap H locs ∧ lv_has ls 5 [(1, .long (t_J (cY C) (t_K (cY C) (t_N C 14) 4) j)), (3, .int (nI j)), (0, .ref (L 0))]) (fun j => 6 - j) 0 ⟨by omega, hG.to (rfl), hS, lv_to (lv_sub hl [1, 0, 2] rfl) (by rw [show k = 4 by omega]; rfl)⟩ ?_
      intro j H locs ls hP9 ih127
      obtain ⟨hj9, hG, hS, hl⟩ := hP9
      refine lv_iload_n hx hb dL_told_127 rfl (lv_at hl 1 rfl) ?_
      refine lv_bipush (v := 6) hx hb dL_told_128 (by decide) ?_
      refine lv_icmp_ge (tgt := 165) hx hb dL_told_130 (by decide) (fun c_130 => ?_) (fun c_130 => ?_)
      · skip
        have c_130 : 6 ≤ j := (nI_leI (a := 6) (b := j) (by omega) (by omega)).mp c_130
        refine lv_lload_n hx hb dL_told_165 rfl (lv_at hl 0 rfl) ?_
        exact g_lret hx hb hr hlocks hK hG hS dL_told_166 ⟨(congrArg (fun z9 => some (Value.long z9)) (by rw [show j = 6 by omega]; rfl)), rfl⟩
      · skip
        have c_130 : ¬ 6 ≤ j := fun h9 => c_130 ((nI_leI (a := 6) (b := j) (by omega) (by omega)).mpr h9)
        refine lv_ldc2 (v := 31) hx hb hown (hts (.constantLong RL 10 31) (by decide +kernel)) dL_told_133 ?_
        refine lv_ldc2 (v := 31) hx hb hown (hts (.constantLong RL 10 31) (by decide +kernel)) dL_told_136 ?_
        refine lv_lload_n hx hb dL_told_139 rfl (lv_at hl 0 rfl) ?_
        refine lv_lmul hx hb dL_told_140 ?_
        refine lv_aload_n hx hb dL_told_141 rfl (lv_at hl 2 rfl) ?_
        refine lv_iload_n hx hb dL_told_142 rfl (lv_at hl 1 rfl) ?_
        refine lv_iconst (v := 0) hx hb dL_told_143 (by decide) ?_
        refine g_cVi (As := [.int (nI j), .int 0]) (rest := [.long (31 * (t_J (cY C) (t_K (cY C) (t_N C 14) 4) j)), .long 31]) hx hb hml hown hts hK hA hG hS (k_X4_shipOf_ok l D cy N L _ (by omega) C j 0 (by omega) (Or.inl rfl)) (cwV 2 hts gL_told_X4_shipOf rfl rfl rfl (by decide +kernel) ⟨Nat.le_of_ble_eq_true rfl, Nat.le_of_ble_eq_true rfl⟩) (by omega) cW_o (ci := 4) rfl rfl rfl rfl hl.1 (Nat.le_of_ble_eq_true rfl) dL_told_144 ⟨Nat.zero_le _, Nat.zero_le _⟩ (fun H locs hG hS => ?_)
        refine lv_i2l hx hb dL_told_147 rfl ?_
        refine lv_ladd hx hb dL_told_148 ?_
        refine lv_lmul hx hb dL_told_149 ?_
        refine lv_aload_n hx hb dL_told_150 rfl (lv_at hl 2 rfl) ?_
        refine lv_iload_n hx hb dL_told_151 rfl (lv_at hl 1 rfl) ?_
        refine lv_iconst (v := 1) hx hb dL_told_152 (by decide) ?_
        refine g_cVi (As := [.int (nI j), .int 1]) (rest := [.long (31 * ((31 * (t_J (cY C) (t_K (cY C) (t_N C 14) 4) j)) + ((y_tellH (cY C) j 0).toInt64)))]) hx hb hml hown hts hK hA hG hS (k_X4_shipOf_ok l D cy N L _ (by omega) C j 1 (by omega) (Or.inr rfl)) (cwV 2 hts gL_told_X4_shipOf rfl rfl rfl (by decide +kernel) ⟨Nat.le_of_ble_eq_true rfl, Nat.le_of_ble_eq_true rfl⟩) (by omega) cW_o (ci := 4) rfl rfl rfl rfl hl.1 (Nat.le_of_ble_eq_true rfl) dL_told_153 ⟨Nat.zero_le _, Nat.zero_le _⟩ (fun H locs hG hS => ?_)
        refine lv_i2l hx hb dL_told_156 rfl ?_
        refine lv_ladd hx hb dL_told_157 ?_
        refine lv_lstore_n (lv' := [(1, .long ((31 * ((31 * (t_J (cY C) (t_K (cY C) (t_N C 14) 4) j)) + ((y_tellH (cY C) j 0).toInt64))) + ((y_tellH (cY C) j 1).toInt64))), (3, .int (nI j)), (0, .ref (L 0))]) hx hb dL_told_158 rfl hl (by decide) rfl (fun ls hl => ?_)
        refine lv_iinc (v := nI (j + 1)) (lv' := [(3, .int (nI (j + 1))), (1, .long ((31 * ((31 * (t_J (cY C) (t_K (cY C) (t_N C 14) 4) j)) + ((y_tellH (cY C) j 0).toInt64))) + ((y_tellH (cY C) j 1).toInt64))), (0, .ref (L 0))]) hx hb dL_told_159 hl (k := 1) rfl (nI_add j 1) (by decide) rfl (fun ls hl => ?_)
        refine lv_goto (tgt := 127) hx hb dL_told_162 (by decide) ?_
        have hl : lv_has ls 5 [(1, .long ((31 * ((31 * (t_J (cY C) (t_K (cY C) (t_N C 14) 4) j)) + ((y_tellH (cY C) j 0).toInt64))) + ((y_tellH (cY C) j 1).toInt64))), (3, .int (nI (j + 1))), (0, .ref (L 0))] := lv_sub hl [1, 0, 2] rfl
        exact ih127 (j + 1) _ _ _ (by omega) ⟨by omega, hG.to (rfl), hS, lv_to hl (rfl)⟩
    · skip
      have c_35 : ¬ 4 ≤ k := fun h9 => c_35 ((nI_leI (a := 4) (b := k) (by omega) (by omega)).mpr h9)
      have hk4 : k < 4 := by omega
      have hn10 := hy k hk4
      refine lv_iconst (v := 0) hx hb dL_told_38 (by decide) ?_
      refine lv_istore (lv' := [(4, .int 0), (1, .long (t_K (cY C) (t_N C 14) k)), (3, .int (nI k)), (0, .ref (L 0))]) hx hb dL_told_39 hl (by decide) rfl (fun ls hl => ?_)
      refine W.loop (σ := Nat) (fun u H locs ls => (u ≤ 6) ∧ GW D N L (gA N L s.heap.size) (cW cy L F C) H ∧ va_S (gA N L s.heap.size) s.heap H locs ∧ lv_has ls 5 [(1, .long (t_S (cY C) k (t_K (cY C) (t_N C 14) k) u)), (4, .int (nI u)), (3, .int (nI k)), (0, .ref (L 0))]) (fun u => 6 - u) 0 ⟨by omega, hG.to (rfl), hS, lv_to (lv_sub hl [1, 0, 2, 3] rfl) (rfl)⟩ ?_
      intro u H locs ls hP9 ih41
      obtain ⟨hu9, hG, hS, hl⟩ := hP9
      refine lv_iload hx hb dL_told_41 (lv_at hl 1 rfl) ?_
      refine lv_bipush (v := 6) hx hb dL_told_43 (by decide) ?_
      refine lv_icmp_ge (tgt := 69) hx hb dL_told_45 (by decide) (fun c_45 => ?_) (fun c_45 => ?_)
      · skip
        have c_45 : 6 ≤ u := (nI_leI (a := 6) (b := u) (by omega) (by omega)).mp c_45
        refine lv_iconst (v := 0) hx hb dL_told_69 (by decide) ?_
        refine lv_istore (lv' := [(4, .int 0), (1, .long (t_S (cY C) k (t_K (cY C) (t_N C 14) k) u)), (3, .int (nI k)), (0, .ref (L 0))]) hx hb dL_told_70 hl (by decide) rfl (fun ls hl => ?_)
        refine W.loop (σ := Nat) (fun e H locs ls => (e ≤ sN (yS (cY C) k)) ∧ GW D N L (gA N L s.heap.size) (cW cy L F C) H ∧ va_S (gA N L s.heap.size) s.heap H locs ∧ lv_has ls 5 [(1, .long (t_L (cY C) k (t_S (cY C) k (t_K (cY C) (t_N C 14) k) 6) e)), (4, .int (nI e)), (3, .int (nI k)), (0, .ref (L 0))]) (fun e => sN (yS (cY C) k) - e) 0 ⟨by omega, hG.to (rfl), hS, lv_to (lv_sub hl [1, 0, 2, 3] rfl) (by rw [show u = 6 by omega]; rfl)⟩ ?_
        intro e H locs ls hP9 ih72
        obtain ⟨he9, hG, hS, hl⟩ := hP9
        refine lv_iload hx hb dL_told_72 (lv_at hl 1 rfl) ?_
        refine lv_aload_n hx hb dL_told_74 rfl (lv_at hl 3 rfl) ?_
        refine lv_iload_n hx hb dL_told_75 rfl (lv_at hl 2 rfl) ?_
        refine lv_iconst (v := 1) hx hb dL_told_76 (by decide) ?_
        refine g_cVi (As := [.int (nI k), .int 1]) (rest := [.int (nI e)]) hx hb hml hown hts hK hA hG hS (k_X4_silo_ok l D cy N L _ (by omega) C k 1 (hy) (by omega) (Or.inr (Or.inl rfl))) (cwV 2 hts gL_told_X4_silo rfl rfl rfl (by decide +kernel) ⟨Nat.le_of_ble_eq_true rfl, Nat.le_of_ble_eq_true rfl⟩) (by omega) cW_o (ci := 4) rfl rfl rfl rfl hl.1 (Nat.le_of_ble_eq_true rfl) dL_told_77 ⟨Nat.zero_le _, Nat.zero_le _⟩ (fun H locs hG hS => ?_)
        refine lv_toN (k := sN (yS (cY C) k)) (tell_1) ?_
        refine lv_icmp_ge (tgt := 119) hx hb dL_told_80 (by decide) (fun c_80 => ?_) (fun c_80 => ?_)
        · skip
          have c_80 : (sN (yS (cY C) k)) ≤ e := (nI_leI (a := sN (yS (cY C) k)) (b := e) (by omega) (by omega)).mp c_80
          refine lv_iinc (v := nI (k + 1)) (lv' := [(3, .int (nI (k + 1))), (1, .long (t_L (cY C) k (t_S (cY C) k (t_K (cY C) (t_N C 14) k) 6) e)), (4, .int (nI e)), (0, .ref (L 0))]) hx hb dL_told_119 hl (k := 2) rfl (nI_add k 1) (by decide) rfl (fun ls hl => ?_)
          refine lv_goto (tgt := 33) hx hb dL_told_122 (by decide) ?_
          have hl : lv_has ls 5 [(1, .long (t_L (cY C) k (t_S (cY C) k (t_K (cY C) (t_N C 14) k) 6) e)), (3, .int (nI (k + 1))), (0, .ref (L 0))] := lv_sub hl [1, 0, 3] rfl
          exact ih33 (k + 1) _ _ _ (by omega) ⟨by omega, hG.to (rfl), hS, lv_to hl (by rw [show e = sN (yS (cY C) k) by omega]; rfl)⟩
        · skip
          have c_80 : ¬ (sN (yS (cY C) k)) ≤ e := fun h9 => c_80 ((nI_leI (a := sN (yS (cY C) k)) (b := e) (by omega) (by omega)).mpr h9)
          refine lv_ldc2 (v := 31) hx hb hown (hts (.constantLong RL 10 31) (by decide +kernel)) dL_told_83 ?_
          refine lv_ldc2 (v := 31) hx hb hown (hts (.constantLong RL 10 31) (by decide +kernel)) dL_told_86 ?_
          refine lv_lload_n hx hb dL_told_89 rfl (lv_at hl 0 rfl) ?_
          refine lv_lmul hx hb dL_told_90 ?_
          refine lv_aload_n hx hb dL_told_91 rfl (lv_at hl 3 rfl) ?_
          refine lv_iload_n hx hb dL_told_92 rfl (lv_at hl 2 rfl) ?_
          refine lv_iload hx hb dL_told_93 (lv_at hl 1 rfl) ?_
          refine lv_iconst (v := 0) hx hb dL_told_95 (by decide) ?_
          refine g_cVi (As := [.int (nI k), .int (nI e), .int 0]) (rest := [.long (31 * (t_L (cY C) k (t_S (cY C) k (t_K (cY C) (t_N C 14) k) 6) e)), .long 31]) hx hb hml hown hts hK hA hG hS (k_X4_layer_ok l D cy N L _ (by omega) C k e 0 (hy) (by omega) (by omega) (Or.inl rfl)) (cwV 3 hts gL_told_X4_layer rfl rfl rfl (by decide +kernel) ⟨Nat.le_of_ble_eq_true rfl, Nat.le_of_ble_eq_true rfl⟩) (by omega) cW_o (ci := 4) rfl rfl rfl rfl hl.1 (Nat.le_of_ble_eq_true rfl) dL_told_96 ⟨Nat.zero_le _, Nat.zero_le _⟩ (fun H locs hG hS => ?_)
          refine lv_i2l hx hb dL_told_99 rfl ?_
          refine lv_ladd hx hb dL_told_100 ?_
          refine lv_lmul hx hb dL_told_101 ?_
          refine lv_aload_n hx hb dL_told_102 rfl (lv_at hl 3 rfl) ?_
          refine lv_iload_n hx hb dL_told_103 rfl (lv_at hl 2 rfl) ?_
          refine lv_iload hx hb dL_told_104 (lv_at hl 1 rfl) ?_
          refine lv_iconst (v := 1) hx hb dL_told_106 (by decide) ?_
          refine g_cVi (As := [.int (nI k), .int (nI e), .int 1]) (rest := [.long (31 * ((31 * (t_L (cY C) k (t_S (cY C) k (t_K (cY C) (t_N C 14) k) 6) e)) + ((y_tellL (cY C) k e 0).toInt64)))]) hx hb hml hown hts hK hA hG hS (k_X4_layer_ok l D cy N L _ (by omega) C k e 1 (hy) (by omega) (by omega) (Or.inr (Or.inl rfl))) (cwV 3 hts gL_told_X4_layer rfl rfl rfl (by decide +kernel) ⟨Nat.le_of_ble_eq_true rfl, Nat.le_of_ble_eq_true rfl⟩) (by omega) cW_o (ci := 4) rfl rfl rfl rfl hl.1 (Nat.le_of_ble_eq_true rfl) dL_told_107 ⟨Nat.zero_le _, Nat.zero_le _⟩ (fun H locs hG hS => ?_)
          refine lv_i2l hx hb dL_told_110 rfl ?_
          refine lv_ladd hx hb dL_told_111 ?_
          refine lv_lstore_n (lv' := [(1, .long ((31 * ((31 * (t_L (cY C) k (t_S (cY C) k (t_K (cY C) (t_N C 14) k) 6) e)) + ((y_tellL (cY C) k e 0).toInt64))) + ((y_tellL (cY C) k e 1).toInt64))), (4, .int (nI e)), (3, .int (nI k)), (0, .ref (L 0))]) hx hb dL_told_112 rfl hl (by decide) rfl (fun ls hl => ?_)
          refine lv_iinc (v := nI (e + 1)) (lv' := [(4, .int (nI (e + 1))), (1, .long ((31 * ((31 * (t_L (cY C) k (t_S (cY C) k (t_K (cY C) (t_N C 14) k) 6) e)) + ((y_tellL (cY C) k e 0).toInt64))) + ((y_tellL (cY C) k e 1).toInt64))), (3, .int (nI k)), (0, .ref (L 0))]) hx hb dL_told_113 hl (k := 1) rfl (nI_add e 1) (by decide) rfl (fun ls hl => ?_)
          refine lv_goto (tgt := 72) hx hb dL_told_116 (by decide) ?_
          have hl : lv_has ls 5 [(1, .long ((31 * ((31 * (t_L (cY C) k (t_S (cY C) k (t_K (cY C) (t_N C 14) k) 6) e)) + ((y_tellL (cY C) k e 0).toInt64))) + ((y_tellL (cY C) k e 1).toInt64))), (4, .int (nI (e + 1))), (3, .int (nI k)), (0, .ref (L 0))] := lv_sub hl [1, 0, 2, 3] rfl
          exact ih72 (e + 1) _ _ _ (by omega) ⟨by omega, hG.to (rfl), hS, lv_to hl (rfl)⟩
      · skip
        have c_45 : ¬ 6 ≤ u := fun h9 => c_45 ((nI_leI (a := 6) (b := u) (by omega) (by omega)).mpr h9)
        refine lv_ldc2 (v := 31) hx hb hown (hts (.constantLong RL 10 31) (by decide +kernel)) dL_told_48 ?_
        refine lv_lload_n hx hb dL_told_51 rfl (lv_at hl 0 rfl) ?_
        refine lv_lmul hx hb dL_told_52 ?_
        refine lv_aload_n hx hb dL_told_53 rfl (lv_at hl 3 rfl) ?_
        refine lv_iload_n hx hb dL_told_54 rfl (lv_at hl 2 rfl) ?_
        refine lv_iload hx hb dL_told_55 (lv_at hl 1 rfl) ?_
        refine g_cVi (As := [.int (nI k), .int (nI u)]) (rest := [.long (31 * (t_S (cY C) k (t_K (cY C) (t_N C 14) k) u))]) hx hb hml hown hts hK hA hG hS (k_X4_silo_ok l D cy N L _ (by omega) C k (nI u) (hy) (by omega) (by rcases (show u = 0 ∨ u = 1 ∨ u = 2 ∨ u = 3 ∨ u = 4 ∨ u = 5 by omega) with rfl | rfl | rfl | rfl | rfl | rfl <;> decide)) (cwV 2 hts gL_told_X4_silo rfl rfl rfl (by decide +kernel) ⟨Nat.le_of_ble_eq_true rfl, Nat.le_of_ble_eq_true rfl⟩) (by omega) cW_o (ci := 4) rfl rfl rfl rfl hl.1 (Nat.le_of_ble_eq_true rfl) dL_told_57 ⟨Nat.zero_le _, Nat.zero_le _⟩ (fun H locs hG hS => ?_)
        refine lv_i2l hx hb dL_told_60 rfl ?_
        refine lv_ladd hx hb dL_told_61 ?_
        refine lv_lstore_n (lv' := [(1, .long ((31 * (t_S (cY C) k (t_K (cY C) (t_N C 14) k) u)) + ((y_tellS (cY C) k (nI u)).toInt64))), (4, .int (nI u)), (3, .int (nI k)), (0, .ref (L 0))]) hx hb dL_told_62 rfl hl (by decide) rfl (fun ls hl => ?_)
        refine lv_iinc (v := nI (u + 1)) (lv' := [(4, .int (nI (u + 1))), (1, .long ((31 * (t_S (cY C) k (t_K (cY C) (t_N C 14) k) u)) + ((y_tellS (cY C) k (nI u)).toInt64))), (3, .int (nI k)), (0, .ref (L 0))]) hx hb dL_told_63 hl (k := 1) rfl (nI_add u 1) (by decide) rfl (fun ls hl => ?_)
        refine lv_goto (tgt := 41) hx hb dL_told_66 (by decide) ?_
        have hl : lv_has ls 5 [(1, .long ((31 * (t_S (cY C) k (t_K (cY C) (t_N C 14) k) u)) + ((y_tellS (cY C) k (nI u)).toInt64))), (4, .int (nI (u + 1))), (3, .int (nI k)), (0, .ref (L 0))] := lv_sub hl [1, 0, 2, 3] rfl
        exact ih41 (u + 1) _ _ _ (by omega) ⟨by omega, hG.to (rfl), hS, lv_to hl (rfl)⟩
  · skip
    have c_9 : ¬ 14 ≤ v := fun h9 => c_9 ((nI_leI (a := 14) (b := v) (by omega) (by omega)).mpr h9)
    refine lv_ldc2 (v := 31) hx hb hown (hts (.constantLong RL 10 31) (by decide +kernel)) dL_told_12 ?_
    refine lv_lload_n hx hb dL_told_15 rfl (lv_at hl 0 rfl) ?_
    refine lv_lmul hx hb dL_told_16 ?_
    refine lv_aload_n hx hb dL_told_17 rfl (lv_at hl 2 rfl) ?_
    refine lv_iload_n hx hb dL_told_18 rfl (lv_at hl 1 rfl) ?_
    refine g_cVi (As := [.int (nI v)]) (rest := [.long (31 * (t_N C v))]) hx hb hml hown hts hK hA hG hS (k_X4_count_ok l D cy N L _ (by omega) C (nI v) (hy) (by rcases (show v = 0 ∨ v = 1 ∨ v = 2 ∨ v = 3 ∨ v = 4 ∨ v = 5 ∨ v = 6 ∨ v = 7 ∨ v = 8 ∨ v = 9 ∨ v = 10 ∨ v = 11 ∨ v = 12 ∨ v = 13 ∨ v = 14 by omega) with rfl | rfl | rfl | rfl | rfl | rfl | rfl | rfl | rfl | rfl | rfl | rfl | rfl | rfl | rfl <;> decide)) (cwV 1 hts gL_told_X4_count rfl rfl rfl (by decide +kernel) ⟨Nat.le_of_ble_eq_true rfl, Nat.le_of_ble_eq_true rfl⟩) (by omega) cW_o (ci := 4) rfl rfl rfl rfl hl.1 (Nat.le_of_ble_eq_true rfl) dL_told_19 ⟨Nat.zero_le _, Nat.zero_le _⟩ (fun H locs hG hS => ?_)
    refine lv_i2l hx hb dL_told_22 rfl ?_
    refine lv_ladd hx hb dL_told_23 ?_
    refine lv_lstore_n (lv' := [(1, .long ((31 * (t_N C v)) + ((c_count C (nI v)).toInt64))), (3, .int (nI v)), (0, .ref (L 0))]) hx hb dL_told_24 rfl hl (by decide) rfl (fun ls hl => ?_)
    refine lv_iinc (v := nI (v + 1)) (lv' := [(3, .int (nI (v + 1))), (1, .long ((31 * (t_N C v)) + ((c_count C (nI v)).toInt64))), (0, .ref (L 0))]) hx hb dL_told_25 hl (k := 1) rfl (nI_add v 1) (by decide) rfl (fun ls hl => ?_)
    refine lv_goto (tgt := 6) hx hb dL_told_28 (by decide) ?_
    have hl : lv_has ls 5 [(1, .long ((31 * (t_N C v)) + ((c_count C (nI v)).toInt64))), (3, .int (nI (v + 1))), (0, .ref (L 0))] := lv_sub hl [1, 0, 2] rfl
    exact ih6 (v + 1) _ _ _ (by omega) ⟨by omega, hG.to (rfl), hS, lv_to hl (rfl)⟩
