set_option maxHeartbeats 4000000 in
set_option maxRecDepth 100000 in
theorem k_X5_shakes (l : Launch) (D : va_G) (cy : Nat → ClassId) (N : Nat) (L : Nat → Nat) (F : Nat → va_E) (hN : 168 ≤ N) (mt : Int32) (ms ma mv : Nat → Int32) (mn : Int32) (mb : Nat → Int32) (ml mp mw : Int32) (mr : Nat → Int32) (mq : Int32) (mh : Int64) (k n : Nat) (hk : k < 4) (hn : ms (10 + 24 * k + 3) = nI n) (hn10 : n ≤ 10) (hn1 : 1 ≤ n ∨ ms (10 + 24 * k + 1) = 2) : GM l D cy N L yX5_shakes wsX5_shakes ({ frames := 4, cells := 0, slots := 0, locals := 89 }) [.ref (L 162), .int (nI k)] (mW cy L F mt ms ma mv mn mb ml mp mw mr mq mh) (some (.int (g_shR ms k n))) (mW cy L F mt (g_shS ms k n) ma mv mn mb ml mp mw mr mq mh) := by
  refine GM.ofW (cc := cX5_shakes) (maxL := 4) (ret := (some .int)) (by decide) rfl (Nat.le_of_ble_eq_true rfl) ?_
  intro p e s m below meth c ls hx hb hr hts hown hlocks hml hK hA hG hS hl
  have hl : lv_has ls 4 [(0, .ref (L 162)), (1, .int (nI k))] := hl
  have i162 : 162 < N := by omega
  have i163 : 163 < N := by omega
  have i164 : 164 < N := by omega
  have i165 : 165 < N := by omega
  have i166 : 166 < N := by omega
  have i167 : 167 < N := by omega
  have hf7 := hts (.fieldLink RX5 7 "SiloPadsModel" "s" "[I") (by decide +kernel)
  have hinX5 : ∀ w ∈ u_ws RX5 TX5 12, w ∈ wsX5_shakes := by decide +kernel
  refine lv_aload_n hx hb dX5_shakes_0 rfl (lv_at hl 0 rfl) ?_
  refine lv_iload_n hx hb dX5_shakes_1 rfl (lv_at hl 1 rfl) ?_
  refine lv_iconst (v := 2) hx hb dX5_shakes_2 (by decide) ?_
  refine g_cVi (As := [.int (nI k), .int 2]) (rest := []) hx hb hml hown hts hK hA hG hS (k_X5_of l D cy N L F hN mt ms ma mv mn mb ml mp mw mr mq mh k 2 (by omega)) (cwV 2 hts gX5_shakes_X5_of rfl rfl rfl (by decide +kernel) ⟨Nat.le_of_ble_eq_true rfl, Nat.le_of_ble_eq_true rfl⟩) i162 mW_o (ci := 5) rfl rfl rfl rfl hl.1 (Nat.le_of_ble_eq_true rfl) dX5_shakes_3 ⟨Nat.zero_le _, Nat.zero_le _⟩ (fun H locs hG hS => ?_)
  refine lv_iconst (v := 1) hx hb dX5_shakes_6 (by decide) ?_
  refine lv_iadd hx hb dX5_shakes_7 ?_
  refine lv_istore_n (lv' := [(2, .int ((ms (10 + 24 * k + 2)) + 1)), (0, .ref (L 162)), (1, .int (nI k))]) hx hb dX5_shakes_8 rfl hl (by decide) rfl (fun ls hl => ?_)
  refine W.cut (pc2 := 36) (st2 := [.int (g_shR ms k n)]) (P := fun H locs ls => (True) ∧ GW D N L (gA N L s.heap.size) (mW cy L F mt ms ma mv mn mb ml mp mw mr mq mh) H ∧ va_S (gA N L s.heap.size) s.heap H locs ∧ lv_has ls 4 [(2, .int ((ms (10 + 24 * k + 2)) + 1)), (0, .ref (L 162)), (1, .int (nI k))]) (fun hcut36 => ?_) (fun H locs ls hP9 => ?_)
  · skip
    refine lv_aload_n hx hb dX5_shakes_9 rfl (lv_at hl 1 rfl) ?_
    refine lv_iload_n hx hb dX5_shakes_10 rfl (lv_at hl 2 rfl) ?_
    refine lv_iconst (v := 1) hx hb dX5_shakes_11 (by decide) ?_
    refine g_cVi (As := [.int (nI k), .int 1]) (rest := []) hx hb hml hown hts hK hA hG hS (k_X5_of l D cy N L F hN mt ms ma mv mn mb ml mp mw mr mq mh k 1 (by omega)) (cwV 2 hts gX5_shakes_X5_of rfl rfl rfl (by decide +kernel) ⟨Nat.le_of_ble_eq_true rfl, Nat.le_of_ble_eq_true rfl⟩) i162 mW_o (ci := 5) rfl rfl rfl rfl hl.1 (Nat.le_of_ble_eq_true rfl) dX5_shakes_12 ⟨Nat.zero_le _, Nat.zero_le _⟩ (fun H locs hG hS => ?_)
    refine lv_if_le (tgt := 35) hx hb dX5_shakes_15 (by decide) (fun c_15 => ?_) (fun c_15 => ?_)
    · skip
      refine lv_iconst (v := 0) hx hb dX5_shakes_35 (by decide) ?_
      refine lv_toI (y := g_shR ms k n) (by simp only [g_shR, c_15, if_true, if_false]) ?_
      have hl : lv_has ls 4 [(2, .int ((ms (10 + 24 * k + 2)) + 1)), (0, .ref (L 162)), (1, .int (nI k))] := lv_sub hl [0, 1, 2] rfl
      exact hcut36 _ _ _ ⟨trivial, hG.to (rfl), hS, lv_to hl (rfl)⟩
    · skip
      refine lv_aload_n hx hb dX5_shakes_18 rfl (lv_at hl 1 rfl) ?_
      refine lv_iload_n hx hb dX5_shakes_19 rfl (lv_at hl 2 rfl) ?_
      refine g_cVi (As := [.int (nI k)]) (rest := []) hx hb hml hown hts hK hA hG hS (k_X5_isHeavy l D cy N L F hN mt ms ma mv mn mb ml mp mw mr mq mh k n (by omega) (hn) (by omega) (hn1)) (cwV 1 hts gX5_shakes_X5_isHeavy rfl rfl rfl (by decide +kernel) ⟨Nat.le_of_ble_eq_true rfl, Nat.le_of_ble_eq_true rfl⟩) i162 mW_o (ci := 5) rfl rfl rfl rfl hl.1 (Nat.le_of_ble_eq_true rfl) dX5_shakes_20 ⟨Nat.zero_le _, Nat.zero_le _⟩ (fun H locs hG hS => ?_)
      refine lv_if_ne (tgt := 31) hx hb dX5_shakes_23 (by decide) (fun c_23 => ?_) (fun c_23 => ?_)
      · skip
        refine lv_iconst (v := 1) hx hb dX5_shakes_31 (by decide) ?_
        refine lv_goto (tgt := 36) hx hb dX5_shakes_32 (by decide) ?_
        refine lv_toI (y := g_shR ms k n) (by simp only [g_shR, c_15, c_23, if_true, if_false]) ?_
        have hl : lv_has ls 4 [(2, .int ((ms (10 + 24 * k + 2)) + 1)), (0, .ref (L 162)), (1, .int (nI k))] := lv_sub hl [0, 1, 2] rfl
        exact hcut36 _ _ _ ⟨trivial, hG.to (rfl), hS, lv_to hl (rfl)⟩
      · skip
        refine lv_iload_n hx hb dX5_shakes_26 rfl (lv_at hl 0 rfl) ?_
        refine lv_iconst (v := 3) hx hb dX5_shakes_27 (by decide) ?_
        refine lv_icmp_lt (tgt := 35) hx hb dX5_shakes_28 (by decide) (fun c_28 => ?_) (fun c_28 => ?_)
        · skip
          refine lv_iconst (v := 0) hx hb dX5_shakes_35 (by decide) ?_
          refine lv_toI (y := g_shR ms k n) (by simp only [g_shR, c_15, eq_true c_23, c_28, if_true, if_false]) ?_
          have hl : lv_has ls 4 [(2, .int ((ms (10 + 24 * k + 2)) + 1)), (0, .ref (L 162)), (1, .int (nI k))] := lv_sub hl [0, 1, 2] rfl
          exact hcut36 _ _ _ ⟨trivial, hG.to (rfl), hS, lv_to hl (rfl)⟩
        · skip
          refine lv_iconst (v := 1) hx hb dX5_shakes_31 (by decide) ?_
          refine lv_goto (tgt := 36) hx hb dX5_shakes_32 (by decide) ?_
          refine lv_toI (y := g_shR ms k n) (by simp only [g_shR, c_15, eq_true c_23, c_28, if_true, if_false]) ?_
          have hl : lv_has ls 4 [(2, .int ((ms (10 + 24 * k + 2)) + 1)), (0, .ref (L 162)), (1, .int (nI k))] := lv_sub hl [0, 1, 2] rfl
          exact hcut36 _ _ _ ⟨trivial, hG.to (rfl), hS, lv_to hl (rfl)⟩
  · obtain ⟨-, hG, hS, hl⟩ := hP9
    refine lv_istore_n (lv' := [(3, .int (g_shR ms k n)), (2, .int ((ms (10 + 24 * k + 2)) + 1)), (0, .ref (L 162)), (1, .int (nI k))]) hx hb dX5_shakes_36 rfl hl (by decide) rfl (fun ls hl => ?_)
    refine lv_aload_n hx hb dX5_shakes_37 rfl (lv_at hl 2 rfl) ?_
    refine lv_iload_n hx hb dX5_shakes_38 rfl (lv_at hl 3 rfl) ?_
    refine lv_iconst (v := 2) hx hb dX5_shakes_39 (by decide) ?_
    refine lv_iload_n hx hb dX5_shakes_40 rfl (lv_at hl 1 rfl) ?_
    refine g_cVv (As := [.int (nI k), .int 2, .int ((ms (10 + 24 * k + 2)) + 1)]) (rest := []) hx hb hml hown hts hK hA hG hS (k_X5_lay l D cy N L F hN mt ms ma mv mn mb ml mp mw mr mq mh k 2 ((ms (10 + 24 * k + 2)) + 1) (by omega)) (cwV 3 hts gX5_shakes_X5_lay rfl rfl rfl (by decide +kernel) ⟨Nat.le_of_ble_eq_true rfl, Nat.le_of_ble_eq_true rfl⟩) i162 mW_o (ci := 5) rfl rfl rfl rfl hl.1 (Nat.le_of_ble_eq_true rfl) dX5_shakes_41 ⟨Nat.zero_le _, Nat.zero_le _⟩ (fun H locs hG hS => ?_)
    refine lv_aload_n hx hb dX5_shakes_44 rfl (lv_at hl 2 rfl) ?_
    refine lv_iload_n hx hb dX5_shakes_45 rfl (lv_at hl 3 rfl) ?_
    refine lv_iconst (v := 1) hx hb dX5_shakes_46 (by decide) ?_
    refine lv_iload_n hx hb dX5_shakes_47 rfl (lv_at hl 0 rfl) ?_
    refine lv_if_eq (tgt := 55) hx hb dX5_shakes_48 (by decide) (fun c_48 => ?_) (fun c_48 => ?_)
    · skip
      refine lv_aload_n hx hb dX5_shakes_55 rfl (lv_at hl 2 rfl) ?_
      refine lv_iload_n hx hb dX5_shakes_56 rfl (lv_at hl 3 rfl) ?_
      refine lv_iconst (v := 1) hx hb dX5_shakes_57 (by decide) ?_
      refine g_cVi (As := [.int (nI k), .int 1]) (rest := [.int 1, .int (nI k), .ref (L 162)]) hx hb hml hown hts hK hA hG hS (k_X5_of l D cy N L F hN mt (upd ms (10 + 24 * k + 2) ((ms (10 + 24 * k + 2)) + 1)) ma mv mn mb ml mp mw mr mq mh k 1 (by omega)) (cwV 2 hts gX5_shakes_X5_of rfl rfl rfl (by decide +kernel) ⟨Nat.le_of_ble_eq_true rfl, Nat.le_of_ble_eq_true rfl⟩) i162 mW_o (ci := 5) rfl rfl rfl rfl hl.1 (Nat.le_of_ble_eq_true rfl) dX5_shakes_58 ⟨Nat.zero_le _, Nat.zero_le _⟩ (fun H locs hG hS => ?_)
      refine g_cVv (As := [.int (nI k), .int 1, .int ((upd ms (10 + 24 * k + 2) ((ms (10 + 24 * k + 2)) + 1)) (10 + 24 * k + 1))]) (rest := []) hx hb hml hown hts hK hA hG hS (k_X5_lay l D cy N L F hN mt (upd ms (10 + 24 * k + 2) ((ms (10 + 24 * k + 2)) + 1)) ma mv mn mb ml mp mw mr mq mh k 1 ((upd ms (10 + 24 * k + 2) ((ms (10 + 24 * k + 2)) + 1)) (10 + 24 * k + 1)) (by omega)) (cwV 3 hts gX5_shakes_X5_lay rfl rfl rfl (by decide +kernel) ⟨Nat.le_of_ble_eq_true rfl, Nat.le_of_ble_eq_true rfl⟩) i162 mW_o (ci := 5) rfl rfl rfl rfl hl.1 (Nat.le_of_ble_eq_true rfl) dX5_shakes_61 ⟨Nat.zero_le _, Nat.zero_le _⟩ (fun H locs hG hS => ?_)
      refine lv_aload_n hx hb dX5_shakes_64 rfl (lv_at hl 2 rfl) ?_
      refine lv_iload_n hx hb dX5_shakes_65 rfl (lv_at hl 3 rfl) ?_
      refine lv_iconst (v := 5) hx hb dX5_shakes_66 (by decide) ?_
      refine lv_aload_n hx hb dX5_shakes_67 rfl (lv_at hl 2 rfl) ?_
      refine lv_iload_n hx hb dX5_shakes_68 rfl (lv_at hl 3 rfl) ?_
      refine lv_iconst (v := 0) hx hb dX5_shakes_69 (by decide) ?_
      refine g_cVi (As := [.int (nI k), .int 0]) (rest := [.int 5, .int (nI k), .ref (L 162)]) hx hb hml hown hts hK hA hG hS (k_X5_age l D cy N L F hN mt (upd (upd ms (10 + 24 * k + 2) ((ms (10 + 24 * k + 2)) + 1)) (10 + 24 * k + 1) ((upd ms (10 + 24 * k + 2) ((ms (10 + 24 * k + 2)) + 1)) (10 + 24 * k + 1))) ma mv mn mb ml mp mw mr mq mh k 0 (by omega)) (cwV 2 hts gX5_shakes_X5_age rfl rfl rfl (by decide +kernel) ⟨Nat.le_of_ble_eq_true rfl, Nat.le_of_ble_eq_true rfl⟩) i162 mW_o (ci := 5) rfl rfl rfl rfl hl.1 (Nat.le_of_ble_eq_true rfl) dX5_shakes_70 ⟨Nat.zero_le _, Nat.zero_le _⟩ (fun H locs hG hS => ?_)
      refine lv_if_le (tgt := 87) hx hb dX5_shakes_73 (by decide) (fun c_73 => ?_) (fun c_73 => ?_)
      · skip
        refine lv_iconst (v := 0) hx hb dX5_shakes_87 (by decide) ?_
        refine g_cVv (As := [.int (nI k), .int 5, .int 0]) (rest := []) hx hb hml hown hts hK hA hG hS (k_X5_lay l D cy N L F hN mt (upd (upd ms (10 + 24 * k + 2) ((ms (10 + 24 * k + 2)) + 1)) (10 + 24 * k + 1) ((upd ms (10 + 24 * k + 2) ((ms (10 + 24 * k + 2)) + 1)) (10 + 24 * k + 1))) ma mv mn mb ml mp mw mr mq mh k 5 0 (by omega)) (cwV 3 hts gX5_shakes_X5_lay rfl rfl rfl (by decide +kernel) ⟨Nat.le_of_ble_eq_true rfl, Nat.le_of_ble_eq_true rfl⟩) i162 mW_o (ci := 5) rfl rfl rfl rfl hl.1 (Nat.le_of_ble_eq_true rfl) dX5_shakes_88 ⟨Nat.zero_le _, Nat.zero_le _⟩ (fun H locs hG hS => ?_)
        refine lv_aload_n hx hb dX5_shakes_91 rfl (lv_at hl 2 rfl) ?_
        refine g_get (ci := 5) (C := RX5) (T := TX5) (M := 12) hx hb hts hinX5 hown hK hG i162 mW_o rfl 1 (by decide) hf7 rfl rfl dX5_shakes_92 ?_
        refine lv_iconst (v := 4) hx hb dX5_shakes_95 (by decide) ?_
        refine lv_dup2_11 hx hb dX5_shakes_96 rfl rfl ?_
        refine g_iald hx hb hK hG i163 mW_a163 (k := 4) rfl (by omega) (by decide) dX5_shakes_97 ?_
        refine lv_iconst (v := 1) hx hb dX5_shakes_98 (by decide) ?_
        refine lv_iadd hx hb dX5_shakes_99 ?_
        refine g_iast hx hb hK hG hS i163 mW_a163 (k := 4) rfl (by omega) (by decide) dX5_shakes_100 (fun H locs hG hS => ?_)
        have hG := hG.to mW_us
        refine lv_iload_n hx hb dX5_shakes_101 rfl (lv_at hl 0 rfl) ?_
        refine lv_if_eq (tgt := 109) hx hb dX5_shakes_102 (by decide) (fun c_102 => ?_) (fun c_102 => ?_)
        · skip
          refine lv_iconst (v := 0) hx hb dX5_shakes_109 (by decide) ?_
          exact g_iret hx hb hr hlocks hK hG hS rfl dX5_shakes_110 ⟨(congrArg (fun z9 => some (Value.int z9)) (by rcases g_shR_01 ms k n with h9 | h9 <;> first | exact h9.symm | exact absurd h9 (by assumption) | (exfalso; rw [h9] at c_102; exact absurd c_102 (by decide)))), (by first | exact absurd c_48 c_102 | exact absurd c_102 c_48 | (simp only [g_shS, g_sh3, g_sh2, g_sh1, eq_true c_48, c_73, eq_true c_102, if_true, if_false]; done))⟩
        · skip
          refine lv_iconst (v := 1) hx hb dX5_shakes_105 (by decide) ?_
          refine lv_goto (tgt := 110) hx hb dX5_shakes_106 (by decide) ?_
          exact g_iret hx hb hr hlocks hK hG hS rfl dX5_shakes_110 ⟨(congrArg (fun z9 => some (Value.int z9)) (by rcases g_shR_01 ms k n with h9 | h9 <;> first | exact h9.symm | exact absurd h9 (by assumption) | (exfalso; rw [h9] at c_102; exact absurd c_102 (by decide)))), (by first | exact absurd c_48 c_102 | exact absurd c_102 c_48 | (simp only [g_shS, g_sh3, g_sh2, g_sh1, eq_true c_48, c_73, c_102, if_true, if_false]; done))⟩
      · skip
        refine lv_aload_n hx hb dX5_shakes_76 rfl (lv_at hl 2 rfl) ?_
        refine lv_iload_n hx hb dX5_shakes_77 rfl (lv_at hl 3 rfl) ?_
        refine lv_iconst (v := 0) hx hb dX5_shakes_78 (by decide) ?_
        refine g_cVi (As := [.int (nI k), .int 0]) (rest := [.int 5, .int (nI k), .ref (L 162)]) hx hb hml hown hts hK hA hG hS (k_X5_age l D cy N L F hN mt (upd (upd ms (10 + 24 * k + 2) ((ms (10 + 24 * k + 2)) + 1)) (10 + 24 * k + 1) ((upd ms (10 + 24 * k + 2) ((ms (10 + 24 * k + 2)) + 1)) (10 + 24 * k + 1))) ma mv mn mb ml mp mw mr mq mh k 0 (by omega)) (cwV 2 hts gX5_shakes_X5_age rfl rfl rfl (by decide +kernel) ⟨Nat.le_of_ble_eq_true rfl, Nat.le_of_ble_eq_true rfl⟩) i162 mW_o (ci := 5) rfl rfl rfl rfl hl.1 (Nat.le_of_ble_eq_true rfl) dX5_shakes_79 ⟨Nat.zero_le _, Nat.zero_le _⟩ (fun H locs hG hS => ?_)
        refine lv_iconst (v := 1) hx hb dX5_shakes_82 (by decide) ?_
        refine lv_isub hx hb dX5_shakes_83 ?_
        refine lv_goto (tgt := 88) hx hb dX5_shakes_84 (by decide) ?_
        refine g_cVv (As := [.int (nI k), .int 5, .int (((upd (upd ms (10 + 24 * k + 2) ((ms (10 + 24 * k + 2)) + 1)) (10 + 24 * k + 1) ((upd ms (10 + 24 * k + 2) ((ms (10 + 24 * k + 2)) + 1)) (10 + 24 * k + 1))) (10 + 24 * k + (4 + 2 * 0 + 1))) - 1)]) (rest := []) hx hb hml hown hts hK hA hG hS (k_X5_lay l D cy N L F hN mt (upd (upd ms (10 + 24 * k + 2) ((ms (10 + 24 * k + 2)) + 1)) (10 + 24 * k + 1) ((upd ms (10 + 24 * k + 2) ((ms (10 + 24 * k + 2)) + 1)) (10 + 24 * k + 1))) ma mv mn mb ml mp mw mr mq mh k 5 (((upd (upd ms (10 + 24 * k + 2) ((ms (10 + 24 * k + 2)) + 1)) (10 + 24 * k + 1) ((upd ms (10 + 24 * k + 2) ((ms (10 + 24 * k + 2)) + 1)) (10 + 24 * k + 1))) (10 + 24 * k + (4 + 2 * 0 + 1))) - 1) (by omega)) (cwV 3 hts gX5_shakes_X5_lay rfl rfl rfl (by decide +kernel) ⟨Nat.le_of_ble_eq_true rfl, Nat.le_of_ble_eq_true rfl⟩) i162 mW_o (ci := 5) rfl rfl rfl rfl hl.1 (Nat.le_of_ble_eq_true rfl) dX5_shakes_88 ⟨Nat.zero_le _, Nat.zero_le _⟩ (fun H locs hG hS => ?_)
        refine lv_aload_n hx hb dX5_shakes_91 rfl (lv_at hl 2 rfl) ?_
        refine g_get (ci := 5) (C := RX5) (T := TX5) (M := 12) hx hb hts hinX5 hown hK hG i162 mW_o rfl 1 (by decide) hf7 rfl rfl dX5_shakes_92 ?_
        refine lv_iconst (v := 4) hx hb dX5_shakes_95 (by decide) ?_
        refine lv_dup2_11 hx hb dX5_shakes_96 rfl rfl ?_
        refine g_iald hx hb hK hG i163 mW_a163 (k := 4) rfl (by omega) (by decide) dX5_shakes_97 ?_
        refine lv_iconst (v := 1) hx hb dX5_shakes_98 (by decide) ?_
        refine lv_iadd hx hb dX5_shakes_99 ?_
        refine g_iast hx hb hK hG hS i163 mW_a163 (k := 4) rfl (by omega) (by decide) dX5_shakes_100 (fun H locs hG hS => ?_)
        have hG := hG.to mW_us
        refine lv_iload_n hx hb dX5_shakes_101 rfl (lv_at hl 0 rfl) ?_
        refine lv_if_eq (tgt := 109) hx hb dX5_shakes_102 (by decide) (fun c_102 => ?_) (fun c_102 => ?_)
        · skip
          refine lv_iconst (v := 0) hx hb dX5_shakes_109 (by decide) ?_
          exact g_iret hx hb hr hlocks hK hG hS rfl dX5_shakes_110 ⟨(congrArg (fun z9 => some (Value.int z9)) (by rcases g_shR_01 ms k n with h9 | h9 <;> first | exact h9.symm | exact absurd h9 (by assumption) | (exfalso; rw [h9] at c_102; exact absurd c_102 (by decide)))), (by first | exact absurd c_48 c_102 | exact absurd c_102 c_48 | (simp only [g_shS, g_sh3, g_sh2, g_sh1, eq_true c_48, c_73, eq_true c_102, if_true, if_false]; done))⟩
        · skip
          refine lv_iconst (v := 1) hx hb dX5_shakes_105 (by decide) ?_
          refine lv_goto (tgt := 110) hx hb dX5_shakes_106 (by decide) ?_
          exact g_iret hx hb hr hlocks hK hG hS rfl dX5_shakes_110 ⟨(congrArg (fun z9 => some (Value.int z9)) (by rcases g_shR_01 ms k n with h9 | h9 <;> first | exact h9.symm | exact absurd h9 (by assumption) | (exfalso; rw [h9] at c_102; exact absurd c_102 (by decide)))), (by first | exact absurd c_48 c_102 | exact absurd c_102 c_48 | (simp only [g_shS, g_sh3, g_sh2, g_sh1, eq_true c_48, c_73, c_102, if_true, if_false]; done))⟩
    · skip
      refine lv_iconst (v := 0) hx hb dX5_shakes_51 (by decide) ?_
      refine lv_goto (tgt := 61) hx hb dX5_shakes_52 (by decide) ?_
      refine g_cVv (As := [.int (nI k), .int 1, .int 0]) (rest := []) hx hb hml hown hts hK hA hG hS (k_X5_lay l D cy N L F hN mt (upd ms (10 + 24 * k + 2) ((ms (10 + 24 * k + 2)) + 1)) ma mv mn mb ml mp mw mr mq mh k 1 0 (by omega)) (cwV 3 hts gX5_shakes_X5_lay rfl rfl rfl (by decide +kernel) ⟨Nat.le_of_ble_eq_true rfl, Nat.le_of_ble_eq_true rfl⟩) i162 mW_o (ci := 5) rfl rfl rfl rfl hl.1 (Nat.le_of_ble_eq_true rfl) dX5_shakes_61 ⟨Nat.zero_le _, Nat.zero_le _⟩ (fun H locs hG hS => ?_)
      refine lv_aload_n hx hb dX5_shakes_64 rfl (lv_at hl 2 rfl) ?_
      refine lv_iload_n hx hb dX5_shakes_65 rfl (lv_at hl 3 rfl) ?_
      refine lv_iconst (v := 5) hx hb dX5_shakes_66 (by decide) ?_
      refine lv_aload_n hx hb dX5_shakes_67 rfl (lv_at hl 2 rfl) ?_
      refine lv_iload_n hx hb dX5_shakes_68 rfl (lv_at hl 3 rfl) ?_
      refine lv_iconst (v := 0) hx hb dX5_shakes_69 (by decide) ?_
      refine g_cVi (As := [.int (nI k), .int 0]) (rest := [.int 5, .int (nI k), .ref (L 162)]) hx hb hml hown hts hK hA hG hS (k_X5_age l D cy N L F hN mt (upd (upd ms (10 + 24 * k + 2) ((ms (10 + 24 * k + 2)) + 1)) (10 + 24 * k + 1) 0) ma mv mn mb ml mp mw mr mq mh k 0 (by omega)) (cwV 2 hts gX5_shakes_X5_age rfl rfl rfl (by decide +kernel) ⟨Nat.le_of_ble_eq_true rfl, Nat.le_of_ble_eq_true rfl⟩) i162 mW_o (ci := 5) rfl rfl rfl rfl hl.1 (Nat.le_of_ble_eq_true rfl) dX5_shakes_70 ⟨Nat.zero_le _, Nat.zero_le _⟩ (fun H locs hG hS => ?_)
      refine lv_if_le (tgt := 87) hx hb dX5_shakes_73 (by decide) (fun c_73 => ?_) (fun c_73 => ?_)
      · skip
        refine lv_iconst (v := 0) hx hb dX5_shakes_87 (by decide) ?_
        refine g_cVv (As := [.int (nI k), .int 5, .int 0]) (rest := []) hx hb hml hown hts hK hA hG hS (k_X5_lay l D cy N L F hN mt (upd (upd ms (10 + 24 * k + 2) ((ms (10 + 24 * k + 2)) + 1)) (10 + 24 * k + 1) 0) ma mv mn mb ml mp mw mr mq mh k 5 0 (by omega)) (cwV 3 hts gX5_shakes_X5_lay rfl rfl rfl (by decide +kernel) ⟨Nat.le_of_ble_eq_true rfl, Nat.le_of_ble_eq_true rfl⟩) i162 mW_o (ci := 5) rfl rfl rfl rfl hl.1 (Nat.le_of_ble_eq_true rfl) dX5_shakes_88 ⟨Nat.zero_le _, Nat.zero_le _⟩ (fun H locs hG hS => ?_)
        refine lv_aload_n hx hb dX5_shakes_91 rfl (lv_at hl 2 rfl) ?_
        refine g_get (ci := 5) (C := RX5) (T := TX5) (M := 12) hx hb hts hinX5 hown hK hG i162 mW_o rfl 1 (by decide) hf7 rfl rfl dX5_shakes_92 ?_
        refine lv_iconst (v := 4) hx hb dX5_shakes_95 (by decide) ?_
        refine lv_dup2_11 hx hb dX5_shakes_96 rfl rfl ?_
        refine g_iald hx hb hK hG i163 mW_a163 (k := 4) rfl (by omega) (by decide) dX5_shakes_97 ?_
        refine lv_iconst (v := 1) hx hb dX5_shakes_98 (by decide) ?_
        refine lv_iadd hx hb dX5_shakes_99 ?_
        refine g_iast hx hb hK hG hS i163 mW_a163 (k := 4) rfl (by omega) (by decide) dX5_shakes_100 (fun H locs hG hS => ?_)
        have hG := hG.to mW_us
        refine lv_iload_n hx hb dX5_shakes_101 rfl (lv_at hl 0 rfl) ?_
        refine lv_if_eq (tgt := 109) hx hb dX5_shakes_102 (by decide) (fun c_102 => ?_) (fun c_102 => ?_)
        · skip
          refine lv_iconst (v := 0) hx hb dX5_shakes_109 (by decide) ?_
          exact g_iret hx hb hr hlocks hK hG hS rfl dX5_shakes_110 ⟨(congrArg (fun z9 => some (Value.int z9)) (by rcases g_shR_01 ms k n with h9 | h9 <;> first | exact h9.symm | exact absurd h9 (by assumption) | (exfalso; rw [h9] at c_102; exact absurd c_102 (by decide)))), (by first | exact absurd c_48 c_102 | exact absurd c_102 c_48 | (simp only [g_shS, g_sh3, g_sh2, g_sh1, c_48, c_73, eq_true c_102, if_true, if_false]; done))⟩
        · skip
          refine lv_iconst (v := 1) hx hb dX5_shakes_105 (by decide) ?_
          refine lv_goto (tgt := 110) hx hb dX5_shakes_106 (by decide) ?_
          exact g_iret hx hb hr hlocks hK hG hS rfl dX5_shakes_110 ⟨(congrArg (fun z9 => some (Value.int z9)) (by rcases g_shR_01 ms k n with h9 | h9 <;> first | exact h9.symm | exact absurd h9 (by assumption) | (exfalso; rw [h9] at c_102; exact absurd c_102 (by decide)))), (by first | exact absurd c_48 c_102 | exact absurd c_102 c_48 | (simp only [g_shS, g_sh3, g_sh2, g_sh1, c_48, c_73, c_102, if_true, if_false]; done))⟩
      · skip
        refine lv_aload_n hx hb dX5_shakes_76 rfl (lv_at hl 2 rfl) ?_
        refine lv_iload_n hx hb dX5_shakes_77 rfl (lv_at hl 3 rfl) ?_
        refine lv_iconst (v := 0) hx hb dX5_shakes_78 (by decide) ?_
        refine g_cVi (As := [.int (nI k), .int 0]) (rest := [.int 5, .int (nI k), .ref (L 162)]) hx hb hml hown hts hK hA hG hS (k_X5_age l D cy N L F hN mt (upd (upd ms (10 + 24 * k + 2) ((ms (10 + 24 * k + 2)) + 1)) (10 + 24 * k + 1) 0) ma mv mn mb ml mp mw mr mq mh k 0 (by omega)) (cwV 2 hts gX5_shakes_X5_age rfl rfl rfl (by decide +kernel) ⟨Nat.le_of_ble_eq_true rfl, Nat.le_of_ble_eq_true rfl⟩) i162 mW_o (ci := 5) rfl rfl rfl rfl hl.1 (Nat.le_of_ble_eq_true rfl) dX5_shakes_79 ⟨Nat.zero_le _, Nat.zero_le _⟩ (fun H locs hG hS => ?_)
        refine lv_iconst (v := 1) hx hb dX5_shakes_82 (by decide) ?_
        refine lv_isub hx hb dX5_shakes_83 ?_
        refine lv_goto (tgt := 88) hx hb dX5_shakes_84 (by decide) ?_
        refine g_cVv (As := [.int (nI k), .int 5, .int (((upd (upd ms (10 + 24 * k + 2) ((ms (10 + 24 * k + 2)) + 1)) (10 + 24 * k + 1) 0) (10 + 24 * k + (4 + 2 * 0 + 1))) - 1)]) (rest := []) hx hb hml hown hts hK hA hG hS (k_X5_lay l D cy N L F hN mt (upd (upd ms (10 + 24 * k + 2) ((ms (10 + 24 * k + 2)) + 1)) (10 + 24 * k + 1) 0) ma mv mn mb ml mp mw mr mq mh k 5 (((upd (upd ms (10 + 24 * k + 2) ((ms (10 + 24 * k + 2)) + 1)) (10 + 24 * k + 1) 0) (10 + 24 * k + (4 + 2 * 0 + 1))) - 1) (by omega)) (cwV 3 hts gX5_shakes_X5_lay rfl rfl rfl (by decide +kernel) ⟨Nat.le_of_ble_eq_true rfl, Nat.le_of_ble_eq_true rfl⟩) i162 mW_o (ci := 5) rfl rfl rfl rfl hl.1 (Nat.le_of_ble_eq_true rfl) dX5_shakes_88 ⟨Nat.zero_le _, Nat.zero_le _⟩ (fun H locs hG hS => ?_)
        refine lv_aload_n hx hb dX5_shakes_91 rfl (lv_at hl 2 rfl) ?_
        refine g_get (ci := 5) (C := RX5) (T := TX5) (M := 12) hx hb hts hinX5 hown hK hG i162 mW_o rfl 1 (by decide) hf7 rfl rfl dX5_shakes_92 ?_
        refine lv_iconst (v := 4) hx hb dX5_shakes_95 (by decide) ?_
        refine lv_dup2_11 hx hb dX5_shakes_96 rfl rfl ?_
        refine g_iald hx hb hK hG i163 mW_a163 (k := 4) rfl (by omega) (by decide) dX5_shakes_97 ?_
        refine lv_iconst (v := 1) hx hb dX5_shakes_98 (by decide) ?_
        refine lv_iadd hx hb dX5_shakes_99 ?_
        refine g_iast hx hb hK hG hS i163 mW_a163 (k := 4) rfl (by omega) (by decide) dX5_shakes_100 (fun H locs hG hS => ?_)
        have hG := hG.to mW_us
        refine lv_iload_n hx hb dX5_shakes_101 rfl (lv_at hl 0 rfl) ?_
        refine lv_if_eq (tgt := 109) hx hb dX5_shakes_102 (by decide) (fun c_102 => ?_) (fun c_102 => ?_)
        · skip
          refine lv_iconst (v := 0) hx hb dX5_shakes_109 (by decide) ?_
          exact g_iret hx hb hr hlocks hK hG hS rfl dX5_shakes_110 ⟨(congrArg (fun z9 => some (Value.int z9)) (by rcases g_shR_01 ms k n with h9 | h9 <;> first | exact h9.symm | exact absurd h9 (by assumption) | (exfalso; rw [h9] at c_102; exact absurd c_102 (by decide)))), (by first | exact absurd c_48 c_102 | exact absurd c_102 c_48 | (simp only [g_shS, g_sh3, g_sh2, g_sh1, c_48, c_73, eq_true c_102, if_true, if_false]; done))⟩
        · skip
          refine lv_iconst (v := 1) hx hb dX5_shakes_105 (by decide) ?_
          refine lv_goto (tgt := 110) hx hb dX5_shakes_106 (by decide) ?_
          exact g_iret hx hb hr hlocks hK hG hS rfl dX5_shakes_110 ⟨(congrArg (fun z9 => some (Value.int z9)) (by rcases g_shR_01 ms k n with h9 | h9 <;> first | exact h9.symm | exact absurd h9 (by assumption) | (exfalso; rw [h9] at c_102; exact absurd c_102 (by decide)))), (by first | exact absurd c_48 c_102 | exact absurd c_102 c_48 | (simp only [g_shS, g_sh3, g_sh2, g_sh1, c_48, c_73, c_102, if_true, if_false]; done))⟩
set_option maxHeartbeats 4000000 in
set_option maxRecDepth 100000 in
theorem k_X5_needed (l : Launch) (D : va_G) (cy : Nat → ClassId) (N : Nat) (L : Nat → Nat) (F : Nat → va_E) (hN : 168 ≤ N) (mt : Int32) (ms ma mv : Nat → Int32) (mn : Int32) (mb : Nat → Int32) (ml mp mw : Int32) (mr : Nat → Int32) (mq : Int32) (mh : Int64) (k n : Nat) (hk : k < 4) (hn : ms (10 + 24 * k + 3) = nI n) (hn10 : n ≤ 10) (hn1 : 1 ≤ n ∨ ms (10 + 24 * k + 1) = 2 ∨ ms (10 + 24 * k + 1) = 0) : GM l D cy N L yX5_needed wsX5_needed ({ frames := 4, cells := 0, slots := 0, locals := 89 }) [.ref (L 162), .int (nI k)] (mW cy L F mt ms ma mv mn mb ml mp mw mr mq mh) (some (.int (g_need ms k n))) (mW cy L F mt ms ma mv mn mb ml mp mw mr mq mh) := by
  refine GM.ofW (cc := cX5_needed) (maxL := 2) (ret := (some .int)) (by decide) rfl (Nat.le_of_ble_eq_true rfl) ?_
  intro p e s m below meth c ls hx hb hr hts hown hlocks hml hK hA hG hS hl
  have hl : lv_has ls 2 [(0, .ref (L 162)), (1, .int (nI k))] := hl
  have i162 : 162 < N := by omega
  have i163 : 163 < N := by omega
  have i164 : 164 < N := by omega
  have i165 : 165 < N := by omega
  have i166 : 166 < N := by omega
  have i167 : 167 < N := by omega
  refine lv_aload_n hx hb dX5_needed_0 rfl (lv_at hl 0 rfl) ?_
  refine lv_iload_n hx hb dX5_needed_1 rfl (lv_at hl 1 rfl) ?_
  refine lv_iconst (v := 1) hx hb dX5_needed_2 (by decide) ?_
  refine g_cVi (As := [.int (nI k), .int 1]) (rest := []) hx hb hml hown hts hK hA hG hS (k_X5_of l D cy N L F hN mt ms ma mv mn mb ml mp mw mr mq mh k 1 (by omega)) (cwV 2 hts gX5_needed_X5_of rfl rfl rfl (by decide +kernel) ⟨Nat.le_of_ble_eq_true rfl, Nat.le_of_ble_eq_true rfl⟩) i162 mW_o (ci := 5) rfl rfl rfl rfl hl.1 (Nat.le_of_ble_eq_true rfl) dX5_needed_3 ⟨Nat.zero_le _, Nat.zero_le _⟩ (fun H locs hG hS => ?_)
  refine lv_if_ne (tgt := 13) hx hb dX5_needed_6 (by decide) (fun c_6 => ?_) (fun c_6 => ?_)
  · skip
    refine lv_aload_n hx hb dX5_needed_13 rfl (lv_at hl 0 rfl) ?_
    refine lv_iload_n hx hb dX5_needed_14 rfl (lv_at hl 1 rfl) ?_
    refine g_cVi (As := [.int (nI k)]) (rest := []) hx hb hml hown hts hK hA hG hS (k_X5_isHeavy l D cy N L F hN mt ms ma mv mn mb ml mp mw mr mq mh k n (by omega) (hn) (by omega) (by rcases hn1 with h9 | h9 | h9 <;> first | exact Or.inl h9 | exact Or.inr h9 | exact absurd h9 c_6)) (cwV 1 hts gX5_needed_X5_isHeavy rfl rfl rfl (by decide +kernel) ⟨Nat.le_of_ble_eq_true rfl, Nat.le_of_ble_eq_true rfl⟩) i162 mW_o (ci := 5) rfl rfl rfl rfl hl.1 (Nat.le_of_ble_eq_true rfl) dX5_needed_15 ⟨Nat.zero_le _, Nat.zero_le _⟩ (fun H locs hG hS => ?_)
    refine lv_if_eq (tgt := 25) hx hb dX5_needed_18 (by decide) (fun c_18 => ?_) (fun c_18 => ?_)
    · skip
      refine lv_iconst (v := 3) hx hb dX5_needed_25 (by decide) ?_
      refine lv_aload_n hx hb dX5_needed_26 rfl (lv_at hl 0 rfl) ?_
      refine lv_iload_n hx hb dX5_needed_27 rfl (lv_at hl 1 rfl) ?_
      refine lv_iconst (v := 2) hx hb dX5_needed_28 (by decide) ?_
      refine g_cVi (As := [.int (nI k), .int 2]) (rest := [.int 3]) hx hb hml hown hts hK hA hG hS (k_X5_of l D cy N L F hN mt ms ma mv mn mb ml mp mw mr mq mh k 2 (by omega)) (cwV 2 hts gX5_needed_X5_of rfl rfl rfl (by decide +kernel) ⟨Nat.le_of_ble_eq_true rfl, Nat.le_of_ble_eq_true rfl⟩) i162 mW_o (ci := 5) rfl rfl rfl rfl hl.1 (Nat.le_of_ble_eq_true rfl) dX5_needed_29 ⟨Nat.zero_le _, Nat.zero_le _⟩ (fun H locs hG hS => ?_)
      refine lv_isub hx hb dX5_needed_32 ?_
      exact g_iret hx hb hr hlocks hK hG hS rfl dX5_needed_33 ⟨(congrArg (fun z9 => some (Value.int z9)) (by first | (simp only [g_need, c_6, eq_true c_18, if_true, if_false, not_true_eq_false, not_false_eq_true]; done) | (simp [g_need, c_6, eq_true c_18]; done) | rfl)), rfl⟩
    · skip
      refine lv_iconst (v := 1) hx hb dX5_needed_21 (by decide) ?_
      refine lv_goto (tgt := 33) hx hb dX5_needed_22 (by decide) ?_
      exact g_iret hx hb hr hlocks hK hG hS rfl dX5_needed_33 ⟨(congrArg (fun z9 => some (Value.int z9)) (by first | (simp only [g_need, c_6, c_18, if_true, if_false, not_true_eq_false, not_false_eq_true]; done) | (simp [g_need, c_6, c_18]; done) | rfl)), rfl⟩
  · skip
    refine lv_iconst (v := 0) hx hb dX5_needed_9 (by decide) ?_
    refine lv_goto (tgt := 33) hx hb dX5_needed_10 (by decide) ?_
    exact g_iret hx hb hr hlocks hK hG hS rfl dX5_needed_33 ⟨(congrArg (fun z9 => some (Value.int z9)) (by first | (simp only [g_need, eq_true c_6, if_true, if_false, not_true_eq_false, not_false_eq_true]; done) | (simp [g_need, eq_true c_6]; done) | rfl)), rfl⟩
set_option maxHeartbeats 4000000 in
set_option maxRecDepth 100000 in
theorem k_X5_passesDay (l : Launch) (D : va_G) (cy : Nat → ClassId) (N : Nat) (L : Nat → Nat) (F : Nat → va_E) (hN : 168 ≤ N) (mt : Int32) (ms ma mv : Nat → Int32) (mn : Int32) (mb : Nat → Int32) (ml mp mw : Int32) (mr : Nat → Int32) (mq : Int32) (mh : Int64)  (hw : wfM ms) : GM l D cy N L yX5_passesDay wsX5_passesDay ({ frames := 4, cells := 0, slots := 0, locals := 88 }) [.ref (L 162)] (mW cy L F mt ms ma mv mn mb ml mp mw mr mq mh) (some (.int (g_dayR ms))) (mW cy L F mt (g_dayS ms) ma mv mn mb ml mp mw mr mq mh) := by
  refine GM.ofW (cc := cX5_passesDay) (maxL := 4) (ret := (some .int)) (by decide) rfl (Nat.le_of_ble_eq_true rfl) ?_
  intro p e s m below meth c ls hx hb hr hts hown hlocks hml hK hA hG hS hl
  have hl : lv_has ls 4 [(0, .ref (L 162))] := hl
  have i162 : 162 < N := by omega
  have i163 : 163 < N := by omega
  have i164 : 164 < N := by omega
  have i165 : 165 < N := by omega
  have i166 : 166 < N := by omega
  have i167 : 167 < N := by omega
  have hf7 := hts (.fieldLink RX5 7 "SiloPadsModel" "s" "[I") (by decide +kernel)
  have hinX5 : ∀ w ∈ u_ws RX5 TX5 12, w ∈ wsX5_passesDay := by decide +kernel
  refine lv_iconst (v := 0) hx hb dX5_passesDay_0 (by decide) ?_
  refine lv_istore_n (lv' := [(1, .int 0), (0, .ref (L 162))]) hx hb dX5_passesDay_1 rfl hl (by decide) rfl (fun ls hl => ?_)
  refine lv_aload_n hx hb dX5_passesDay_2 rfl (lv_at hl 1 rfl) ?_
  refine g_get (ci := 5) (C := RX5) (T := TX5) (M := 12) hx hb hts hinX5 hown hK hG i162 mW_o rfl 1 (by decide) hf7 rfl rfl dX5_passesDay_3 ?_
  refine lv_iconst (v := 0) hx hb dX5_passesDay_6 (by decide) ?_
  refine lv_dup2_11 hx hb dX5_passesDay_7 rfl rfl ?_
  refine g_iald hx hb hK hG i163 mW_a163 (k := 0) rfl (by omega) (by decide) dX5_passesDay_8 ?_
  refine lv_iconst (v := 1) hx hb dX5_passesDay_9 (by decide) ?_
  refine lv_iadd hx hb dX5_passesDay_10 ?_
  refine g_iast hx hb hK hG hS i163 mW_a163 (k := 0) rfl (by omega) (by decide) dX5_passesDay_11 (fun H locs hG hS => ?_)
  have hG := hG.to mW_us
  refine lv_iconst (v := 0) hx hb dX5_passesDay_12 (by decide) ?_
  refine lv_istore_n (lv' := [(2, .int 0), (1, .int 0), (0, .ref (L 162))]) hx hb dX5_passesDay_13 rfl hl (by decide) rfl (fun ls hl => ?_)
  refine W.loop (σ := Nat) (fun k H locs ls => (k ≤ 4) ∧ GW D N L (gA N L s.heap.size) (mW cy L F mt (g_ageS (upd ms 0 (ms 0 + 1)) k) ma mv mn mb ml mp mw mr mq mh) H ∧ va_S (gA N L s.heap.size) s.heap H locs ∧ lv_has ls 4 [(2, .int (nI k)), (1, .int 0), (0, .ref (L 162))]) (fun k => 4 - k) 0 ⟨by omega, hG.to (rfl), hS, lv_to (lv_sub hl [0, 1, 2] rfl) (rfl)⟩ ?_
  intro k H locs ls hP9 ih14
  obtain ⟨hk9, hG, hS, hl⟩ := hP9
  have hw9 : wfM (g_ageS (upd ms 0 (ms 0 + 1)) k) := wfM_ageS (wfM_upd hw (by omega) (fun k hk => by omega)) k hk9
  refine lv_iload_n hx hb dX5_passesDay_14 rfl (lv_at hl 0 rfl) ?_
  refine lv_iconst (v := 4) hx hb dX5_passesDay_15 (by decide) ?_
  refine lv_icmp_ge (tgt := 63) hx hb dX5_passesDay_16 (by decide) (fun c_16 => ?_) (fun c_16 => ?_)
  · skip
    have c_16 : 4 ≤ k := (nI_leI (a := 4) (b := k) (by omega) (by omega)).mp c_16
    refine lv_iconst (v := 0) hx hb dX5_passesDay_63 (by decide) ?_
    refine lv_istore_n (lv' := [(2, .int 0), (1, .int 0), (0, .ref (L 162))]) hx hb dX5_passesDay_64 rfl hl (by decide) rfl (fun ls hl => ?_)
    refine W.loop (σ := Nat) (fun k H locs ls => (k ≤ 4) ∧ GW D N L (gA N L s.heap.size) (mW cy L F mt (g_archS (g_day0 ms) k) ma mv mn mb ml mp mw mr mq mh) H ∧ va_S (gA N L s.heap.size) s.heap H locs ∧ lv_has ls 4 [(1, .int (g_archN (g_day0 ms) k)), (2, .int (nI k)), (0, .ref (L 162))]) (fun k => 4 - k) 0 ⟨by omega, hG.to (by rw [show k = 4 by omega]; rfl), hS, lv_to (lv_sub hl [1, 0, 2] rfl) (rfl)⟩ ?_
    intro k H locs ls hP9 ih65
    obtain ⟨hk9, hG, hS, hl⟩ := hP9
    refine lv_iload_n hx hb dX5_passesDay_65 rfl (lv_at hl 1 rfl) ?_
    refine lv_iconst (v := 4) hx hb dX5_passesDay_66 (by decide) ?_
    refine lv_icmp_ge (tgt := 101) hx hb dX5_passesDay_67 (by decide) (fun c_67 => ?_) (fun c_67 => ?_)
    · skip
      have c_67 : 4 ≤ k := (nI_leI (a := 4) (b := k) (by omega) (by omega)).mp c_67
      refine lv_aload_n hx hb dX5_passesDay_101 rfl (lv_at hl 2 rfl) ?_
      refine g_get (ci := 5) (C := RX5) (T := TX5) (M := 12) hx hb hts hinX5 hown hK hG i162 mW_o rfl 1 (by decide) hf7 rfl rfl dX5_passesDay_102 ?_
      refine lv_iconst (v := 5) hx hb dX5_passesDay_105 (by decide) ?_
      refine lv_dup2_11 hx hb dX5_passesDay_106 rfl rfl ?_
      refine g_iald hx hb hK hG i163 mW_a163 (k := 5) rfl (by omega) (by decide) dX5_passesDay_107 ?_
      refine lv_iload_n hx hb dX5_passesDay_108 rfl (lv_at hl 0 rfl) ?_
      refine lv_iadd hx hb dX5_passesDay_109 ?_
      refine g_iast hx hb hK hG hS i163 mW_a163 (k := 5) rfl (by omega) (by decide) dX5_passesDay_110 (fun H locs hG hS => ?_)
      have hG := hG.to mW_us
      refine lv_iload_n hx hb dX5_passesDay_111 rfl (lv_at hl 0 rfl) ?_
      exact g_iret hx hb hr hlocks hK hG hS rfl dX5_passesDay_112 ⟨(congrArg (fun z9 => some (Value.int z9)) (by rw [show k = 4 by omega]; rfl)), (by rw [show k = 4 by omega]; rfl)⟩
    · skip
      have c_67 : ¬ 4 ≤ k := fun h9 => c_67 ((nI_leI (a := 4) (b := k) (by omega) (by omega)).mpr h9)
      refine lv_aload_n hx hb dX5_passesDay_70 rfl (lv_at hl 2 rfl) ?_
      refine lv_iload_n hx hb dX5_passesDay_71 rfl (lv_at hl 1 rfl) ?_
      refine g_cVi (As := [.int (nI k)]) (rest := []) hx hb hml hown hts hK hA hG hS (k_X5_forms l D cy N L F hN mt (g_archS (g_day0 ms) k) ma mv mn mb ml mp mw mr mq mh k (by omega)) (cwV 1 hts gX5_passesDay_X5_forms rfl rfl rfl (by decide +kernel) ⟨Nat.le_of_ble_eq_true rfl, Nat.le_of_ble_eq_true rfl⟩) i162 mW_o (ci := 5) rfl rfl rfl rfl hl.1 (Nat.le_of_ble_eq_true rfl) dX5_passesDay_72 ⟨Nat.zero_le _, Nat.zero_le _⟩ (fun H locs hG hS => ?_)
      refine lv_if_eq (tgt := 95) hx hb dX5_passesDay_75 (by decide) (fun c_75 => ?_) (fun c_75 => ?_)
      · skip
        refine lv_iinc (v := nI (k + 1)) (lv' := [(2, .int (nI (k + 1))), (1, .int (g_archN (g_day0 ms) k)), (0, .ref (L 162))]) hx hb dX5_passesDay_95 hl (k := 1) rfl (nI_add k 1) (by decide) rfl (fun ls hl => ?_)
        refine lv_goto (tgt := 65) hx hb dX5_passesDay_98 (by decide) ?_
        have hl : lv_has ls 4 [(1, .int (g_archN (g_day0 ms) k)), (2, .int (nI (k + 1))), (0, .ref (L 162))] := lv_sub hl [1, 0, 2] rfl
        exact ih65 (k + 1) _ _ _ (by omega) ⟨by omega, hG.to (by simp only [g_archS, g_arch1, c_16, c_67, eq_true c_75, if_true, if_false]), hS, lv_to hl (by simp only [g_archN, c_16, c_67, eq_true c_75, if_true, if_false])⟩
      · skip
        refine lv_aload_n hx hb dX5_passesDay_78 rfl (lv_at hl 2 rfl) ?_
        refine lv_iload_n hx hb dX5_passesDay_79 rfl (lv_at hl 1 rfl) ?_
        refine lv_iconst (v := 1) hx hb dX5_passesDay_80 (by decide) ?_
        refine lv_iconst (v := 1) hx hb dX5_passesDay_81 (by decide) ?_
        refine g_cVv (As := [.int (nI k), .int 1, .int 1]) (rest := []) hx hb hml hown hts hK hA hG hS (k_X5_lay l D cy N L F hN mt (g_archS (g_day0 ms) k) ma mv mn mb ml mp mw mr mq mh k 1 1 (by omega)) (cwV 3 hts gX5_passesDay_X5_lay rfl rfl rfl (by decide +kernel) ⟨Nat.le_of_ble_eq_true rfl, Nat.le_of_ble_eq_true rfl⟩) i162 mW_o (ci := 5) rfl rfl rfl rfl hl.1 (Nat.le_of_ble_eq_true rfl) dX5_passesDay_82 ⟨Nat.zero_le _, Nat.zero_le _⟩ (fun H locs hG hS => ?_)
        refine lv_aload_n hx hb dX5_passesDay_85 rfl (lv_at hl 2 rfl) ?_
        refine lv_iload_n hx hb dX5_passesDay_86 rfl (lv_at hl 1 rfl) ?_
        refine lv_iconst (v := 2) hx hb dX5_passesDay_87 (by decide) ?_
        refine lv_iconst (v := 0) hx hb dX5_passesDay_88 (by decide) ?_
        refine g_cVv (As := [.int (nI k), .int 2, .int 0]) (rest := []) hx hb hml hown hts hK hA hG hS (k_X5_lay l D cy N L F hN mt (upd (g_archS (g_day0 ms) k) (10 + 24 * k + 1) 1) ma mv mn mb ml mp mw mr mq mh k 2 0 (by omega)) (cwV 3 hts gX5_passesDay_X5_lay rfl rfl rfl (by decide +kernel) ⟨Nat.le_of_ble_eq_true rfl, Nat.le_of_ble_eq_true rfl⟩) i162 mW_o (ci := 5) rfl rfl rfl rfl hl.1 (Nat.le_of_ble_eq_true rfl) dX5_passesDay_89 ⟨Nat.zero_le _, Nat.zero_le _⟩ (fun H locs hG hS => ?_)
        refine lv_iinc (v := (g_archN (g_day0 ms) k) + 1) (lv' := [(1, .int ((g_archN (g_day0 ms) k) + 1)), (2, .int (nI k)), (0, .ref (L 162))]) hx hb dX5_passesDay_92 hl (k := 0) rfl rfl (by decide) rfl (fun ls hl => ?_)
        refine lv_iinc (v := nI (k + 1)) (lv' := [(2, .int (nI (k + 1))), (1, .int ((g_archN (g_day0 ms) k) + 1)), (0, .ref (L 162))]) hx hb dX5_passesDay_95 hl (k := 1) rfl (nI_add k 1) (by decide) rfl (fun ls hl => ?_)
        refine lv_goto (tgt := 65) hx hb dX5_passesDay_98 (by decide) ?_
        have hl : lv_has ls 4 [(1, .int ((g_archN (g_day0 ms) k) + 1)), (2, .int (nI (k + 1))), (0, .ref (L 162))] := lv_sub hl [1, 0, 2] rfl
        exact ih65 (k + 1) _ _ _ (by omega) ⟨by omega, hG.to (by simp only [g_archS, g_arch1, c_16, c_67, c_75, if_true, if_false]), hS, lv_to hl (by simp only [g_archN, c_16, c_67, c_75, if_true, if_false])⟩
  · skip
    have c_16 : ¬ 4 ≤ k := fun h9 => c_16 ((nI_leI (a := 4) (b := k) (by omega) (by omega)).mpr h9)
    refine lv_iconst (v := 0) hx hb dX5_passesDay_19 (by decide) ?_
    refine lv_istore_n (lv' := [(3, .int 0), (2, .int (nI k)), (1, .int 0), (0, .ref (L 162))]) hx hb dX5_passesDay_20 rfl hl (by decide) rfl (fun ls hl => ?_)
    refine W.loop (σ := Nat) (fun i H locs ls => (i ≤ Nn (g_ageS (upd ms 0 (ms 0 + 1)) k) k) ∧ GW D N L (gA N L s.heap.size) (mW cy L F mt (g_ageL (g_ageS (upd ms 0 (ms 0 + 1)) k) k i) ma mv mn mb ml mp mw mr mq mh) H ∧ va_S (gA N L s.heap.size) s.heap H locs ∧ lv_has ls 4 [(3, .int (nI i)), (2, .int (nI k)), (1, .int 0), (0, .ref (L 162))]) (fun i => Nn (g_ageS (upd ms 0 (ms 0 + 1)) k) k - i) 0 ⟨by omega, hG.to (rfl), hS, lv_to (lv_sub hl [0, 1, 2, 3] rfl) (rfl)⟩ ?_
    intro i H locs ls hP9 ih21
    obtain ⟨hi9, hG, hS, hl⟩ := hP9
    have hw8 := hw9.1 k (by omega)
    refine lv_iload_n hx hb dX5_passesDay_21 rfl (lv_at hl 0 rfl) ?_
    refine lv_aload_n hx hb dX5_passesDay_22 rfl (lv_at hl 3 rfl) ?_
    refine lv_iload_n hx hb dX5_passesDay_23 rfl (lv_at hl 1 rfl) ?_
    refine lv_iconst (v := 3) hx hb dX5_passesDay_24 (by decide) ?_
    refine g_cVi (As := [.int (nI k), .int 3]) (rest := [.int (nI i)]) hx hb hml hown hts hK hA hG hS (k_X5_of l D cy N L F hN mt (g_ageL (g_ageS (upd ms 0 (ms 0 + 1)) k) k i) ma mv mn mb ml mp mw mr mq mh k 3 (by omega)) (cwV 2 hts gX5_passesDay_X5_of rfl rfl rfl (by decide +kernel) ⟨Nat.le_of_ble_eq_true rfl, Nat.le_of_ble_eq_true rfl⟩) i162 mW_o (ci := 5) rfl rfl rfl rfl hl.1 (Nat.le_of_ble_eq_true rfl) dX5_passesDay_25 ⟨Nat.zero_le _, Nat.zero_le _⟩ (fun H locs hG hS => ?_)
    refine lv_toN (k := Nn (g_ageS (upd ms 0 (ms 0 + 1)) k) k) (by rw [g_ageL_at _ (fun i hi => by omega)]; exact hw8.1) ?_
    refine lv_icmp_ge (tgt := 57) hx hb dX5_passesDay_28 (by decide) (fun c_28 => ?_) (fun c_28 => ?_)
    · skip
      have c_28 : (Nn (g_ageS (upd ms 0 (ms 0 + 1)) k) k) ≤ i := (nI_leI (a := Nn (g_ageS (upd ms 0 (ms 0 + 1)) k) k) (b := i) (by omega) (by omega)).mp c_28
      refine lv_iinc (v := nI (k + 1)) (lv' := [(2, .int (nI (k + 1))), (3, .int (nI i)), (1, .int 0), (0, .ref (L 162))]) hx hb dX5_passesDay_57 hl (k := 1) rfl (nI_add k 1) (by decide) rfl (fun ls hl => ?_)
      refine lv_goto (tgt := 14) hx hb dX5_passesDay_60 (by decide) ?_
      have hl : lv_has ls 4 [(2, .int (nI (k + 1))), (1, .int 0), (0, .ref (L 162))] := lv_sub hl [0, 2, 3] rfl
      exact ih14 (k + 1) _ _ _ (by omega) ⟨by omega, hG.to (by rw [show i = Nn (g_ageS (upd ms 0 (ms 0 + 1)) k) k by omega]; rfl), hS, lv_to hl (rfl)⟩
    · skip
      have c_28 : ¬ (Nn (g_ageS (upd ms 0 (ms 0 + 1)) k) k) ≤ i := fun h9 => c_28 ((nI_leI (a := Nn (g_ageS (upd ms 0 (ms 0 + 1)) k) k) (b := i) (by omega) (by omega)).mpr h9)
      refine lv_aload_n hx hb dX5_passesDay_31 rfl (lv_at hl 3 rfl) ?_
      refine lv_iload_n hx hb dX5_passesDay_32 rfl (lv_at hl 1 rfl) ?_
      refine lv_iconst (v := 4) hx hb dX5_passesDay_33 (by decide) ?_
      refine lv_iconst (v := 2) hx hb dX5_passesDay_34 (by decide) ?_
      refine lv_iload_n hx hb dX5_passesDay_35 rfl (lv_at hl 0 rfl) ?_
      refine lv_imul hx hb dX5_passesDay_36 ?_
      refine lv_toN (k := 2 * i) (pk_mul 2 i) ?_
      refine lv_iadd hx hb dX5_passesDay_37 ?_
      refine lv_toN (k := 4 + (2 * i)) (nI_add 4 (2 * i)) ?_
      refine lv_iconst (v := 1) hx hb dX5_passesDay_38 (by decide) ?_
      refine lv_iadd hx hb dX5_passesDay_39 ?_
      refine lv_toN (k := (4 + (2 * i)) + 1) (nI_add (4 + (2 * i)) 1) ?_
      refine lv_aload_n hx hb dX5_passesDay_40 rfl (lv_at hl 3 rfl) ?_
      refine lv_iload_n hx hb dX5_passesDay_41 rfl (lv_at hl 1 rfl) ?_
      refine lv_iload_n hx hb dX5_passesDay_42 rfl (lv_at hl 0 rfl) ?_
      refine g_cVi (As := [.int (nI k), .int (nI i)]) (rest := [.int (nI ((4 + (2 * i)) + 1)), .int (nI k), .ref (L 162)]) hx hb hml hown hts hK hA hG hS (k_X5_age l D cy N L F hN mt (g_ageL (g_ageS (upd ms 0 (ms 0 + 1)) k) k i) ma mv mn mb ml mp mw mr mq mh k i (by omega)) (cwV 2 hts gX5_passesDay_X5_age rfl rfl rfl (by decide +kernel) ⟨Nat.le_of_ble_eq_true rfl, Nat.le_of_ble_eq_true rfl⟩) i162 mW_o (ci := 5) rfl rfl rfl rfl hl.1 (Nat.le_of_ble_eq_true rfl) dX5_passesDay_43 ⟨Nat.zero_le _, Nat.zero_le _⟩ (fun H locs hG hS => ?_)
      refine lv_iconst (v := 1) hx hb dX5_passesDay_46 (by decide) ?_
      refine lv_iadd hx hb dX5_passesDay_47 ?_
      refine g_cVv (As := [.int (nI k), .int (nI ((4 + (2 * i)) + 1)), .int (((g_ageL (g_ageS (upd ms 0 (ms 0 + 1)) k) k i) (10 + 24 * k + (4 + 2 * i + 1))) + 1)]) (rest := []) hx hb hml hown hts hK hA hG hS (k_X5_lay l D cy N L F hN mt (g_ageL (g_ageS (upd ms 0 (ms 0 + 1)) k) k i) ma mv mn mb ml mp mw mr mq mh k ((4 + (2 * i)) + 1) (((g_ageL (g_ageS (upd ms 0 (ms 0 + 1)) k) k i) (10 + 24 * k + (4 + 2 * i + 1))) + 1) (by omega)) (cwV 3 hts gX5_passesDay_X5_lay rfl rfl rfl (by decide +kernel) ⟨Nat.le_of_ble_eq_true rfl, Nat.le_of_ble_eq_true rfl⟩) i162 mW_o (ci := 5) rfl rfl rfl rfl hl.1 (Nat.le_of_ble_eq_true rfl) dX5_passesDay_48 ⟨Nat.zero_le _, Nat.zero_le _⟩ (fun H locs hG hS => ?_)
      refine lv_iinc (v := nI (i + 1)) (lv' := [(3, .int (nI (i + 1))), (2, .int (nI k)), (1, .int 0), (0, .ref (L 162))]) hx hb dX5_passesDay_51 hl (k := 0) rfl (nI_add i 1) (by decide) rfl (fun ls hl => ?_)
      refine lv_goto (tgt := 21) hx hb dX5_passesDay_54 (by decide) ?_
      have hl : lv_has ls 4 [(3, .int (nI (i + 1))), (2, .int (nI k)), (1, .int 0), (0, .ref (L 162))] := lv_sub hl [0, 1, 2, 3] rfl
      exact ih21 (i + 1) _ _ _ (by omega) ⟨by omega, hG.to (rfl), hS, lv_to hl (rfl)⟩
set_option maxHeartbeats 4000000 in
set_option maxRecDepth 100000 in
theorem k_X5_passes (l : Launch) (D : va_G) (cy : Nat → ClassId) (N : Nat) (L : Nat → Nat) (F : Nat → va_E) (hN : 168 ≤ N) (mt : Int32) (ms ma mv : Nat → Int32) (mn : Int32) (mb : Nat → Int32) (ml mp mw : Int32) (mr : Nat → Int32) (mq : Int32) (mh : Int64) (d : Nat) (hw : wfM ms) (hd : d < 1000) : GM l D cy N L yX5_passes wsX5_passes ({ frames := 5, cells := 0, slots := 0, locals := 111 }) [.ref (L 162), .int (nI d)] (mW cy L F mt ms ma mv mn mb ml mp mw mr mq mh) (some (.int (g_daysR ms d))) (mW cy L F mt (g_daysS ms d) ma mv mn mb ml mp mw mr mq mh) := by
  refine GM.ofW (cc := cX5_passes) (maxL := 4) (ret := (some .int)) (by decide) rfl (Nat.le_of_ble_eq_true rfl) ?_
  intro p e s m below meth c ls hx hb hr hts hown hlocks hml hK hA hG hS hl
  have hl : lv_has ls 4 [(0, .ref (L 162)), (1, .int (nI d))] := hl
  have i162 : 162 < N := by omega
  have i163 : 163 < N := by omega
  have i164 : 164 < N := by omega
  have i165 : 165 < N := by omega
  have i166 : 166 < N := by omega
  have i167 : 167 < N := by omega
  refine lv_iconst (v := 0) hx hb dX5_passes_0 (by decide) ?_
  refine lv_istore_n (lv' := [(2, .int 0), (0, .ref (L 162)), (1, .int (nI d))]) hx hb dX5_passes_1 rfl hl (by decide) rfl (fun ls hl => ?_)
  refine lv_iconst (v := 0) hx hb dX5_passes_2 (by decide) ?_
  refine lv_istore_n (lv' := [(3, .int 0), (2, .int 0), (0, .ref (L 162)), (1, .int (nI d))]) hx hb dX5_passes_3 rfl hl (by decide) rfl (fun ls hl => ?_)
  refine W.loop (σ := Nat) (fun i H locs ls => (i ≤ d) ∧ GW D N L (gA N L s.heap.size) (mW cy L F mt (g_daysS ms i) ma mv mn mb ml mp mw mr mq mh) H ∧ va_S (gA N L s.heap.size) s.heap H locs ∧ lv_has ls 4 [(2, .int (g_daysR ms i)), (3, .int (nI i)), (0, .ref (L 162)), (1, .int (nI d))]) (fun i => d - i) 0 ⟨by omega, hG.to (rfl), hS, lv_to (lv_sub hl [1, 0, 2, 3] rfl) (rfl)⟩ ?_
  intro i H locs ls hP9 ih4
  obtain ⟨hi9, hG, hS, hl⟩ := hP9
  refine lv_iload_n hx hb dX5_passes_4 rfl (lv_at hl 1 rfl) ?_
  refine lv_iload_n hx hb dX5_passes_5 rfl (lv_at hl 3 rfl) ?_
  refine lv_icmp_ge (tgt := 22) hx hb dX5_passes_6 (by decide) (fun c_6 => ?_) (fun c_6 => ?_)
  · skip
    have c_6 : d ≤ i := (nI_leI (a := d) (b := i) (by omega) (by omega)).mp c_6
    refine lv_iload_n hx hb dX5_passes_22 rfl (lv_at hl 0 rfl) ?_
    exact g_iret hx hb hr hlocks hK hG hS rfl dX5_passes_23 ⟨(congrArg (fun z9 => some (Value.int z9)) (by rw [show i = d by omega])), (by rw [show i = d by omega])⟩
  · skip
    have c_6 : ¬ d ≤ i := fun h9 => c_6 ((nI_leI (a := d) (b := i) (by omega) (by omega)).mpr h9)
    refine lv_iload_n hx hb dX5_passes_9 rfl (lv_at hl 0 rfl) ?_
    refine lv_aload_n hx hb dX5_passes_10 rfl (lv_at hl 2 rfl) ?_
    refine g_cVi (As := []) (rest := [.int (g_daysR ms i)]) hx hb hml hown hts hK hA hG hS (k_X5_passesDay l D cy N L F hN mt (g_daysS ms i) ma mv mn mb ml mp mw mr mq mh  (wfM_days hw i)) (cwV 0 hts gX5_passes_X5_passesDay rfl rfl rfl (by decide +kernel) ⟨Nat.le_of_ble_eq_true rfl, Nat.le_of_ble_eq_true rfl⟩) i162 mW_o (ci := 5) rfl rfl rfl rfl hl.1 (Nat.le_of_ble_eq_true rfl) dX5_passes_11 ⟨Nat.zero_le _, Nat.zero_le _⟩ (fun H locs hG hS => ?_)
    refine lv_iadd hx hb dX5_passes_14 ?_
    refine lv_istore_n (lv' := [(2, .int ((g_daysR ms i) + (g_dayR (g_daysS ms i)))), (3, .int (nI i)), (0, .ref (L 162)), (1, .int (nI d))]) hx hb dX5_passes_15 rfl hl (by decide) rfl (fun ls hl => ?_)
    refine lv_iinc (v := nI (i + 1)) (lv' := [(3, .int (nI (i + 1))), (2, .int ((g_daysR ms i) + (g_dayR (g_daysS ms i)))), (0, .ref (L 162)), (1, .int (nI d))]) hx hb dX5_passes_16 hl (k := 1) rfl (nI_add i 1) (by decide) rfl (fun ls hl => ?_)
    refine lv_goto (tgt := 4) hx hb dX5_passes_19 (by decide) ?_
    have hl : lv_has ls 4 [(2, .int ((g_daysR ms i) + (g_dayR (g_daysS ms i)))), (3, .int (nI (i + 1))), (0, .ref (L 162)), (1, .int (nI d))] := lv_sub hl [1, 0, 2, 3] rfl
    exact ih4 (i + 1) _ _ _ (by omega) ⟨by omega, hG.to (rfl), hS, lv_to hl (rfl)⟩
set_option maxHeartbeats 4000000 in
set_option maxRecDepth 100000 in
theorem k_X5_tellsSilo (l : Launch) (D : va_G) (cy : Nat → ClassId) (N : Nat) (L : Nat → Nat) (F : Nat → va_E) (hN : 168 ≤ N) (mt : Int32) (ms ma mv : Nat → Int32) (mn : Int32) (mb : Nat → Int32) (ml mp mw : Int32) (mr : Nat → Int32) (mq : Int32) (mh : Int64) (k n : Nat) (v : Int32) (hk : k < 4) (hn : ms (10 + 24 * k + 3) = nI n) (hn10 : n ≤ 10) : GM l D cy N L yX5_tellsSilo wsX5_tellsSilo ({ frames := 4, cells := 0, slots := 0, locals := 89 }) [.ref (L 162), .int (nI k), .int v] (mW cy L F mt ms ma mv mn mb ml mp mw mr mq mh) (some (.int (g_tellS ms k n v))) (mW cy L F mt ms ma mv mn mb ml mp mw mr mq mh) := by
  refine GM.ofW (cc := cX5_tellsSilo) (maxL := 3) (ret := (some .int)) (by decide) rfl (Nat.le_of_ble_eq_true rfl) ?_
  intro p e s m below meth c ls hx hb hr hts hown hlocks hml hK hA hG hS hl
  have hl : lv_has ls 3 [(0, .ref (L 162)), (1, .int (nI k)), (2, .int v)] := hl
  have i162 : 162 < N := by omega
  have i163 : 163 < N := by omega
  have i164 : 164 < N := by omega
  have i165 : 165 < N := by omega
  have i166 : 166 < N := by omega
  have i167 : 167 < N := by omega
  refine lv_iload_n hx hb dX5_tellsSilo_0 rfl (lv_at hl 2 rfl) ?_
  refine lv_toI (y := v) rfl ?_
  by_cases c_1_0 : v = 0
  · skip
    refine lv_tableIn (off := 35) (tgt := 36) hx hb dX5_tellsSilo_1 (by rw [c_1_0]; decide) (by rw [c_1_0]; decide) (by rw [c_1_0]; decide) (by decide) ?_
    refine lv_aload_n hx hb dX5_tellsSilo_36 rfl (lv_at hl 0 rfl) ?_
    refine lv_iload_n hx hb dX5_tellsSilo_37 rfl (lv_at hl 1 rfl) ?_
    refine lv_iconst (v := 0) hx hb dX5_tellsSilo_38 (by decide) ?_
    refine g_cVi (As := [.int (nI k), .int 0]) (rest := []) hx hb hml hown hts hK hA hG hS (k_X5_sumFrom l D cy N L F hN mt ms ma mv mn mb ml mp mw mr mq mh k 0 n (by omega) (hn) (by omega) (by omega)) (cwV 2 hts gX5_tellsSilo_X5_sumFrom rfl rfl rfl (by decide +kernel) ⟨Nat.le_of_ble_eq_true rfl, Nat.le_of_ble_eq_true rfl⟩) i162 mW_o (ci := 5) rfl rfl rfl rfl hl.1 (Nat.le_of_ble_eq_true rfl) dX5_tellsSilo_39 ⟨Nat.zero_le _, Nat.zero_le _⟩ (fun H locs hG hS => ?_)
    exact g_iret hx hb hr hlocks hK hG hS rfl dX5_tellsSilo_42 ⟨(congrArg (fun z9 => some (Value.int z9)) (by first | (simp only [g_tellS, eq_true c_1_0, if_true, if_false, not_true_eq_false, not_false_eq_true]; done) | (simp [g_tellS, eq_true c_1_0]; done) | rfl)), rfl⟩
  by_cases c_1_1 : v = 1
  · skip
    refine lv_tableIn (off := 42) (tgt := 43) hx hb dX5_tellsSilo_1 (by rw [c_1_1]; decide) (by rw [c_1_1]; decide) (by rw [c_1_1]; decide) (by decide) ?_
    refine lv_aload_n hx hb dX5_tellsSilo_43 rfl (lv_at hl 0 rfl) ?_
    refine lv_iload_n hx hb dX5_tellsSilo_44 rfl (lv_at hl 1 rfl) ?_
    refine lv_iconst (v := 3) hx hb dX5_tellsSilo_45 (by decide) ?_
    refine g_cVi (As := [.int (nI k), .int 3]) (rest := []) hx hb hml hown hts hK hA hG hS (k_X5_of l D cy N L F hN mt ms ma mv mn mb ml mp mw mr mq mh k 3 (by omega)) (cwV 2 hts gX5_tellsSilo_X5_of rfl rfl rfl (by decide +kernel) ⟨Nat.le_of_ble_eq_true rfl, Nat.le_of_ble_eq_true rfl⟩) i162 mW_o (ci := 5) rfl rfl rfl rfl hl.1 (Nat.le_of_ble_eq_true rfl) dX5_tellsSilo_46 ⟨Nat.zero_le _, Nat.zero_le _⟩ (fun H locs hG hS => ?_)
    exact g_iret hx hb hr hlocks hK hG hS rfl dX5_tellsSilo_49 ⟨(congrArg (fun z9 => some (Value.int z9)) (by first | (simp only [g_tellS, c_1_0, eq_true c_1_1, if_true, if_false, not_true_eq_false, not_false_eq_true]; done) | (simp [g_tellS, c_1_0, eq_true c_1_1]; done) | rfl)), rfl⟩
  by_cases c_1_2 : v = 2
  · skip
    refine lv_tableIn (off := 49) (tgt := 50) hx hb dX5_tellsSilo_1 (by rw [c_1_2]; decide) (by rw [c_1_2]; decide) (by rw [c_1_2]; decide) (by decide) ?_
    refine lv_aload_n hx hb dX5_tellsSilo_50 rfl (lv_at hl 0 rfl) ?_
    refine lv_iload_n hx hb dX5_tellsSilo_51 rfl (lv_at hl 1 rfl) ?_
    refine lv_iconst (v := 0) hx hb dX5_tellsSilo_52 (by decide) ?_
    refine g_cVi (As := [.int (nI k), .int 0]) (rest := []) hx hb hml hown hts hK hA hG hS (k_X5_of l D cy N L F hN mt ms ma mv mn mb ml mp mw mr mq mh k 0 (by omega)) (cwV 2 hts gX5_tellsSilo_X5_of rfl rfl rfl (by decide +kernel) ⟨Nat.le_of_ble_eq_true rfl, Nat.le_of_ble_eq_true rfl⟩) i162 mW_o (ci := 5) rfl rfl rfl rfl hl.1 (Nat.le_of_ble_eq_true rfl) dX5_tellsSilo_53 ⟨Nat.zero_le _, Nat.zero_le _⟩ (fun H locs hG hS => ?_)
    exact g_iret hx hb hr hlocks hK hG hS rfl dX5_tellsSilo_56 ⟨(congrArg (fun z9 => some (Value.int z9)) (by first | (simp only [g_tellS, c_1_0, c_1_1, eq_true c_1_2, if_true, if_false, not_true_eq_false, not_false_eq_true]; done) | (simp [g_tellS, c_1_0, c_1_1, eq_true c_1_2]; done) | rfl)), rfl⟩
  by_cases c_1_3 : v = 3
  · skip
    refine lv_tableIn (off := 56) (tgt := 57) hx hb dX5_tellsSilo_1 (by rw [c_1_3]; decide) (by rw [c_1_3]; decide) (by rw [c_1_3]; decide) (by decide) ?_
    refine lv_aload_n hx hb dX5_tellsSilo_57 rfl (lv_at hl 0 rfl) ?_
    refine lv_iload_n hx hb dX5_tellsSilo_58 rfl (lv_at hl 1 rfl) ?_
    refine lv_iconst (v := 1) hx hb dX5_tellsSilo_59 (by decide) ?_
    refine g_cVi (As := [.int (nI k), .int 1]) (rest := []) hx hb hml hown hts hK hA hG hS (k_X5_of l D cy N L F hN mt ms ma mv mn mb ml mp mw mr mq mh k 1 (by omega)) (cwV 2 hts gX5_tellsSilo_X5_of rfl rfl rfl (by decide +kernel) ⟨Nat.le_of_ble_eq_true rfl, Nat.le_of_ble_eq_true rfl⟩) i162 mW_o (ci := 5) rfl rfl rfl rfl hl.1 (Nat.le_of_ble_eq_true rfl) dX5_tellsSilo_60 ⟨Nat.zero_le _, Nat.zero_le _⟩ (fun H locs hG hS => ?_)
    refine lv_if_le (tgt := 70) hx hb dX5_tellsSilo_63 (by decide) (fun c_63 => ?_) (fun c_63 => ?_)
    · skip
      refine lv_iconst (v := 0) hx hb dX5_tellsSilo_70 (by decide) ?_
      exact g_iret hx hb hr hlocks hK hG hS rfl dX5_tellsSilo_71 ⟨(congrArg (fun z9 => some (Value.int z9)) (by first | (simp only [g_tellS, c_1_0, c_1_1, c_1_2, eq_true c_1_3, c_63, if_true, if_false, not_true_eq_false, not_false_eq_true]; done) | (simp [g_tellS, c_1_0, c_1_1, c_1_2, eq_true c_1_3, c_63]; done) | rfl)), rfl⟩
    · skip
      refine lv_iconst (v := 1) hx hb dX5_tellsSilo_66 (by decide) ?_
      refine lv_goto (tgt := 71) hx hb dX5_tellsSilo_67 (by decide) ?_
      exact g_iret hx hb hr hlocks hK hG hS rfl dX5_tellsSilo_71 ⟨(congrArg (fun z9 => some (Value.int z9)) (by first | (simp only [g_tellS, c_1_0, c_1_1, c_1_2, eq_true c_1_3, c_63, if_true, if_false, not_true_eq_false, not_false_eq_true]; done) | (simp [g_tellS, c_1_0, c_1_1, c_1_2, eq_true c_1_3, c_63]; done) | rfl)), rfl⟩
  by_cases c_1_4 : v = 4
  · skip
    refine lv_tableIn (off := 71) (tgt := 72) hx hb dX5_tellsSilo_1 (by rw [c_1_4]; decide) (by rw [c_1_4]; decide) (by rw [c_1_4]; decide) (by decide) ?_
    refine lv_aload_n hx hb dX5_tellsSilo_72 rfl (lv_at hl 0 rfl) ?_
    refine lv_iload_n hx hb dX5_tellsSilo_73 rfl (lv_at hl 1 rfl) ?_
    refine lv_iconst (v := 2) hx hb dX5_tellsSilo_74 (by decide) ?_
    refine g_cVi (As := [.int (nI k), .int 2]) (rest := []) hx hb hml hown hts hK hA hG hS (k_X5_of l D cy N L F hN mt ms ma mv mn mb ml mp mw mr mq mh k 2 (by omega)) (cwV 2 hts gX5_tellsSilo_X5_of rfl rfl rfl (by decide +kernel) ⟨Nat.le_of_ble_eq_true rfl, Nat.le_of_ble_eq_true rfl⟩) i162 mW_o (ci := 5) rfl rfl rfl rfl hl.1 (Nat.le_of_ble_eq_true rfl) dX5_tellsSilo_75 ⟨Nat.zero_le _, Nat.zero_le _⟩ (fun H locs hG hS => ?_)
    exact g_iret hx hb hr hlocks hK hG hS rfl dX5_tellsSilo_78 ⟨(congrArg (fun z9 => some (Value.int z9)) (by first | (simp only [g_tellS, c_1_0, c_1_1, c_1_2, c_1_3, eq_true c_1_4, if_true, if_false, not_true_eq_false, not_false_eq_true]; done) | (simp [g_tellS, c_1_0, c_1_1, c_1_2, c_1_3, eq_true c_1_4]; done) | rfl)), rfl⟩
  refine lv_tableOut (tgt := 79) hx hb dX5_tellsSilo_1 (by have q0 := sw_ne (n := 0) (by decide) c_1_0; have q1 := sw_ne (n := 1) (by decide) c_1_1; have q2 := sw_ne (n := 2) (by decide) c_1_2; have q3 := sw_ne (n := 3) (by decide) c_1_3; have q4 := sw_ne (n := 4) (by decide) c_1_4; omega) (by decide) ?_
  refine lv_aload_n hx hb dX5_tellsSilo_79 rfl (lv_at hl 0 rfl) ?_
  refine lv_iload_n hx hb dX5_tellsSilo_80 rfl (lv_at hl 1 rfl) ?_
  refine g_cVi (As := [.int (nI k)]) (rest := []) hx hb hml hown hts hK hA hG hS (k_X5_flows l D cy N L F hN mt ms ma mv mn mb ml mp mw mr mq mh k (by omega)) (cwV 1 hts gX5_tellsSilo_X5_flows rfl rfl rfl (by decide +kernel) ⟨Nat.le_of_ble_eq_true rfl, Nat.le_of_ble_eq_true rfl⟩) i162 mW_o (ci := 5) rfl rfl rfl rfl hl.1 (Nat.le_of_ble_eq_true rfl) dX5_tellsSilo_81 ⟨Nat.zero_le _, Nat.zero_le _⟩ (fun H locs hG hS => ?_)
  exact g_iret hx hb hr hlocks hK hG hS rfl dX5_tellsSilo_84 ⟨(congrArg (fun z9 => some (Value.int z9)) (by first | (simp only [g_tellS, c_1_0, c_1_1, c_1_2, c_1_3, c_1_4, if_true, if_false, not_true_eq_false, not_false_eq_true]; done) | (simp [g_tellS, c_1_0, c_1_1, c_1_2, c_1_3, c_1_4]; done) | rfl)), rfl⟩
set_option maxHeartbeats 4000000 in
set_option maxRecDepth 100000 in
theorem k_X5_isMoreUrgent (l : Launch) (D : va_G) (cy : Nat → ClassId) (N : Nat) (L : Nat → Nat) (F : Nat → va_E) (hN : 168 ≤ N) (mt : Int32) (ms ma mv : Nat → Int32) (mn : Int32) (mb : Nat → Int32) (ml mp mw : Int32) (mr : Nat → Int32) (mq : Int32) (mh : Int64) (k q : Nat) (hw : wfM ms) (hk : k < 4) (hq : q < 4) : GM l D cy N L yX5_isMoreUrgent wsX5_isMoreUrgent ({ frames := 3, cells := 0, slots := 0, locals := 68 }) [.ref (L 162), .int (nI k), .int (nI q)] (mW cy L F mt ms ma mv mn mb ml mp mw mr mq mh) (some (.int (g_more ms k q))) (mW cy L F mt ms ma mv mn mb ml mp mw mr mq mh) := by
  refine GM.ofW (cc := cX5_isMoreUrgent) (maxL := 4) (ret := (some .boolean)) (by decide) rfl (Nat.le_of_ble_eq_true rfl) ?_
  intro p e s m below meth c ls hx hb hr hts hown hlocks hml hK hA hG hS hl
  have hl : lv_has ls 4 [(0, .ref (L 162)), (1, .int (nI k)), (2, .int (nI q))] := hl
  have i162 : 162 < N := by omega
  have i163 : 163 < N := by omega
  have i164 : 164 < N := by omega
  have i165 : 165 < N := by omega
  have i166 : 166 < N := by omega
  have i167 : 167 < N := by omega
  refine lv_aload_n hx hb dX5_isMoreUrgent_0 rfl (lv_at hl 0 rfl) ?_
  refine lv_iload_n hx hb dX5_isMoreUrgent_1 rfl (lv_at hl 1 rfl) ?_
  refine lv_iconst (v := 0) hx hb dX5_isMoreUrgent_2 (by decide) ?_
  refine g_cVi (As := [.int (nI k), .int 0]) (rest := []) hx hb hml hown hts hK hA hG hS (k_X5_age l D cy N L F hN mt ms ma mv mn mb ml mp mw mr mq mh k 0 (by omega)) (cwV 2 hts gX5_isMoreUrgent_X5_age rfl rfl rfl (by decide +kernel) ⟨Nat.le_of_ble_eq_true rfl, Nat.le_of_ble_eq_true rfl⟩) i162 mW_o (ci := 5) rfl rfl rfl rfl hl.1 (Nat.le_of_ble_eq_true rfl) dX5_isMoreUrgent_3 ⟨Nat.zero_le _, Nat.zero_le _⟩ (fun H locs hG hS => ?_)
  refine lv_aload_n hx hb dX5_isMoreUrgent_6 rfl (lv_at hl 0 rfl) ?_
  refine lv_iload_n hx hb dX5_isMoreUrgent_7 rfl (lv_at hl 2 rfl) ?_
  refine lv_iconst (v := 0) hx hb dX5_isMoreUrgent_8 (by decide) ?_
  refine g_cVi (As := [.int (nI q), .int 0]) (rest := [.int (ms (10 + 24 * k + (4 + 2 * 0 + 1)))]) hx hb hml hown hts hK hA hG hS (k_X5_age l D cy N L F hN mt ms ma mv mn mb ml mp mw mr mq mh q 0 (by omega)) (cwV 2 hts gX5_isMoreUrgent_X5_age rfl rfl rfl (by decide +kernel) ⟨Nat.le_of_ble_eq_true rfl, Nat.le_of_ble_eq_true rfl⟩) i162 mW_o (ci := 5) rfl rfl rfl rfl hl.1 (Nat.le_of_ble_eq_true rfl) dX5_isMoreUrgent_9 ⟨Nat.zero_le _, Nat.zero_le _⟩ (fun H locs hG hS => ?_)
  refine lv_isub hx hb dX5_isMoreUrgent_12 ?_
  refine lv_istore_n (lv' := [(3, .int ((ms (10 + 24 * k + (4 + 2 * 0 + 1))) - (ms (10 + 24 * q + (4 + 2 * 0 + 1))))), (0, .ref (L 162)), (1, .int (nI k)), (2, .int (nI q))]) hx hb dX5_isMoreUrgent_13 rfl hl (by decide) rfl (fun ls hl => ?_)
  refine lv_iload_n hx hb dX5_isMoreUrgent_14 rfl (lv_at hl 0 rfl) ?_
  refine lv_if_eq (tgt := 30) hx hb dX5_isMoreUrgent_15 (by decide) (fun c_15 => ?_) (fun c_15 => ?_)
  · skip
    refine lv_aload_n hx hb dX5_isMoreUrgent_30 rfl (lv_at hl 1 rfl) ?_
    refine lv_iload_n hx hb dX5_isMoreUrgent_31 rfl (lv_at hl 2 rfl) ?_
    refine lv_iconst (v := 0) hx hb dX5_isMoreUrgent_32 (by decide) ?_
    refine g_cVi (As := [.int (nI k), .int 0]) (rest := []) hx hb hml hown hts hK hA hG hS (k_X5_sumFrom l D cy N L F hN mt ms ma mv mn mb ml mp mw mr mq mh k 0 (Nn ms k) (by omega) ((hw.1 k hk).1) ((hw.1 k hk).2) (by omega)) (cwV 2 hts gX5_isMoreUrgent_X5_sumFrom rfl rfl rfl (by decide +kernel) ⟨Nat.le_of_ble_eq_true rfl, Nat.le_of_ble_eq_true rfl⟩) i162 mW_o (ci := 5) rfl rfl rfl rfl hl.1 (Nat.le_of_ble_eq_true rfl) dX5_isMoreUrgent_33 ⟨Nat.zero_le _, Nat.zero_le _⟩ (fun H locs hG hS => ?_)
    refine lv_aload_n hx hb dX5_isMoreUrgent_36 rfl (lv_at hl 1 rfl) ?_
    refine lv_iload_n hx hb dX5_isMoreUrgent_37 rfl (lv_at hl 3 rfl) ?_
    refine lv_iconst (v := 0) hx hb dX5_isMoreUrgent_38 (by decide) ?_
    refine g_cVi (As := [.int (nI q), .int 0]) (rest := [.int (g_sum ms k 0 ((Nn ms k) - 0))]) hx hb hml hown hts hK hA hG hS (k_X5_sumFrom l D cy N L F hN mt ms ma mv mn mb ml mp mw mr mq mh q 0 (Nn ms q) (by omega) ((hw.1 q hq).1) ((hw.1 q hq).2) (by omega)) (cwV 2 hts gX5_isMoreUrgent_X5_sumFrom rfl rfl rfl (by decide +kernel) ⟨Nat.le_of_ble_eq_true rfl, Nat.le_of_ble_eq_true rfl⟩) i162 mW_o (ci := 5) rfl rfl rfl rfl hl.1 (Nat.le_of_ble_eq_true rfl) dX5_isMoreUrgent_39 ⟨Nat.zero_le _, Nat.zero_le _⟩ (fun H locs hG hS => ?_)
    refine lv_icmp_le (tgt := 49) hx hb dX5_isMoreUrgent_42 (by decide) (fun c_42 => ?_) (fun c_42 => ?_)
    · skip
      refine lv_iconst (v := 0) hx hb dX5_isMoreUrgent_49 (by decide) ?_
      exact g_iret hx hb hr hlocks hK hG hS rfl dX5_isMoreUrgent_50 ⟨(congrArg (fun z9 => some (Value.int z9)) (by first | (simp only [g_more, eq_true c_15, c_42, if_true, if_false, not_true_eq_false, not_false_eq_true]; done) | (simp [g_more, eq_true c_15, c_42]; done) | rfl)), rfl⟩
    · skip
      refine lv_iconst (v := 1) hx hb dX5_isMoreUrgent_45 (by decide) ?_
      refine lv_goto (tgt := 50) hx hb dX5_isMoreUrgent_46 (by decide) ?_
      exact g_iret hx hb hr hlocks hK hG hS rfl dX5_isMoreUrgent_50 ⟨(congrArg (fun z9 => some (Value.int z9)) (by first | (simp only [g_more, eq_true c_15, c_42, if_true, if_false, not_true_eq_false, not_false_eq_true]; done) | (simp [g_more, eq_true c_15, c_42]; done) | rfl)), rfl⟩
  · skip
    refine lv_iload_n hx hb dX5_isMoreUrgent_18 rfl (lv_at hl 0 rfl) ?_
    refine lv_if_le (tgt := 26) hx hb dX5_isMoreUrgent_19 (by decide) (fun c_19 => ?_) (fun c_19 => ?_)
    · skip
      refine lv_iconst (v := 0) hx hb dX5_isMoreUrgent_26 (by decide) ?_
      refine lv_goto (tgt := 50) hx hb dX5_isMoreUrgent_27 (by decide) ?_
      exact g_iret hx hb hr hlocks hK hG hS rfl dX5_isMoreUrgent_50 ⟨(congrArg (fun z9 => some (Value.int z9)) (by first | (simp only [g_more, c_15, c_19, if_true, if_false, not_true_eq_false, not_false_eq_true]; done) | (simp [g_more, c_15, c_19]; done) | rfl)), rfl⟩
    · skip
      refine lv_iconst (v := 1) hx hb dX5_isMoreUrgent_22 (by decide) ?_
      refine lv_goto (tgt := 50) hx hb dX5_isMoreUrgent_23 (by decide) ?_
      exact g_iret hx hb hr hlocks hK hG hS rfl dX5_isMoreUrgent_50 ⟨(congrArg (fun z9 => some (Value.int z9)) (by first | (simp only [g_more, c_15, c_19, if_true, if_false, not_true_eq_false, not_false_eq_true]; done) | (simp [g_more, c_15, c_19]; done) | rfl)), rfl⟩
set_option maxHeartbeats 4000000 in
set_option maxRecDepth 100000 in
theorem k_X5_hashes (l : Launch) (D : va_G) (cy : Nat → ClassId) (N : Nat) (L : Nat → Nat) (F : Nat → va_E) (hN : 168 ≤ N) (mt : Int32) (ms ma mv : Nat → Int32) (mn : Int32) (mb : Nat → Int32) (ml mp mw : Int32) (mr : Nat → Int32) (mq : Int32) (mh : Int64) (v : Int64)  : GM l D cy N L yX5_hashes wsX5_hashes ({ frames := 0, cells := 0, slots := 0, locals := 0 }) [.ref (L 162), .long v] (mW cy L F mt ms ma mv mn mb ml mp mw mr mq mh) (none) (mW cy L F mt ms ma mv mn mb ml mp mw mr mq (31 * mh + v)) := by
  refine GM.ofW (cc := cX5_hashes) (maxL := 3) (ret := none) (by decide) rfl (Nat.le_of_ble_eq_true rfl) ?_
  intro p e s m below meth c ls hx hb hr hts hown hlocks hml hK hA hG hS hl
  have hl : lv_has ls 3 [(0, .ref (L 162)), (1, .long v)] := hl
  have i162 : 162 < N := by omega
  have i163 : 163 < N := by omega
  have i164 : 164 < N := by omega
  have i165 : 165 < N := by omega
  have i166 : 166 < N := by omega
  have i167 : 167 < N := by omega
  have hf202 := hts (.fieldLink RX5 202 "SiloPadsModel" "hash" "J") (by decide +kernel)
  have hinX5 : ∀ w ∈ u_ws RX5 TX5 12, w ∈ wsX5_hashes := by decide +kernel
  refine lv_aload_n hx hb dX5_hashes_0 rfl (lv_at hl 0 rfl) ?_
  refine lv_ldc2 (v := 31) hx hb hown (hts (.constantLong RX5 200 31) (by decide +kernel)) dX5_hashes_1 ?_
  refine lv_aload_n hx hb dX5_hashes_4 rfl (lv_at hl 0 rfl) ?_
  refine g_get (ci := 5) (C := RX5) (T := TX5) (M := 12) hx hb hts hinX5 hown hK hG i162 mW_o rfl 11 (by decide) hf202 rfl rfl dX5_hashes_5 ?_
  refine lv_lmul hx hb dX5_hashes_8 ?_
  refine lv_lload_n hx hb dX5_hashes_9 rfl (lv_at hl 1 rfl) ?_
  refine lv_ladd hx hb dX5_hashes_10 ?_
  refine g_put (ci := 5) (C := RX5) (T := TX5) (M := 12) (ty := .long) hx hb hts hinX5 tyX5 tyX5_ok nmX5 hown hK hG hS i162 mW_o rfl 11 (by decide) hf202 rfl rfl rfl rfl rfl (Nat.le_of_ble_eq_true rfl) dX5_hashes_11 rfl (fun H locs hG hS => ?_)
  have hG := hG.to mW_uo
  exact g_vret hx hb hr hlocks hK hG hS dX5_hashes_14 ⟨rfl, (by rfl)⟩
set_option maxHeartbeats 4000000 in
set_option maxRecDepth 100000 in
theorem k_X5_wouldFlow (l : Launch) (D : va_G) (cy : Nat → ClassId) (N : Nat) (L : Nat → Nat) (F : Nat → va_E) (hN : 168 ≤ N) (mt : Int32) (ms ma mv : Nat → Int32) (mn : Int32) (mb : Nat → Int32) (ml mp mw : Int32) (mr : Nat → Int32) (mq : Int32) (mh : Int64) (k j q : Nat) (d : Int32) (hk : k < 4) (hj : j < 6) (hq : q < 100) (hw : wfM ms) : GM l D cy N L yX5_wouldFlow wsX5_wouldFlow ({ frames := 6, cells := 0, slots := 0, locals := 139 }) [.ref (L 162), .int (nI k), .int (nI j), .int (nI q), .int d] (mW cy L F mt ms ma mv mn mb ml mp mw mr mq mh) (some (.int (g_hoursR (upd ms (10 + 24 * k + 0) d) k j q))) (mW cy L F mt ms (cpN ma ms (0) (0) 118) mv mn mb ml mp mw mr mq mh) := by
  refine GM.ofW (cc := cX5_wouldFlow) (maxL := 6) (ret := (some .int)) (by decide) rfl (Nat.le_of_ble_eq_true rfl) ?_
  intro p e s m below meth c ls hx hb hr hts hown hlocks hml hK hA hG hS hl
  have hl : lv_has ls 6 [(0, .ref (L 162)), (1, .int (nI k)), (2, .int (nI j)), (3, .int (nI q)), (4, .int d)] := hl
  have i162 : 162 < N := by omega
  have i163 : 163 < N := by omega
  have i164 : 164 < N := by omega
  have i165 : 165 < N := by omega
  have i166 : 166 < N := by omega
  have i167 : 167 < N := by omega
  refine lv_aload_n hx hb dX5_wouldFlow_0 rfl (lv_at hl 0 rfl) ?_
  refine g_cVv (As := []) (rest := []) hx hb hml hown hts hK hA hG hS (k_X5_putAside l D cy N L F hN mt ms ma mv mn mb ml mp mw mr mq mh  ) (cwV 0 hts gX5_wouldFlow_X5_putAside rfl rfl rfl (by decide +kernel) ⟨Nat.le_of_ble_eq_true rfl, Nat.le_of_ble_eq_true rfl⟩) i162 mW_o (ci := 5) rfl rfl rfl rfl hl.1 (Nat.le_of_ble_eq_true rfl) dX5_wouldFlow_1 ⟨Nat.zero_le _, Nat.zero_le _⟩ (fun H locs hG hS => ?_)
  refine lv_aload_n hx hb dX5_wouldFlow_4 rfl (lv_at hl 0 rfl) ?_
  refine lv_iload_n hx hb dX5_wouldFlow_5 rfl (lv_at hl 1 rfl) ?_
  refine lv_iconst (v := 0) hx hb dX5_wouldFlow_6 (by decide) ?_
  refine lv_iload hx hb dX5_wouldFlow_7 (lv_at hl 4 rfl) ?_
  refine g_cVv (As := [.int (nI k), .int 0, .int d]) (rest := []) hx hb hml hown hts hK hA hG hS (k_X5_lay l D cy N L F hN mt ms (cpN ma ms (0) (0) 118) mv mn mb ml mp mw mr mq mh k 0 d (by omega)) (cwV 3 hts gX5_wouldFlow_X5_lay rfl rfl rfl (by decide +kernel) ⟨Nat.le_of_ble_eq_true rfl, Nat.le_of_ble_eq_true rfl⟩) i162 mW_o (ci := 5) rfl rfl rfl rfl hl.1 (Nat.le_of_ble_eq_true rfl) dX5_wouldFlow_9 ⟨Nat.zero_le _, Nat.zero_le _⟩ (fun H locs hG hS => ?_)
  refine lv_aload_n hx hb dX5_wouldFlow_12 rfl (lv_at hl 0 rfl) ?_
  refine lv_iload_n hx hb dX5_wouldFlow_13 rfl (lv_at hl 1 rfl) ?_
  refine lv_iload_n hx hb dX5_wouldFlow_14 rfl (lv_at hl 2 rfl) ?_
  refine lv_iload_n hx hb dX5_wouldFlow_15 rfl (lv_at hl 3 rfl) ?_
  refine g_cVi (As := [.int (nI k), .int (nI j), .int (nI q)]) (rest := []) hx hb hml hown hts hK hA hG hS (k_X5_flowsAll l D cy N L F hN mt (upd ms (10 + 24 * k + 0) d) (cpN ma ms (0) (0) 118) mv mn mb ml mp mw mr mq mh k j q (by omega) (by omega) (by omega) (wfM_upd hw (by omega) (fun k hk => by omega))) (cwV 3 hts gX5_wouldFlow_X5_flowsAll rfl rfl rfl (by decide +kernel) ⟨Nat.le_of_ble_eq_true rfl, Nat.le_of_ble_eq_true rfl⟩) i162 mW_o (ci := 5) rfl rfl rfl rfl hl.1 (Nat.le_of_ble_eq_true rfl) dX5_wouldFlow_16 ⟨Nat.zero_le _, Nat.zero_le _⟩ (fun H locs hG hS => ?_)
  refine lv_istore (lv' := [(5, .int (g_hoursR (upd ms (10 + 24 * k + 0) d) k j q)), (0, .ref (L 162)), (1, .int (nI k)), (2, .int (nI j)), (3, .int (nI q)), (4, .int d)]) hx hb dX5_wouldFlow_19 hl (by decide) rfl (fun ls hl => ?_)
  refine lv_aload_n hx hb dX5_wouldFlow_21 rfl (lv_at hl 1 rfl) ?_
  refine g_cVv (As := []) (rest := []) hx hb hml hown hts hK hA hG hS (k_X5_takeBack l D cy N L F hN mt (g_hoursS (upd ms (10 + 24 * k + 0) d) k j q) (cpN ma ms (0) (0) 118) mv mn mb ml mp mw mr mq mh  ) (cwV 0 hts gX5_wouldFlow_X5_takeBack rfl rfl rfl (by decide +kernel) ⟨Nat.le_of_ble_eq_true rfl, Nat.le_of_ble_eq_true rfl⟩) i162 mW_o (ci := 5) rfl rfl rfl rfl hl.1 (Nat.le_of_ble_eq_true rfl) dX5_wouldFlow_22 ⟨Nat.zero_le _, Nat.zero_le _⟩ (fun H locs hG hS => ?_)
  have hG : GW D N L _ (mW cy L F mt ms (cpN ma ms (0) (0) 118) mv mn mb ml mp mw mr mq mh) _ := mW_ms hG (fun i hi => cpN_back hi)
  refine lv_iload hx hb dX5_wouldFlow_25 (lv_at hl 0 rfl) ?_
  exact g_iret hx hb hr hlocks hK hG hS rfl dX5_wouldFlow_27 ⟨rfl, rfl⟩
set_option maxHeartbeats 4000000 in
set_option maxRecDepth 100000 in
theorem k_X5_saves (l : Launch) (D : va_G) (cy : Nat → ClassId) (N : Nat) (L : Nat → Nat) (F : Nat → va_E) (hN : 168 ≤ N) (mt : Int32) (ms ma mv : Nat → Int32) (mn : Int32) (mb : Nat → Int32) (ml mp mw : Int32) (mr : Nat → Int32) (mq : Int32) (mh : Int64) (n : Nat) (hn6 : n ≤ 6) : GM l D cy N L yX5_saves wsX5_saves ({ frames := 0, cells := 0, slots := 0, locals := 0 }) [.ref (L 162)] (mW cy L F mt ms ma mv (nI n) mb ml mp mw mr mq mh) (none) (mW cy L F mt ms ma (g_saveV mv ms n) (nI (g_saveN n)) mb ml mp mw mr mq mh) := by
  refine GM.ofW (cc := cX5_saves) (maxL := 2) (ret := none) (by decide) rfl (Nat.le_of_ble_eq_true rfl) ?_
  intro p e s m below meth c ls hx hb hr hts hown hlocks hml hK hA hG hS hl
  have hl : lv_has ls 2 [(0, .ref (L 162))] := hl
  have i162 : 162 < N := by omega
  have i163 : 163 < N := by omega
  have i164 : 164 < N := by omega
  have i165 : 165 < N := by omega
  have i166 : 166 < N := by omega
  have i167 : 167 < N := by omega
  have hf37 := hts (.fieldLink RX5 37 "SiloPadsModel" "savedMany" "I") (by decide +kernel)
  have hinX5 : ∀ w ∈ u_ws RX5 TX5 12, w ∈ wsX5_saves := by decide +kernel
  have hf16 := hts (.fieldLink RX5 16 "SiloPadsModel" "saved" "[I") (by decide +kernel)
  have hf7 := hts (.fieldLink RX5 7 "SiloPadsModel" "s" "[I") (by decide +kernel)
  refine W.cut (pc2 := 49) (st2 := []) (P := fun H locs ls => (True) ∧ GW D N L (gA N L s.heap.size) (mW cy L F mt ms ma (g_saveU mv n) (nI (g_saveM n)) mb ml mp mw mr mq mh) H ∧ va_S (gA N L s.heap.size) s.heap H locs ∧ lv_has ls 2 [(0, .ref (L 162))]) (fun hcut49 => ?_) (fun H locs ls hP9 => ?_)
  · skip
    refine lv_aload_n hx hb dX5_saves_0 rfl (lv_at hl 0 rfl) ?_
    refine g_get (ci := 5) (C := RX5) (T := TX5) (M := 12) hx hb hts hinX5 hown hK hG i162 mW_o rfl 4 (by decide) hf37 rfl rfl dX5_saves_1 ?_
    refine lv_bipush (v := 6) hx hb dX5_saves_4 (by decide) ?_
    refine lv_icmp_ne (tgt := 49) hx hb dX5_saves_6 (by decide) (fun c_6 => ?_) (fun c_6 => ?_)
    · skip
      have c_6 : ¬ n = 6 := fun h9 => c_6 ((nI_eq (a := n) (b := 6) (by omega) (by omega)).mpr h9)
      have hl : lv_has ls 2 [(0, .ref (L 162))] := lv_sub hl [0] rfl
      exact hcut49 _ _ _ ⟨trivial, hG.to (by first | (simp only [g_saveU, g_saveM, c_6, if_true, if_false]; done) | (have hk8 : k = 590 := (by omega); have hn8 : n = 6 := (by assumption); subst hk8; subst hn8; rfl)), hS, lv_to hl (rfl)⟩
    · skip
      have c_6 : n = 6 := (nI_eq (a := n) (b := 6) (by omega) (by omega)).mp c_6
      refine lv_iconst (v := 0) hx hb dX5_saves_9 (by decide) ?_
      refine lv_istore_n (lv' := [(1, .int 0), (0, .ref (L 162))]) hx hb dX5_saves_10 rfl hl (by decide) rfl (fun ls hl => ?_)
      refine W.loop (σ := Nat) (fun k H locs ls => (k ≤ 590) ∧ GW D N L (gA N L s.heap.size) (mW cy L F mt ms ma (cpN mv mv (0) (118) k) (nI n) mb ml mp mw mr mq mh) H ∧ va_S (gA N L s.heap.size) s.heap H locs ∧ lv_has ls 2 [(1, .int (nI k)), (0, .ref (L 162))]) (fun k => 590 - k) 0 ⟨by omega, hG.to (by rw [cpN_0]), hS, lv_to (lv_sub hl [0, 1] rfl) (rfl)⟩ ?_
      intro k H locs ls hP9 ih11
      obtain ⟨hk9, hG, hS, hl⟩ := hP9
      refine lv_iload_n hx hb dX5_saves_11 rfl (lv_at hl 0 rfl) ?_
      refine lv_sipush (v := 590) hx hb dX5_saves_12 (by decide) ?_
      refine lv_icmp_ge (tgt := 39) hx hb dX5_saves_15 (by decide) (fun c_15 => ?_) (fun c_15 => ?_)
      · skip
        have c_15 : 590 ≤ k := (nI_leI (a := 590) (b := k) (by omega) (by omega)).mp c_15
        refine lv_aload_n hx hb dX5_saves_39 rfl (lv_at hl 1 rfl) ?_
        refine lv_dup hx hb dX5_saves_40 rfl ?_
        refine g_get (ci := 5) (C := RX5) (T := TX5) (M := 12) hx hb hts hinX5 hown hK hG i162 mW_o rfl 4 (by decide) hf37 rfl rfl dX5_saves_41 ?_
        refine lv_iconst (v := 1) hx hb dX5_saves_44 (by decide) ?_
        refine lv_isub hx hb dX5_saves_45 ?_
        refine lv_toN (k := n - 1) (pk_sub (a := n) (b := 1) (by omega)) ?_
        refine g_put (ci := 5) (C := RX5) (T := TX5) (M := 12) (ty := .int) hx hb hts hinX5 tyX5 tyX5_ok nmX5 hown hK hG hS i162 mW_o rfl 4 (by decide) hf37 rfl rfl rfl rfl rfl (Nat.le_of_ble_eq_true rfl) dX5_saves_46 rfl (fun H locs hG hS => ?_)
        have hG := hG.to mW_uo
        have hl : lv_has ls 2 [(0, .ref (L 162))] := lv_sub hl [1] rfl
        exact hcut49 _ _ _ ⟨trivial, hG.to (by first | (simp only [g_saveU, g_saveM, eq_true c_6, c_15, if_true, if_false]; done) | (have hk8 : k = 590 := (by omega); have hn8 : n = 6 := (by assumption); subst hk8; subst hn8; rfl)), hS, lv_to hl (rfl)⟩
      · skip
        have c_15 : ¬ 590 ≤ k := fun h9 => c_15 ((nI_leI (a := 590) (b := k) (by omega) (by omega)).mpr h9)
        refine lv_aload_n hx hb dX5_saves_18 rfl (lv_at hl 1 rfl) ?_
        refine g_get (ci := 5) (C := RX5) (T := TX5) (M := 12) hx hb hts hinX5 hown hK hG i162 mW_o rfl 3 (by decide) hf16 rfl rfl dX5_saves_19 ?_
        refine lv_iload_n hx hb dX5_saves_22 rfl (lv_at hl 0 rfl) ?_
        refine lv_aload_n hx hb dX5_saves_23 rfl (lv_at hl 1 rfl) ?_
        refine g_get (ci := 5) (C := RX5) (T := TX5) (M := 12) hx hb hts hinX5 hown hK hG i162 mW_o rfl 3 (by decide) hf16 rfl rfl dX5_saves_24 ?_
        refine lv_iload_n hx hb dX5_saves_27 rfl (lv_at hl 0 rfl) ?_
        refine lv_bipush (v := 118) hx hb dX5_saves_28 (by decide) ?_
        refine lv_iadd hx hb dX5_saves_30 ?_
        refine lv_toN (k := k + 118) (nI_add k 118) ?_
        refine g_iald hx hb hK hG i165 mW_a165 (k := k + 118) rfl (by omega) (by decide) dX5_saves_31 ?_
        refine g_iast hx hb hK hG hS i165 mW_a165 (k := k) rfl (by omega) (by decide) dX5_saves_32 (fun H locs hG hS => ?_)
        have hG := hG.to mW_uv
        refine lv_iinc (v := nI (k + 1)) (lv' := [(1, .int (nI (k + 1))), (0, .ref (L 162))]) hx hb dX5_saves_33 hl (k := 0) rfl (nI_add k 1) (by decide) rfl (fun ls hl => ?_)
        refine lv_goto (tgt := 11) hx hb dX5_saves_36 (by decide) ?_
        have hl : lv_has ls 2 [(1, .int (nI (k + 1))), (0, .ref (L 162))] := lv_sub hl [0, 1] rfl
        exact ih11 (k + 1) _ _ _ (by omega) ⟨by omega, hG.to (by rw [cpN_own (by omega), show upd (cpN mv mv (0) (118) k) k (mv (k + 118)) = cpN mv mv (0) (118) (k + 1) by simpa using cpN_s (f := mv) (g := mv) (d := 0) (a := 118) (k := k)]), hS, lv_to hl (rfl)⟩
  · obtain ⟨-, hG, hS, hl⟩ := hP9
    have hM9 : g_saveM n ≤ 5 := g_saveM_le hn6
    refine lv_iconst (v := 0) hx hb dX5_saves_49 (by decide) ?_
    refine lv_istore_n (lv' := [(1, .int 0), (0, .ref (L 162))]) hx hb dX5_saves_50 rfl hl (by decide) rfl (fun ls hl => ?_)
    refine W.loop (σ := Nat) (fun k H locs ls => (k ≤ 118) ∧ GW D N L (gA N L s.heap.size) (mW cy L F mt ms ma (cpN (g_saveU mv n) ms (118 * g_saveM n) (0) k) (nI (g_saveM n)) mb ml mp mw mr mq mh) H ∧ va_S (gA N L s.heap.size) s.heap H locs ∧ lv_has ls 2 [(1, .int (nI k)), (0, .ref (L 162))]) (fun k => 118 - k) 0 ⟨by omega, hG.to (by rw [cpN_0]), hS, lv_to (lv_sub hl [0, 1] rfl) (rfl)⟩ ?_
    intro k H locs ls hP9 ih51
    obtain ⟨hk9, hG, hS, hl⟩ := hP9
    refine lv_iload_n hx hb dX5_saves_51 rfl (lv_at hl 0 rfl) ?_
    refine lv_bipush (v := 118) hx hb dX5_saves_52 (by decide) ?_
    refine lv_icmp_ge (tgt := 83) hx hb dX5_saves_54 (by decide) (fun c_54 => ?_) (fun c_54 => ?_)
    · skip
      have c_54 : 118 ≤ k := (nI_leI (a := 118) (b := k) (by omega) (by omega)).mp c_54
      refine lv_aload_n hx hb dX5_saves_83 rfl (lv_at hl 1 rfl) ?_
      refine lv_dup hx hb dX5_saves_84 rfl ?_
      refine g_get (ci := 5) (C := RX5) (T := TX5) (M := 12) hx hb hts hinX5 hown hK hG i162 mW_o rfl 4 (by decide) hf37 rfl rfl dX5_saves_85 ?_
      refine lv_iconst (v := 1) hx hb dX5_saves_88 (by decide) ?_
      refine lv_iadd hx hb dX5_saves_89 ?_
      refine lv_toN (k := (g_saveM n) + 1) (nI_add (g_saveM n) 1) ?_
      refine g_put (ci := 5) (C := RX5) (T := TX5) (M := 12) (ty := .int) hx hb hts hinX5 tyX5 tyX5_ok nmX5 hown hK hG hS i162 mW_o rfl 4 (by decide) hf37 rfl rfl rfl rfl rfl (Nat.le_of_ble_eq_true rfl) dX5_saves_90 rfl (fun H locs hG hS => ?_)
      have hG := hG.to mW_uo
      exact g_vret hx hb hr hlocks hK hG hS dX5_saves_93 ⟨rfl, (by rw [show k = 118 by omega]; rfl)⟩
    · skip
      have c_54 : ¬ 118 ≤ k := fun h9 => c_54 ((nI_leI (a := 118) (b := k) (by omega) (by omega)).mpr h9)
      refine lv_aload_n hx hb dX5_saves_57 rfl (lv_at hl 1 rfl) ?_
      refine g_get (ci := 5) (C := RX5) (T := TX5) (M := 12) hx hb hts hinX5 hown hK hG i162 mW_o rfl 3 (by decide) hf16 rfl rfl dX5_saves_58 ?_
      refine lv_bipush (v := 118) hx hb dX5_saves_61 (by decide) ?_
      refine lv_aload_n hx hb dX5_saves_63 rfl (lv_at hl 1 rfl) ?_
      refine g_get (ci := 5) (C := RX5) (T := TX5) (M := 12) hx hb hts hinX5 hown hK hG i162 mW_o rfl 4 (by decide) hf37 rfl rfl dX5_saves_64 ?_
      refine lv_imul hx hb dX5_saves_67 ?_
      refine lv_toN (k := 118 * (g_saveM n)) (pk_mul 118 (g_saveM n)) ?_
      refine lv_iload_n hx hb dX5_saves_68 rfl (lv_at hl 0 rfl) ?_
      refine lv_iadd hx hb dX5_saves_69 ?_
      refine lv_toN (k := (118 * (g_saveM n)) + k) (nI_add (118 * (g_saveM n)) k) ?_
      refine lv_aload_n hx hb dX5_saves_70 rfl (lv_at hl 1 rfl) ?_
      refine g_get (ci := 5) (C := RX5) (T := TX5) (M := 12) hx hb hts hinX5 hown hK hG i162 mW_o rfl 1 (by decide) hf7 rfl rfl dX5_saves_71 ?_
      refine lv_iload_n hx hb dX5_saves_74 rfl (lv_at hl 0 rfl) ?_
      refine g_iald hx hb hK hG i163 mW_a163 (k := k) rfl (by omega) (by decide) dX5_saves_75 ?_
      refine g_iast hx hb hK hG hS i165 mW_a165 (k := (118 * (g_saveM n)) + k) rfl (by omega) (by decide) dX5_saves_76 (fun H locs hG hS => ?_)
      have hG := hG.to mW_uv
      refine lv_iinc (v := nI (k + 1)) (lv' := [(1, .int (nI (k + 1))), (0, .ref (L 162))]) hx hb dX5_saves_77 hl (k := 0) rfl (nI_add k 1) (by decide) rfl (fun ls hl => ?_)
      refine lv_goto (tgt := 51) hx hb dX5_saves_80 (by decide) ?_
      have hl : lv_has ls 2 [(1, .int (nI (k + 1))), (0, .ref (L 162))] := lv_sub hl [0, 1] rfl
      exact ih51 (k + 1) _ _ _ (by omega) ⟨by omega, hG.to (by rw [show upd (cpN (g_saveU mv n) ms (118 * g_saveM n) (0) k) (118 * g_saveM n + k) (ms k) = cpN (g_saveU mv n) ms (118 * g_saveM n) (0) (k + 1) from cpN_s]), hS, lv_to hl (rfl)⟩
set_option maxHeartbeats 4000000 in
set_option maxRecDepth 100000 in
theorem k_X5_undo_ok (l : Launch) (D : va_G) (cy : Nat → ClassId) (N : Nat) (L : Nat → Nat) (F : Nat → va_E) (hN : 168 ≤ N) (mt : Int32) (ms ma mv : Nat → Int32) (mn : Int32) (mb : Nat → Int32) (ml mp mw : Int32) (mr : Nat → Int32) (mq : Int32) (mh : Int64) (n : Nat) (hn6 : n < 6) : GM l D cy N L yX5_undo wsX5_undo ({ frames := 1, cells := 0, slots := 0, locals := 21 }) [.ref (L 162)] (mW cy L F mt ms ma mv (nI (n + 1)) mb ml mp mw mr mq mh) (some (.int (nI n))) (mW cy L F 0 (cpN ms mv (0) (118 * n) 118) ma mv (nI n) mb ml mp mw mr mq mh) := by
  refine GM.ofW (cc := cX5_undo) (maxL := 2) (ret := (some .int)) (by decide) rfl (Nat.le_of_ble_eq_true rfl) ?_
  intro p e s m below meth c ls hx hb hr hts hown hlocks hml hK hA hG hS hl
  have hl : lv_has ls 2 [(0, .ref (L 162))] := hl
  have i162 : 162 < N := by omega
  have i163 : 163 < N := by omega
  have i164 : 164 < N := by omega
  have i165 : 165 < N := by omega
  have i166 : 166 < N := by omega
  have i167 : 167 < N := by omega
  have hf25 := hts (.fieldLink RX5 25 "SiloPadsModel" "thrown" "I") (by decide +kernel)
  have hinX5 : ∀ w ∈ u_ws RX5 TX5 12, w ∈ wsX5_undo := by decide +kernel
  have hf37 := hts (.fieldLink RX5 37 "SiloPadsModel" "savedMany" "I") (by decide +kernel)
  have hf7 := hts (.fieldLink RX5 7 "SiloPadsModel" "s" "[I") (by decide +kernel)
  have hf16 := hts (.fieldLink RX5 16 "SiloPadsModel" "saved" "[I") (by decide +kernel)
  refine lv_aload_n hx hb dX5_undo_0 rfl (lv_at hl 0 rfl) ?_
  refine lv_iconst (v := 0) hx hb dX5_undo_1 (by decide) ?_
  refine g_put (ci := 5) (C := RX5) (T := TX5) (M := 12) (ty := .int) hx hb hts hinX5 tyX5 tyX5_ok nmX5 hown hK hG hS i162 mW_o rfl 0 (by decide) hf25 rfl rfl rfl rfl rfl (Nat.le_of_ble_eq_true rfl) dX5_undo_2 rfl (fun H locs hG hS => ?_)
  have hG := hG.to mW_uo
  refine lv_aload_n hx hb dX5_undo_5 rfl (lv_at hl 0 rfl) ?_
  refine g_get (ci := 5) (C := RX5) (T := TX5) (M := 12) hx hb hts hinX5 hown hK hG i162 mW_o rfl 4 (by decide) hf37 rfl rfl dX5_undo_6 ?_
  refine lv_if_ne (tgt := 18) hx hb dX5_undo_9 (by decide) (fun c_9 => ?_) (fun c_9 => ?_)
  · skip
    have c_9 : ¬ (n + 1) = 0 := fun h9 => c_9 ((nI_eq (a := (n + 1)) (b := 0) (by omega) (by omega)).mpr h9)
    refine lv_aload_n hx hb dX5_undo_18 rfl (lv_at hl 0 rfl) ?_
    refine lv_dup hx hb dX5_undo_19 rfl ?_
    refine g_get (ci := 5) (C := RX5) (T := TX5) (M := 12) hx hb hts hinX5 hown hK hG i162 mW_o rfl 4 (by decide) hf37 rfl rfl dX5_undo_20 ?_
    refine lv_iconst (v := 1) hx hb dX5_undo_23 (by decide) ?_
    refine lv_isub hx hb dX5_undo_24 ?_
    refine lv_toN (k := (n + 1) - 1) (pk_sub (a := (n + 1)) (b := 1) (by omega)) ?_
    refine lv_toN (k := n) (rfl) ?_
    refine g_put (ci := 5) (C := RX5) (T := TX5) (M := 12) (ty := .int) hx hb hts hinX5 tyX5 tyX5_ok nmX5 hown hK hG hS i162 mW_o rfl 4 (by decide) hf37 rfl rfl rfl rfl rfl (Nat.le_of_ble_eq_true rfl) dX5_undo_25 rfl (fun H locs hG hS => ?_)
    have hG := hG.to mW_uo
    refine lv_iconst (v := 0) hx hb dX5_undo_28 (by decide) ?_
    refine lv_istore_n (lv' := [(1, .int 0), (0, .ref (L 162))]) hx hb dX5_undo_29 rfl hl (by decide) rfl (fun ls hl => ?_)
    refine W.loop (σ := Nat) (fun k H locs ls => (k ≤ 118) ∧ GW D N L (gA N L s.heap.size) (mW cy L F 0 (cpN ms mv (0) (118 * n) k) ma mv (nI n) mb ml mp mw mr mq mh) H ∧ va_S (gA N L s.heap.size) s.heap H locs ∧ lv_has ls 2 [(1, .int (nI k)), (0, .ref (L 162))]) (fun k => 118 - k) 0 ⟨by omega, hG.to (by rw [cpN_0]), hS, lv_to (lv_sub hl [0, 1] rfl) (rfl)⟩ ?_
    intro k H locs ls hP9 ih30
    obtain ⟨hk9, hG, hS, hl⟩ := hP9
    refine lv_iload_n hx hb dX5_undo_30 rfl (lv_at hl 0 rfl) ?_
    refine lv_bipush (v := 118) hx hb dX5_undo_31 (by decide) ?_
    refine lv_icmp_ge (tgt := 62) hx hb dX5_undo_33 (by decide) (fun c_33 => ?_) (fun c_33 => ?_)
    · skip
      have c_33 : 118 ≤ k := (nI_leI (a := 118) (b := k) (by omega) (by omega)).mp c_33
      refine lv_aload_n hx hb dX5_undo_62 rfl (lv_at hl 1 rfl) ?_
      refine g_get (ci := 5) (C := RX5) (T := TX5) (M := 12) hx hb hts hinX5 hown hK hG i162 mW_o rfl 4 (by decide) hf37 rfl rfl dX5_undo_63 ?_
      exact g_iret hx hb hr hlocks hK hG hS rfl dX5_undo_66 ⟨rfl, (by rw [show k = 118 by omega])⟩
    · skip
      have c_33 : ¬ 118 ≤ k := fun h9 => c_33 ((nI_leI (a := 118) (b := k) (by omega) (by omega)).mpr h9)
      refine lv_aload_n hx hb dX5_undo_36 rfl (lv_at hl 1 rfl) ?_
      refine g_get (ci := 5) (C := RX5) (T := TX5) (M := 12) hx hb hts hinX5 hown hK hG i162 mW_o rfl 1 (by decide) hf7 rfl rfl dX5_undo_37 ?_
      refine lv_iload_n hx hb dX5_undo_40 rfl (lv_at hl 0 rfl) ?_
      refine lv_aload_n hx hb dX5_undo_41 rfl (lv_at hl 1 rfl) ?_
      refine g_get (ci := 5) (C := RX5) (T := TX5) (M := 12) hx hb hts hinX5 hown hK hG i162 mW_o rfl 3 (by decide) hf16 rfl rfl dX5_undo_42 ?_
      refine lv_bipush (v := 118) hx hb dX5_undo_45 (by decide) ?_
      refine lv_aload_n hx hb dX5_undo_47 rfl (lv_at hl 1 rfl) ?_
      refine g_get (ci := 5) (C := RX5) (T := TX5) (M := 12) hx hb hts hinX5 hown hK hG i162 mW_o rfl 4 (by decide) hf37 rfl rfl dX5_undo_48 ?_
      refine lv_imul hx hb dX5_undo_51 ?_
      refine lv_toN (k := 118 * n) (pk_mul 118 n) ?_
      refine lv_iload_n hx hb dX5_undo_52 rfl (lv_at hl 0 rfl) ?_
      refine lv_iadd hx hb dX5_undo_53 ?_
      refine lv_toN (k := (118 * n) + k) (nI_add (118 * n) k) ?_
      refine g_iald hx hb hK hG i165 mW_a165 (k := (118 * n) + k) rfl (by omega) (by decide) dX5_undo_54 ?_
      refine g_iast hx hb hK hG hS i163 mW_a163 (k := k) rfl (by omega) (by decide) dX5_undo_55 (fun H locs hG hS => ?_)
      have hG := hG.to mW_us
      refine lv_iinc (v := nI (k + 1)) (lv' := [(1, .int (nI (k + 1))), (0, .ref (L 162))]) hx hb dX5_undo_56 hl (k := 0) rfl (nI_add k 1) (by decide) rfl (fun ls hl => ?_)
      refine lv_goto (tgt := 30) hx hb dX5_undo_59 (by decide) ?_
      have hl : lv_has ls 2 [(1, .int (nI (k + 1))), (0, .ref (L 162))] := lv_sub hl [0, 1] rfl
      exact ih30 (k + 1) _ _ _ (by omega) ⟨by omega, hG.to (by rw [show upd (cpN ms mv (0) (118 * n) k) k (mv (118 * n + k)) = cpN ms mv (0) (118 * n) (k + 1) by simpa [Nat.add_comm] using cpN_s (f := ms) (g := mv) (d := 0) (a := 118 * n) (k := k)]), hS, lv_to hl (rfl)⟩
  · skip
    exact absurd c_9 (nI_ne0 (by omega) (by omega))
set_option maxHeartbeats 4000000 in
set_option maxRecDepth 100000 in
theorem k_X5_undo_no (l : Launch) (D : va_G) (cy : Nat → ClassId) (N : Nat) (L : Nat → Nat) (F : Nat → va_E) (hN : 168 ≤ N) (mt : Int32) (ms ma mv : Nat → Int32) (mn : Int32) (mb : Nat → Int32) (ml mp mw : Int32) (mr : Nat → Int32) (mq : Int32) (mh : Int64)   : GM l D cy N L yX5_undo wsX5_undo ({ frames := 1, cells := 0, slots := 0, locals := 21 }) [.ref (L 162)] (mW cy L F mt ms ma mv 0 mb ml mp mw mr mq mh) (some (.int 0)) (mW cy L F 1 ms ma mv 0 mb ml mp mw mr mq mh) := by
  refine GM.ofW (cc := cX5_undo) (maxL := 2) (ret := (some .int)) (by decide) rfl (Nat.le_of_ble_eq_true rfl) ?_
  intro p e s m below meth c ls hx hb hr hts hown hlocks hml hK hA hG hS hl
  have hl : lv_has ls 2 [(0, .ref (L 162))] := hl
  have i162 : 162 < N := by omega
  have i163 : 163 < N := by omega
  have i164 : 164 < N := by omega
  have i165 : 165 < N := by omega
  have i166 : 166 < N := by omega
  have i167 : 167 < N := by omega
  have hf25 := hts (.fieldLink RX5 25 "SiloPadsModel" "thrown" "I") (by decide +kernel)
  have hinX5 : ∀ w ∈ u_ws RX5 TX5 12, w ∈ wsX5_undo := by decide +kernel
  have hf37 := hts (.fieldLink RX5 37 "SiloPadsModel" "savedMany" "I") (by decide +kernel)
  refine lv_aload_n hx hb dX5_undo_0 rfl (lv_at hl 0 rfl) ?_
  refine lv_iconst (v := 0) hx hb dX5_undo_1 (by decide) ?_
  refine g_put (ci := 5) (C := RX5) (T := TX5) (M := 12) (ty := .int) hx hb hts hinX5 tyX5 tyX5_ok nmX5 hown hK hG hS i162 mW_o rfl 0 (by decide) hf25 rfl rfl rfl rfl rfl (Nat.le_of_ble_eq_true rfl) dX5_undo_2 rfl (fun H locs hG hS => ?_)
  have hG := hG.to mW_uo
  refine lv_aload_n hx hb dX5_undo_5 rfl (lv_at hl 0 rfl) ?_
  refine g_get (ci := 5) (C := RX5) (T := TX5) (M := 12) hx hb hts hinX5 hown hK hG i162 mW_o rfl 4 (by decide) hf37 rfl rfl dX5_undo_6 ?_
  refine lv_if_ne (tgt := 18) hx hb dX5_undo_9 (by decide) (fun c_9 => ?_) (fun c_9 => ?_)
  · skip
    exact absurd c_9 (by decide)
  · skip
    refine lv_aload_n hx hb dX5_undo_12 rfl (lv_at hl 0 rfl) ?_
    refine lv_iconst (v := 1) hx hb dX5_undo_13 (by decide) ?_
    refine g_cVi (As := [.int 1]) (rest := []) hx hb hml hown hts hK hA hG hS (k_X5_fails l D cy N L F hN 0 ms ma mv 0 mb ml mp mw mr mq mh 1 ) (cwV 1 hts gX5_undo_X5_fails rfl rfl rfl (by decide +kernel) ⟨Nat.le_of_ble_eq_true rfl, Nat.le_of_ble_eq_true rfl⟩) i162 mW_o (ci := 5) rfl rfl rfl rfl hl.1 (Nat.le_of_ble_eq_true rfl) dX5_undo_14 ⟨Nat.zero_le _, Nat.zero_le _⟩ (fun H locs hG hS => ?_)
    exact g_iret hx hb hr hlocks hK hG hS rfl dX5_undo_17 ⟨rfl, rfl⟩
