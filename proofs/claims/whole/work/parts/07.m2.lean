set_option maxHeartbeats 4000000 in
set_option maxRecDepth 100000 in
theorem k_X5_drops (l : Launch) (D : va_G) (cy : Nat → ClassId) (N : Nat) (L : Nat → Nat) (F : Nat → va_E) (hN : 168 ≤ N) (mt : Int32) (ms ma mv : Nat → Int32) (mn : Int32) (mb : Nat → Int32) (ml mp mw : Int32) (mr : Nat → Int32) (mq : Int32) (mh : Int64) (k n : Nat) (hk : k < 4) (hn : ms (10 + 24 * k + 3) = nI n) (hn10 : n ≤ 10) (hn1 : 1 ≤ n) : GM l D cy N L yX5_drops wsX5_drops ({ frames := 1, cells := 0, slots := 0, locals := 23 }) [.ref (L 162), .int (nI k)] (mW cy L F mt ms ma mv mn mb ml mp mw mr mq mh) (none) (mW cy L F mt (g_drops ms k n) ma mv mn mb ml mp mw mr mq mh) := by
  refine GM.ofW (cc := cX5_drops) (maxL := 4) (ret := none) (by decide) rfl (Nat.le_of_ble_eq_true rfl) ?_
  intro p e s m below meth c ls hx hb hr hts hown hlocks hml hK hA hG hS hl
  have hl : lv_has ls 4 [(0, .ref (L 162)), (1, .int (nI k))] := hl
  have i162 : 162 < N := by omega
  have i163 : 163 < N := by omega
  have i164 : 164 < N := by omega
  have i165 : 165 < N := by omega
  have i166 : 166 < N := by omega
  have i167 : 167 < N := by omega
  refine lv_aload_n hx hb dX5_drops_0 rfl (lv_at hl 0 rfl) ?_
  refine lv_iload_n hx hb dX5_drops_1 rfl (lv_at hl 1 rfl) ?_
  refine lv_iconst (v := 3) hx hb dX5_drops_2 (by decide) ?_
  refine g_cVi (As := [.int (nI k), .int 3]) (rest := []) hx hb hml hown hts hK hA hG hS (k_X5_of l D cy N L F hN mt ms ma mv mn mb ml mp mw mr mq mh k 3 (by omega)) (cwV 2 hts gX5_drops_X5_of rfl rfl rfl (by decide +kernel) ⟨Nat.le_of_ble_eq_true rfl, Nat.le_of_ble_eq_true rfl⟩) i162 mW_o (ci := 5) rfl rfl rfl rfl hl.1 (Nat.le_of_ble_eq_true rfl) dX5_drops_3 ⟨Nat.zero_le _, Nat.zero_le _⟩ (fun H locs hG hS => ?_)
  refine lv_toN (k := n) (hn) ?_
  refine lv_iconst (v := 1) hx hb dX5_drops_6 (by decide) ?_
  refine lv_isub hx hb dX5_drops_7 ?_
  refine lv_toN (k := n - 1) (pk_sub (a := n) (b := 1) (by omega)) ?_
  refine lv_istore_n (lv' := [(2, .int (nI (n - 1))), (0, .ref (L 162)), (1, .int (nI k))]) hx hb dX5_drops_8 rfl hl (by decide) rfl (fun ls hl => ?_)
  refine lv_aload_n hx hb dX5_drops_9 rfl (lv_at hl 1 rfl) ?_
  refine lv_iload_n hx hb dX5_drops_10 rfl (lv_at hl 2 rfl) ?_
  refine lv_iconst (v := 3) hx hb dX5_drops_11 (by decide) ?_
  refine lv_iload_n hx hb dX5_drops_12 rfl (lv_at hl 0 rfl) ?_
  refine g_cVv (As := [.int (nI k), .int 3, .int (nI (n - 1))]) (rest := []) hx hb hml hown hts hK hA hG hS (k_X5_lay l D cy N L F hN mt ms ma mv mn mb ml mp mw mr mq mh k 3 (nI (n - 1)) (by omega)) (cwV 3 hts gX5_drops_X5_lay rfl rfl rfl (by decide +kernel) ⟨Nat.le_of_ble_eq_true rfl, Nat.le_of_ble_eq_true rfl⟩) i162 mW_o (ci := 5) rfl rfl rfl rfl hl.1 (Nat.le_of_ble_eq_true rfl) dX5_drops_13 ⟨Nat.zero_le _, Nat.zero_le _⟩ (fun H locs hG hS => ?_)
  refine lv_iconst (v := 4) hx hb dX5_drops_16 (by decide) ?_
  refine lv_istore_n (lv' := [(3, .int 4), (2, .int (nI (n - 1))), (0, .ref (L 162)), (1, .int (nI k))]) hx hb dX5_drops_17 rfl hl (by decide) rfl (fun ls hl => ?_)
  refine W.loop (σ := Nat) (fun i H locs ls => (i ≤ 2 * (n - 1)) ∧ GW D N L (gA N L s.heap.size) (mW cy L F mt (cpN (g_drop1 ms k n) (g_drop1 ms k n) (10 + 24 * k + 4) (10 + 24 * k + 6) i) ma mv mn mb ml mp mw mr mq mh) H ∧ va_S (gA N L s.heap.size) s.heap H locs ∧ lv_has ls 4 [(3, .int (nI (4 + i))), (2, .int (nI (n - 1))), (0, .ref (L 162)), (1, .int (nI k))]) (fun i => 2 * (n - 1) - i) 0 ⟨by omega, hG.to (by rw [cpN_0]; rfl), hS, lv_to (lv_sub hl [0, 1, 2, 3] rfl) (rfl)⟩ ?_
  intro i H locs ls hP9 ih18
  obtain ⟨hi9, hG, hS, hl⟩ := hP9
  refine lv_iload_n hx hb dX5_drops_18 rfl (lv_at hl 0 rfl) ?_
  refine lv_iconst (v := 4) hx hb dX5_drops_19 (by decide) ?_
  refine lv_iconst (v := 2) hx hb dX5_drops_20 (by decide) ?_
  refine lv_iload_n hx hb dX5_drops_21 rfl (lv_at hl 1 rfl) ?_
  refine lv_imul hx hb dX5_drops_22 ?_
  refine lv_toN (k := 2 * (n - 1)) (pk_mul 2 (n - 1)) ?_
  refine lv_iadd hx hb dX5_drops_23 ?_
  refine lv_toN (k := 4 + (2 * (n - 1))) (nI_add 4 (2 * (n - 1))) ?_
  refine lv_icmp_ge (tgt := 47) hx hb dX5_drops_24 (by decide) (fun c_24 => ?_) (fun c_24 => ?_)
  · skip
    have c_24 : (4 + (2 * (n - 1))) ≤ (4 + i) := (nI_leI (a := 4 + (2 * (n - 1))) (b := 4 + i) (by omega) (by omega)).mp c_24
    have hie : i = 2 * (n - 1) := by omega
    refine lv_aload_n hx hb dX5_drops_47 rfl (lv_at hl 2 rfl) ?_
    refine lv_iload_n hx hb dX5_drops_48 rfl (lv_at hl 3 rfl) ?_
    refine lv_iconst (v := 4) hx hb dX5_drops_49 (by decide) ?_
    refine lv_iconst (v := 2) hx hb dX5_drops_50 (by decide) ?_
    refine lv_iload_n hx hb dX5_drops_51 rfl (lv_at hl 1 rfl) ?_
    refine lv_imul hx hb dX5_drops_52 ?_
    refine lv_toN (k := 2 * (n - 1)) (pk_mul 2 (n - 1)) ?_
    refine lv_iadd hx hb dX5_drops_53 ?_
    refine lv_toN (k := 4 + (2 * (n - 1))) (nI_add 4 (2 * (n - 1))) ?_
    refine lv_iconst (v := 0) hx hb dX5_drops_54 (by decide) ?_
    refine g_cVv (As := [.int (nI k), .int (nI (4 + (2 * (n - 1)))), .int 0]) (rest := []) hx hb hml hown hts hK hA hG hS (k_X5_lay l D cy N L F hN mt (cpN (g_drop1 ms k n) (g_drop1 ms k n) (10 + 24 * k + 4) (10 + 24 * k + 6) i) ma mv mn mb ml mp mw mr mq mh k (4 + (2 * (n - 1))) 0 (by omega)) (cwV 3 hts gX5_drops_X5_lay rfl rfl rfl (by decide +kernel) ⟨Nat.le_of_ble_eq_true rfl, Nat.le_of_ble_eq_true rfl⟩) i162 mW_o (ci := 5) rfl rfl rfl rfl hl.1 (Nat.le_of_ble_eq_true rfl) dX5_drops_55 ⟨Nat.zero_le _, Nat.zero_le _⟩ (fun H locs hG hS => ?_)
    refine lv_aload_n hx hb dX5_drops_58 rfl (lv_at hl 2 rfl) ?_
    refine lv_iload_n hx hb dX5_drops_59 rfl (lv_at hl 3 rfl) ?_
    refine lv_iconst (v := 4) hx hb dX5_drops_60 (by decide) ?_
    refine lv_iconst (v := 2) hx hb dX5_drops_61 (by decide) ?_
    refine lv_iload_n hx hb dX5_drops_62 rfl (lv_at hl 1 rfl) ?_
    refine lv_imul hx hb dX5_drops_63 ?_
    refine lv_toN (k := 2 * (n - 1)) (pk_mul 2 (n - 1)) ?_
    refine lv_iadd hx hb dX5_drops_64 ?_
    refine lv_toN (k := 4 + (2 * (n - 1))) (nI_add 4 (2 * (n - 1))) ?_
    refine lv_iconst (v := 1) hx hb dX5_drops_65 (by decide) ?_
    refine lv_iadd hx hb dX5_drops_66 ?_
    refine lv_toN (k := (4 + (2 * (n - 1))) + 1) (nI_add (4 + (2 * (n - 1))) 1) ?_
    refine lv_iconst (v := 0) hx hb dX5_drops_67 (by decide) ?_
    refine g_cVv (As := [.int (nI k), .int (nI ((4 + (2 * (n - 1))) + 1)), .int 0]) (rest := []) hx hb hml hown hts hK hA hG hS (k_X5_lay l D cy N L F hN mt (upd (cpN (g_drop1 ms k n) (g_drop1 ms k n) (10 + 24 * k + 4) (10 + 24 * k + 6) i) (10 + 24 * k + (4 + (2 * (n - 1)))) 0) ma mv mn mb ml mp mw mr mq mh k ((4 + (2 * (n - 1))) + 1) 0 (by omega)) (cwV 3 hts gX5_drops_X5_lay rfl rfl rfl (by decide +kernel) ⟨Nat.le_of_ble_eq_true rfl, Nat.le_of_ble_eq_true rfl⟩) i162 mW_o (ci := 5) rfl rfl rfl rfl hl.1 (Nat.le_of_ble_eq_true rfl) dX5_drops_68 ⟨Nat.zero_le _, Nat.zero_le _⟩ (fun H locs hG hS => ?_)
    refine lv_aload_n hx hb dX5_drops_71 rfl (lv_at hl 2 rfl) ?_
    refine lv_iload_n hx hb dX5_drops_72 rfl (lv_at hl 3 rfl) ?_
    refine lv_iconst (v := 1) hx hb dX5_drops_73 (by decide) ?_
    refine lv_aload_n hx hb dX5_drops_74 rfl (lv_at hl 2 rfl) ?_
    refine lv_iload_n hx hb dX5_drops_75 rfl (lv_at hl 3 rfl) ?_
    refine lv_iconst (v := 1) hx hb dX5_drops_76 (by decide) ?_
    refine g_cVi (As := [.int (nI k), .int 1]) (rest := [.int 1, .int (nI k), .ref (L 162)]) hx hb hml hown hts hK hA hG hS (k_X5_of l D cy N L F hN mt (upd (upd (cpN (g_drop1 ms k n) (g_drop1 ms k n) (10 + 24 * k + 4) (10 + 24 * k + 6) i) (10 + 24 * k + (4 + (2 * (n - 1)))) 0) (10 + 24 * k + ((4 + (2 * (n - 1))) + 1)) 0) ma mv mn mb ml mp mw mr mq mh k 1 (by omega)) (cwV 2 hts gX5_drops_X5_of rfl rfl rfl (by decide +kernel) ⟨Nat.le_of_ble_eq_true rfl, Nat.le_of_ble_eq_true rfl⟩) i162 mW_o (ci := 5) rfl rfl rfl rfl hl.1 (Nat.le_of_ble_eq_true rfl) dX5_drops_77 ⟨Nat.zero_le _, Nat.zero_le _⟩ (fun H locs hG hS => ?_)
    refine lv_iconst (v := 1) hx hb dX5_drops_80 (by decide) ?_
    refine lv_icmp_ne (tgt := 88) hx hb dX5_drops_81 (by decide) (fun c_81 => ?_) (fun c_81 => ?_)
    · skip
      refine lv_aload_n hx hb dX5_drops_88 rfl (lv_at hl 2 rfl) ?_
      refine lv_iload_n hx hb dX5_drops_89 rfl (lv_at hl 3 rfl) ?_
      refine lv_iconst (v := 1) hx hb dX5_drops_90 (by decide) ?_
      refine g_cVi (As := [.int (nI k), .int 1]) (rest := [.int 1, .int (nI k), .ref (L 162)]) hx hb hml hown hts hK hA hG hS (k_X5_of l D cy N L F hN mt (upd (upd (cpN (g_drop1 ms k n) (g_drop1 ms k n) (10 + 24 * k + 4) (10 + 24 * k + 6) i) (10 + 24 * k + (4 + (2 * (n - 1)))) 0) (10 + 24 * k + ((4 + (2 * (n - 1))) + 1)) 0) ma mv mn mb ml mp mw mr mq mh k 1 (by omega)) (cwV 2 hts gX5_drops_X5_of rfl rfl rfl (by decide +kernel) ⟨Nat.le_of_ble_eq_true rfl, Nat.le_of_ble_eq_true rfl⟩) i162 mW_o (ci := 5) rfl rfl rfl rfl hl.1 (Nat.le_of_ble_eq_true rfl) dX5_drops_91 ⟨Nat.zero_le _, Nat.zero_le _⟩ (fun H locs hG hS => ?_)
      refine g_cVv (As := [.int (nI k), .int 1, .int ((upd (upd (cpN (g_drop1 ms k n) (g_drop1 ms k n) (10 + 24 * k + 4) (10 + 24 * k + 6) i) (10 + 24 * k + (4 + (2 * (n - 1)))) 0) (10 + 24 * k + ((4 + (2 * (n - 1))) + 1)) 0) (10 + 24 * k + 1))]) (rest := []) hx hb hml hown hts hK hA hG hS (k_X5_lay l D cy N L F hN mt (upd (upd (cpN (g_drop1 ms k n) (g_drop1 ms k n) (10 + 24 * k + 4) (10 + 24 * k + 6) i) (10 + 24 * k + (4 + (2 * (n - 1)))) 0) (10 + 24 * k + ((4 + (2 * (n - 1))) + 1)) 0) ma mv mn mb ml mp mw mr mq mh k 1 ((upd (upd (cpN (g_drop1 ms k n) (g_drop1 ms k n) (10 + 24 * k + 4) (10 + 24 * k + 6) i) (10 + 24 * k + (4 + (2 * (n - 1)))) 0) (10 + 24 * k + ((4 + (2 * (n - 1))) + 1)) 0) (10 + 24 * k + 1)) (by omega)) (cwV 3 hts gX5_drops_X5_lay rfl rfl rfl (by decide +kernel) ⟨Nat.le_of_ble_eq_true rfl, Nat.le_of_ble_eq_true rfl⟩) i162 mW_o (ci := 5) rfl rfl rfl rfl hl.1 (Nat.le_of_ble_eq_true rfl) dX5_drops_94 ⟨Nat.zero_le _, Nat.zero_le _⟩ (fun H locs hG hS => ?_)
      exact g_vret hx hb hr hlocks hK hG hS dX5_drops_97 ⟨rfl, (by subst hie; simp only [g_drops, g_drop3, g_drop2, c_24, c_81, if_true, if_false])⟩
    · skip
      refine lv_iconst (v := 2) hx hb dX5_drops_84 (by decide) ?_
      refine lv_goto (tgt := 94) hx hb dX5_drops_85 (by decide) ?_
      refine g_cVv (As := [.int (nI k), .int 1, .int 2]) (rest := []) hx hb hml hown hts hK hA hG hS (k_X5_lay l D cy N L F hN mt (upd (upd (cpN (g_drop1 ms k n) (g_drop1 ms k n) (10 + 24 * k + 4) (10 + 24 * k + 6) i) (10 + 24 * k + (4 + (2 * (n - 1)))) 0) (10 + 24 * k + ((4 + (2 * (n - 1))) + 1)) 0) ma mv mn mb ml mp mw mr mq mh k 1 2 (by omega)) (cwV 3 hts gX5_drops_X5_lay rfl rfl rfl (by decide +kernel) ⟨Nat.le_of_ble_eq_true rfl, Nat.le_of_ble_eq_true rfl⟩) i162 mW_o (ci := 5) rfl rfl rfl rfl hl.1 (Nat.le_of_ble_eq_true rfl) dX5_drops_94 ⟨Nat.zero_le _, Nat.zero_le _⟩ (fun H locs hG hS => ?_)
      exact g_vret hx hb hr hlocks hK hG hS dX5_drops_97 ⟨rfl, (by subst hie; simp only [g_drops, g_drop3, g_drop2, c_24, eq_true c_81, if_true, if_false])⟩
  · skip
    have c_24 : ¬ (4 + (2 * (n - 1))) ≤ (4 + i) := fun h9 => c_24 ((nI_leI (a := 4 + (2 * (n - 1))) (b := 4 + i) (by omega) (by omega)).mpr h9)
    refine lv_aload_n hx hb dX5_drops_27 rfl (lv_at hl 2 rfl) ?_
    refine lv_iload_n hx hb dX5_drops_28 rfl (lv_at hl 3 rfl) ?_
    refine lv_iload_n hx hb dX5_drops_29 rfl (lv_at hl 0 rfl) ?_
    refine lv_aload_n hx hb dX5_drops_30 rfl (lv_at hl 2 rfl) ?_
    refine lv_iload_n hx hb dX5_drops_31 rfl (lv_at hl 3 rfl) ?_
    refine lv_iload_n hx hb dX5_drops_32 rfl (lv_at hl 0 rfl) ?_
    refine lv_iconst (v := 2) hx hb dX5_drops_33 (by decide) ?_
    refine lv_iadd hx hb dX5_drops_34 ?_
    refine lv_toN (k := (4 + i) + 2) (nI_add (4 + i) 2) ?_
    refine g_cVi (As := [.int (nI k), .int (nI ((4 + i) + 2))]) (rest := [.int (nI (4 + i)), .int (nI k), .ref (L 162)]) hx hb hml hown hts hK hA hG hS (k_X5_of l D cy N L F hN mt (cpN (g_drop1 ms k n) (g_drop1 ms k n) (10 + 24 * k + 4) (10 + 24 * k + 6) i) ma mv mn mb ml mp mw mr mq mh k ((4 + i) + 2) (by omega)) (cwV 2 hts gX5_drops_X5_of rfl rfl rfl (by decide +kernel) ⟨Nat.le_of_ble_eq_true rfl, Nat.le_of_ble_eq_true rfl⟩) i162 mW_o (ci := 5) rfl rfl rfl rfl hl.1 (Nat.le_of_ble_eq_true rfl) dX5_drops_35 ⟨Nat.zero_le _, Nat.zero_le _⟩ (fun H locs hG hS => ?_)
    refine g_cVv (As := [.int (nI k), .int (nI (4 + i)), .int ((cpN (g_drop1 ms k n) (g_drop1 ms k n) (10 + 24 * k + 4) (10 + 24 * k + 6) i) (10 + 24 * k + ((4 + i) + 2)))]) (rest := []) hx hb hml hown hts hK hA hG hS (k_X5_lay l D cy N L F hN mt (cpN (g_drop1 ms k n) (g_drop1 ms k n) (10 + 24 * k + 4) (10 + 24 * k + 6) i) ma mv mn mb ml mp mw mr mq mh k (4 + i) ((cpN (g_drop1 ms k n) (g_drop1 ms k n) (10 + 24 * k + 4) (10 + 24 * k + 6) i) (10 + 24 * k + ((4 + i) + 2))) (by omega)) (cwV 3 hts gX5_drops_X5_lay rfl rfl rfl (by decide +kernel) ⟨Nat.le_of_ble_eq_true rfl, Nat.le_of_ble_eq_true rfl⟩) i162 mW_o (ci := 5) rfl rfl rfl rfl hl.1 (Nat.le_of_ble_eq_true rfl) dX5_drops_38 ⟨Nat.zero_le _, Nat.zero_le _⟩ (fun H locs hG hS => ?_)
    refine lv_iinc (v := nI ((4 + i) + 1)) (lv' := [(3, .int (nI ((4 + i) + 1))), (2, .int (nI (n - 1))), (0, .ref (L 162)), (1, .int (nI k))]) hx hb dX5_drops_41 hl (k := 0) rfl (nI_add (4 + i) 1) (by decide) rfl (fun ls hl => ?_)
    refine lv_goto (tgt := 18) hx hb dX5_drops_44 (by decide) ?_
    have hl : lv_has ls 4 [(3, .int (nI ((4 + i) + 1))), (2, .int (nI (n - 1))), (0, .ref (L 162)), (1, .int (nI k))] := lv_sub hl [0, 1, 2, 3] rfl
    exact ih18 (i + 1) _ _ _ (by omega) ⟨by omega, hG.to (by rw [cpN_own (by omega), show 10 + 24 * k + (4 + i) = (10 + 24 * k + 4) + i by omega, show 10 + 24 * k + (4 + i + 2) = i + (10 + 24 * k + 6) by omega, cpN_s]), hS, lv_to hl (rfl)⟩
set_option maxHeartbeats 4000000 in
set_option maxRecDepth 100000 in
theorem k_X5_flowsHour (l : Launch) (D : va_G) (cy : Nat → ClassId) (N : Nat) (L : Nat → Nat) (F : Nat → va_E) (hN : 168 ≤ N) (mt : Int32) (ms ma mv : Nat → Int32) (mn : Int32) (mb : Nat → Int32) (ml mp mw : Int32) (mr : Nat → Int32) (mq : Int32) (mh : Int64) (k j n : Nat) (hk : k < 4) (hn : ms (10 + 24 * k + 3) = nI n) (hn10 : n ≤ 10) (hj : j < 6) (hz : ¬ ms 8 = 0) : GM l D cy N L yX5_flowsHour wsX5_flowsHour ({ frames := 4, cells := 0, slots := 0, locals := 89 }) [.ref (L 162), .int (nI k), .int (nI j)] (mW cy L F mt ms ma mv mn mb ml mp mw mr mq mh) (some (.int (g_hourR ms k j))) (mW cy L F mt (g_hourS ms k j n) ma mv mn mb ml mp mw mr mq mh) := by
  refine GM.ofW (cc := cX5_flowsHour) (maxL := 6) (ret := (some .int)) (by decide) rfl (Nat.le_of_ble_eq_true rfl) ?_
  intro p e s m below meth c ls hx hb hr hts hown hlocks hml hK hA hG hS hl
  have hl : lv_has ls 6 [(0, .ref (L 162)), (1, .int (nI k)), (2, .int (nI j))] := hl
  have i162 : 162 < N := by omega
  have i163 : 163 < N := by omega
  have i164 : 164 < N := by omega
  have i165 : 165 < N := by omega
  have i166 : 166 < N := by omega
  have i167 : 167 < N := by omega
  have hf7 := hts (.fieldLink RX5 7 "SiloPadsModel" "s" "[I") (by decide +kernel)
  have hinX5 : ∀ w ∈ u_ws RX5 TX5 12, w ∈ wsX5_flowsHour := by decide +kernel
  refine W.cut (pc2 := 57) (st2 := []) (P := fun H locs ls => (True) ∧ GW D N L (gA N L s.heap.size) (mW cy L F mt ms ma mv mn mb ml mp mw mr mq mh) H ∧ va_S (gA N L s.heap.size) s.heap H locs ∧ lv_has ls 6 [(4, .int (g_out ms k j)), (0, .ref (L 162)), (1, .int (nI k)), (2, .int (nI j))]) (fun hcut57 => ?_) (fun H locs ls hP9 => ?_)
  · skip
    refine lv_aload_n hx hb dX5_flowsHour_0 rfl (lv_at hl 0 rfl) ?_
    refine lv_iload_n hx hb dX5_flowsHour_1 rfl (lv_at hl 1 rfl) ?_
    refine lv_iconst (v := 3) hx hb dX5_flowsHour_2 (by decide) ?_
    refine g_cVi (As := [.int (nI k), .int 3]) (rest := []) hx hb hml hown hts hK hA hG hS (k_X5_of l D cy N L F hN mt ms ma mv mn mb ml mp mw mr mq mh k 3 (by omega)) (cwV 2 hts gX5_flowsHour_X5_of rfl rfl rfl (by decide +kernel) ⟨Nat.le_of_ble_eq_true rfl, Nat.le_of_ble_eq_true rfl⟩) i162 mW_o (ci := 5) rfl rfl rfl rfl hl.1 (Nat.le_of_ble_eq_true rfl) dX5_flowsHour_3 ⟨Nat.zero_le _, Nat.zero_le _⟩ (fun H locs hG hS => ?_)
    refine lv_if_le (tgt := 23) hx hb dX5_flowsHour_6 (by decide) (fun c_6 => ?_) (fun c_6 => ?_)
    · skip
      refine lv_iconst (v := 0) hx hb dX5_flowsHour_23 (by decide) ?_
      refine lv_istore_n (lv' := [(3, .int 0), (0, .ref (L 162)), (1, .int (nI k)), (2, .int (nI j))]) hx hb dX5_flowsHour_24 rfl hl (by decide) rfl (fun ls hl => ?_)
      refine lv_iload_n hx hb dX5_flowsHour_25 rfl (lv_at hl 0 rfl) ?_
      refine lv_if_eq (tgt := 54) hx hb dX5_flowsHour_26 (by decide) (fun c_26 => ?_) (fun c_26 => ?_)
      · skip
        refine lv_iconst (v := 0) hx hb dX5_flowsHour_54 (by decide) ?_
        refine lv_istore (lv' := [(4, .int 0), (3, .int 0), (0, .ref (L 162)), (1, .int (nI k)), (2, .int (nI j))]) hx hb dX5_flowsHour_55 hl (by decide) rfl (fun ls hl => ?_)
        have hl : lv_has ls 6 [(4, .int 0), (0, .ref (L 162)), (1, .int (nI k)), (2, .int (nI j))] := lv_sub hl [0, 2, 3, 4] rfl
        exact hcut57 _ _ _ ⟨trivial, hG.to (rfl), hS, lv_to hl (by simp only [g_out, c_6, if_true, if_false])⟩
      · skip
        exact absurd c_26 (by decide)
    · skip
      refine lv_aload_n hx hb dX5_flowsHour_9 rfl (lv_at hl 0 rfl) ?_
      refine lv_iload_n hx hb dX5_flowsHour_10 rfl (lv_at hl 1 rfl) ?_
      refine lv_iconst (v := 1) hx hb dX5_flowsHour_11 (by decide) ?_
      refine g_cVi (As := [.int (nI k), .int 1]) (rest := []) hx hb hml hown hts hK hA hG hS (k_X5_of l D cy N L F hN mt ms ma mv mn mb ml mp mw mr mq mh k 1 (by omega)) (cwV 2 hts gX5_flowsHour_X5_of rfl rfl rfl (by decide +kernel) ⟨Nat.le_of_ble_eq_true rfl, Nat.le_of_ble_eq_true rfl⟩) i162 mW_o (ci := 5) rfl rfl rfl rfl hl.1 (Nat.le_of_ble_eq_true rfl) dX5_flowsHour_12 ⟨Nat.zero_le _, Nat.zero_le _⟩ (fun H locs hG hS => ?_)
      refine lv_iconst (v := 2) hx hb dX5_flowsHour_15 (by decide) ?_
      refine lv_icmp_ge (tgt := 23) hx hb dX5_flowsHour_16 (by decide) (fun c_16 => ?_) (fun c_16 => ?_)
      · skip
        refine lv_iconst (v := 0) hx hb dX5_flowsHour_23 (by decide) ?_
        refine lv_istore_n (lv' := [(3, .int 0), (0, .ref (L 162)), (1, .int (nI k)), (2, .int (nI j))]) hx hb dX5_flowsHour_24 rfl hl (by decide) rfl (fun ls hl => ?_)
        refine lv_iload_n hx hb dX5_flowsHour_25 rfl (lv_at hl 0 rfl) ?_
        refine lv_if_eq (tgt := 54) hx hb dX5_flowsHour_26 (by decide) (fun c_26 => ?_) (fun c_26 => ?_)
        · skip
          refine lv_iconst (v := 0) hx hb dX5_flowsHour_54 (by decide) ?_
          refine lv_istore (lv' := [(4, .int 0), (3, .int 0), (0, .ref (L 162)), (1, .int (nI k)), (2, .int (nI j))]) hx hb dX5_flowsHour_55 hl (by decide) rfl (fun ls hl => ?_)
          have hl : lv_has ls 6 [(4, .int 0), (0, .ref (L 162)), (1, .int (nI k)), (2, .int (nI j))] := lv_sub hl [0, 2, 3, 4] rfl
          exact hcut57 _ _ _ ⟨trivial, hG.to (rfl), hS, lv_to hl (by simp only [g_out, c_6, c_16, if_true, if_false])⟩
        · skip
          exact absurd c_26 (by decide)
      · skip
        refine lv_iconst (v := 1) hx hb dX5_flowsHour_19 (by decide) ?_
        refine lv_goto (tgt := 24) hx hb dX5_flowsHour_20 (by decide) ?_
        refine lv_istore_n (lv' := [(3, .int 1), (0, .ref (L 162)), (1, .int (nI k)), (2, .int (nI j))]) hx hb dX5_flowsHour_24 rfl hl (by decide) rfl (fun ls hl => ?_)
        refine lv_iload_n hx hb dX5_flowsHour_25 rfl (lv_at hl 0 rfl) ?_
        refine lv_if_eq (tgt := 54) hx hb dX5_flowsHour_26 (by decide) (fun c_26 => ?_) (fun c_26 => ?_)
        · skip
          exact absurd c_26 (by decide)
        · skip
          refine lv_aload_n hx hb dX5_flowsHour_29 rfl (lv_at hl 1 rfl) ?_
          refine lv_iload_n hx hb dX5_flowsHour_30 rfl (lv_at hl 2 rfl) ?_
          refine g_cVi (As := [.int (nI k)]) (rest := []) hx hb hml hown hts hK hA hG hS (k_X5_flows l D cy N L F hN mt ms ma mv mn mb ml mp mw mr mq mh k (by omega)) (cwV 1 hts gX5_flowsHour_X5_flows rfl rfl rfl (by decide +kernel) ⟨Nat.le_of_ble_eq_true rfl, Nat.le_of_ble_eq_true rfl⟩) i162 mW_o (ci := 5) rfl rfl rfl rfl hl.1 (Nat.le_of_ble_eq_true rfl) dX5_flowsHour_31 ⟨Nat.zero_le _, Nat.zero_le _⟩ (fun H locs hG hS => ?_)
          refine lv_aload_n hx hb dX5_flowsHour_34 rfl (lv_at hl 1 rfl) ?_
          refine lv_iload_n hx hb dX5_flowsHour_35 rfl (lv_at hl 2 rfl) ?_
          refine lv_iconst (v := 0) hx hb dX5_flowsHour_36 (by decide) ?_
          refine g_cVi (As := [.int (nI k), .int 0]) (rest := [.int (g_flows ms k)]) hx hb hml hown hts hK hA hG hS (k_X5_tonnes l D cy N L F hN mt ms ma mv mn mb ml mp mw mr mq mh k 0 (by omega)) (cwV 2 hts gX5_flowsHour_X5_tonnes rfl rfl rfl (by decide +kernel) ⟨Nat.le_of_ble_eq_true rfl, Nat.le_of_ble_eq_true rfl⟩) i162 mW_o (ci := 5) rfl rfl rfl rfl hl.1 (Nat.le_of_ble_eq_true rfl) dX5_flowsHour_37 ⟨Nat.zero_le _, Nat.zero_le _⟩ (fun H locs hG hS => ?_)
          refine g_cSi (As := [.int (g_flows ms k), .int (ms (10 + 24 * k + (4 + 2 * 0)))]) (rest := []) hx hb hml hown hts hK hA hG hS (k_X5_lesser l D cy N L (mW cy L F mt ms ma mv mn mb ml mp mw mr mq mh) (g_flows ms k) (ms (10 + 24 * k + (4 + 2 * 0))) ) (g_cwS 2 hts gX5_flowsHour_X5_lesser rfl rfl rfl (by decide +kernel) ⟨Nat.le_of_ble_eq_true rfl, Nat.le_of_ble_eq_true rfl⟩) rfl rfl hl.1 (Nat.le_of_ble_eq_true rfl) dX5_flowsHour_40 ⟨Nat.zero_le _, Nat.zero_le _⟩ (fun H locs hG hS => ?_)
          refine lv_aload_n hx hb dX5_flowsHour_43 rfl (lv_at hl 1 rfl) ?_
          refine lv_iload_n hx hb dX5_flowsHour_44 rfl (lv_at hl 3 rfl) ?_
          refine g_cVi (As := [.int (nI j)]) (rest := [.int (g_min (g_flows ms k) (ms (10 + 24 * k + (4 + 2 * 0))))]) hx hb hml hown hts hK hA hG hS (k_X5_room l D cy N L F hN mt ms ma mv mn mb ml mp mw mr mq mh j (by omega)) (cwV 1 hts gX5_flowsHour_X5_room rfl rfl rfl (by decide +kernel) ⟨Nat.le_of_ble_eq_true rfl, Nat.le_of_ble_eq_true rfl⟩) i162 mW_o (ci := 5) rfl rfl rfl rfl hl.1 (Nat.le_of_ble_eq_true rfl) dX5_flowsHour_45 ⟨Nat.zero_le _, Nat.zero_le _⟩ (fun H locs hG hS => ?_)
          refine g_cSi (As := [.int (g_min (g_flows ms k) (ms (10 + 24 * k + (4 + 2 * 0)))), .int (ms (106 + 2 * j + 1) - ms (106 + 2 * j))]) (rest := []) hx hb hml hown hts hK hA hG hS (k_X5_lesser l D cy N L (mW cy L F mt ms ma mv mn mb ml mp mw mr mq mh) (g_min (g_flows ms k) (ms (10 + 24 * k + (4 + 2 * 0)))) (ms (106 + 2 * j + 1) - ms (106 + 2 * j)) ) (g_cwS 2 hts gX5_flowsHour_X5_lesser rfl rfl rfl (by decide +kernel) ⟨Nat.le_of_ble_eq_true rfl, Nat.le_of_ble_eq_true rfl⟩) rfl rfl hl.1 (Nat.le_of_ble_eq_true rfl) dX5_flowsHour_48 ⟨Nat.zero_le _, Nat.zero_le _⟩ (fun H locs hG hS => ?_)
          refine lv_goto (tgt := 55) hx hb dX5_flowsHour_51 (by decide) ?_
          refine lv_istore (lv' := [(4, .int (g_min (g_min (g_flows ms k) (ms (10 + 24 * k + (4 + 2 * 0)))) (ms (106 + 2 * j + 1) - ms (106 + 2 * j)))), (3, .int 1), (0, .ref (L 162)), (1, .int (nI k)), (2, .int (nI j))]) hx hb dX5_flowsHour_55 hl (by decide) rfl (fun ls hl => ?_)
          have hl : lv_has ls 6 [(4, .int (g_min (g_min (g_flows ms k) (ms (10 + 24 * k + (4 + 2 * 0)))) (ms (106 + 2 * j + 1) - ms (106 + 2 * j)))), (0, .ref (L 162)), (1, .int (nI k)), (2, .int (nI j))] := lv_sub hl [0, 2, 3, 4] rfl
          exact hcut57 _ _ _ ⟨trivial, hG.to (rfl), hS, lv_to hl (by simp only [g_out, c_6, c_16, if_true, if_false])⟩
  · obtain ⟨-, hG, hS, hl⟩ := hP9
    refine lv_iload hx hb dX5_flowsHour_57 (lv_at hl 0 rfl) ?_
    refine lv_aload_n hx hb dX5_flowsHour_59 rfl (lv_at hl 1 rfl) ?_
    refine g_get (ci := 5) (C := RX5) (T := TX5) (M := 12) hx hb hts hinX5 hown hK hG i162 mW_o rfl 1 (by decide) hf7 rfl rfl dX5_flowsHour_60 ?_
    refine lv_bipush (v := 8) hx hb dX5_flowsHour_63 (by decide) ?_
    refine g_iald hx hb hK hG i163 mW_a163 (k := 8) rfl (by omega) (by decide) dX5_flowsHour_65 ?_
    refine lv_idiv hx hb dX5_flowsHour_66 (hz) ?_
    refine lv_istore (lv' := [(5, .int ((g_out ms k j) / (ms 8))), (4, .int (g_out ms k j)), (0, .ref (L 162)), (1, .int (nI k)), (2, .int (nI j))]) hx hb dX5_flowsHour_67 hl (by decide) rfl (fun ls hl => ?_)
    refine lv_iload hx hb dX5_flowsHour_69 (lv_at hl 1 rfl) ?_
    refine lv_if_le (tgt := 133) hx hb dX5_flowsHour_71 (by decide) (fun c_71 => ?_) (fun c_71 => ?_)
    · skip
      refine lv_iload hx hb dX5_flowsHour_133 (lv_at hl 1 rfl) ?_
      refine lv_iload hx hb dX5_flowsHour_135 (lv_at hl 0 rfl) ?_
      refine lv_isub hx hb dX5_flowsHour_137 ?_
      exact g_iret hx hb hr hlocks hK hG hS rfl dX5_flowsHour_138 ⟨(congrArg (fun z9 => some (Value.int z9)) (rfl)), (by simp [g_hourS, g_hour1, c_71])⟩
    · skip
      have hn1 : 1 ≤ n := g_out_pos hn c_71
      refine lv_aload_n hx hb dX5_flowsHour_74 rfl (lv_at hl 2 rfl) ?_
      refine lv_iload_n hx hb dX5_flowsHour_75 rfl (lv_at hl 3 rfl) ?_
      refine lv_iconst (v := 4) hx hb dX5_flowsHour_76 (by decide) ?_
      refine lv_aload_n hx hb dX5_flowsHour_77 rfl (lv_at hl 2 rfl) ?_
      refine lv_iload_n hx hb dX5_flowsHour_78 rfl (lv_at hl 3 rfl) ?_
      refine lv_iconst (v := 0) hx hb dX5_flowsHour_79 (by decide) ?_
      refine g_cVi (As := [.int (nI k), .int 0]) (rest := [.int 4, .int (nI k), .ref (L 162)]) hx hb hml hown hts hK hA hG hS (k_X5_tonnes l D cy N L F hN mt ms ma mv mn mb ml mp mw mr mq mh k 0 (by omega)) (cwV 2 hts gX5_flowsHour_X5_tonnes rfl rfl rfl (by decide +kernel) ⟨Nat.le_of_ble_eq_true rfl, Nat.le_of_ble_eq_true rfl⟩) i162 mW_o (ci := 5) rfl rfl rfl rfl hl.1 (Nat.le_of_ble_eq_true rfl) dX5_flowsHour_80 ⟨Nat.zero_le _, Nat.zero_le _⟩ (fun H locs hG hS => ?_)
      refine lv_iload hx hb dX5_flowsHour_83 (lv_at hl 1 rfl) ?_
      refine lv_isub hx hb dX5_flowsHour_85 ?_
      refine g_cVv (As := [.int (nI k), .int 4, .int ((ms (10 + 24 * k + (4 + 2 * 0))) - (g_out ms k j))]) (rest := []) hx hb hml hown hts hK hA hG hS (k_X5_lay l D cy N L F hN mt ms ma mv mn mb ml mp mw mr mq mh k 4 ((ms (10 + 24 * k + (4 + 2 * 0))) - (g_out ms k j)) (by omega)) (cwV 3 hts gX5_flowsHour_X5_lay rfl rfl rfl (by decide +kernel) ⟨Nat.le_of_ble_eq_true rfl, Nat.le_of_ble_eq_true rfl⟩) i162 mW_o (ci := 5) rfl rfl rfl rfl hl.1 (Nat.le_of_ble_eq_true rfl) dX5_flowsHour_86 ⟨Nat.zero_le _, Nat.zero_le _⟩ (fun H locs hG hS => ?_)
      refine lv_aload_n hx hb dX5_flowsHour_89 rfl (lv_at hl 2 rfl) ?_
      refine g_get (ci := 5) (C := RX5) (T := TX5) (M := 12) hx hb hts hinX5 hown hK hG i162 mW_o rfl 1 (by decide) hf7 rfl rfl dX5_flowsHour_90 ?_
      refine lv_iconst (v := 1) hx hb dX5_flowsHour_93 (by decide) ?_
      refine lv_dup2_11 hx hb dX5_flowsHour_94 rfl rfl ?_
      refine g_iald hx hb hK hG i163 mW_a163 (k := 1) rfl (by omega) (by decide) dX5_flowsHour_95 ?_
      refine lv_iload hx hb dX5_flowsHour_96 (lv_at hl 0 rfl) ?_
      refine lv_iadd hx hb dX5_flowsHour_98 ?_
      refine g_iast hx hb hK hG hS i163 mW_a163 (k := 1) rfl (by omega) (by decide) dX5_flowsHour_99 (fun H locs hG hS => ?_)
      have hG := hG.to mW_us
      refine lv_aload_n hx hb dX5_flowsHour_100 rfl (lv_at hl 2 rfl) ?_
      refine g_get (ci := 5) (C := RX5) (T := TX5) (M := 12) hx hb hts hinX5 hown hK hG i162 mW_o rfl 1 (by decide) hf7 rfl rfl dX5_flowsHour_101 ?_
      refine lv_bipush (v := 106) hx hb dX5_flowsHour_104 (by decide) ?_
      refine lv_iconst (v := 2) hx hb dX5_flowsHour_106 (by decide) ?_
      refine lv_iload_n hx hb dX5_flowsHour_107 rfl (lv_at hl 4 rfl) ?_
      refine lv_imul hx hb dX5_flowsHour_108 ?_
      refine lv_toN (k := 2 * j) (pk_mul 2 j) ?_
      refine lv_iadd hx hb dX5_flowsHour_109 ?_
      refine lv_toN (k := 106 + (2 * j)) (nI_add 106 (2 * j)) ?_
      refine lv_dup2_11 hx hb dX5_flowsHour_110 rfl rfl ?_
      refine g_iald hx hb hK hG i163 mW_a163 (k := 106 + (2 * j)) rfl (by omega) (by decide) dX5_flowsHour_111 ?_
      refine lv_iload hx hb dX5_flowsHour_112 (lv_at hl 1 rfl) ?_
      refine lv_iload hx hb dX5_flowsHour_114 (lv_at hl 0 rfl) ?_
      refine lv_isub hx hb dX5_flowsHour_116 ?_
      refine lv_iadd hx hb dX5_flowsHour_117 ?_
      refine g_iast hx hb hK hG hS i163 mW_a163 (k := 106 + (2 * j)) rfl (by omega) (by decide) dX5_flowsHour_118 (fun H locs hG hS => ?_)
      have hG := hG.to mW_us
      refine lv_aload_n hx hb dX5_flowsHour_119 rfl (lv_at hl 2 rfl) ?_
      refine lv_iload_n hx hb dX5_flowsHour_120 rfl (lv_at hl 3 rfl) ?_
      refine lv_iconst (v := 0) hx hb dX5_flowsHour_121 (by decide) ?_
      refine g_cVi (As := [.int (nI k), .int 0]) (rest := []) hx hb hml hown hts hK hA hG hS (k_X5_tonnes l D cy N L F hN mt (upd (upd (upd ms (10 + 24 * k + 4) ((ms (10 + 24 * k + (4 + 2 * 0))) - (g_out ms k j))) 1 (((upd ms (10 + 24 * k + 4) ((ms (10 + 24 * k + (4 + 2 * 0))) - (g_out ms k j))) 1) + ((g_out ms k j) / (ms 8)))) (106 + (2 * j)) (((upd (upd ms (10 + 24 * k + 4) ((ms (10 + 24 * k + (4 + 2 * 0))) - (g_out ms k j))) 1 (((upd ms (10 + 24 * k + 4) ((ms (10 + 24 * k + (4 + 2 * 0))) - (g_out ms k j))) 1) + ((g_out ms k j) / (ms 8)))) (106 + (2 * j))) + ((g_out ms k j) - ((g_out ms k j) / (ms 8))))) ma mv mn mb ml mp mw mr mq mh k 0 (by omega)) (cwV 2 hts gX5_flowsHour_X5_tonnes rfl rfl rfl (by decide +kernel) ⟨Nat.le_of_ble_eq_true rfl, Nat.le_of_ble_eq_true rfl⟩) i162 mW_o (ci := 5) rfl rfl rfl rfl hl.1 (Nat.le_of_ble_eq_true rfl) dX5_flowsHour_122 ⟨Nat.zero_le _, Nat.zero_le _⟩ (fun H locs hG hS => ?_)
      refine lv_if_ne (tgt := 133) hx hb dX5_flowsHour_125 (by decide) (fun c_125 => ?_) (fun c_125 => ?_)
      · skip
        refine lv_iload hx hb dX5_flowsHour_133 (lv_at hl 1 rfl) ?_
        refine lv_iload hx hb dX5_flowsHour_135 (lv_at hl 0 rfl) ?_
        refine lv_isub hx hb dX5_flowsHour_137 ?_
        exact g_iret hx hb hr hlocks hK hG hS rfl dX5_flowsHour_138 ⟨(congrArg (fun z9 => some (Value.int z9)) (rfl)), (by simp [g_hourS, g_hour1, c_71, c_125])⟩
      · skip
        refine lv_aload_n hx hb dX5_flowsHour_128 rfl (lv_at hl 2 rfl) ?_
        refine lv_iload_n hx hb dX5_flowsHour_129 rfl (lv_at hl 3 rfl) ?_
        refine g_cVv (As := [.int (nI k)]) (rest := []) hx hb hml hown hts hK hA hG hS (k_X5_drops l D cy N L F hN mt (upd (upd (upd ms (10 + 24 * k + 4) ((ms (10 + 24 * k + (4 + 2 * 0))) - (g_out ms k j))) 1 (((upd ms (10 + 24 * k + 4) ((ms (10 + 24 * k + (4 + 2 * 0))) - (g_out ms k j))) 1) + ((g_out ms k j) / (ms 8)))) (106 + (2 * j)) (((upd (upd ms (10 + 24 * k + 4) ((ms (10 + 24 * k + (4 + 2 * 0))) - (g_out ms k j))) 1 (((upd ms (10 + 24 * k + 4) ((ms (10 + 24 * k + (4 + 2 * 0))) - (g_out ms k j))) 1) + ((g_out ms k j) / (ms 8)))) (106 + (2 * j))) + ((g_out ms k j) - ((g_out ms k j) / (ms 8))))) ma mv mn mb ml mp mw mr mq mh k n (by omega) (by rw [pk_un (by omega), pk_un (by omega), pk_un (by omega)]; exact hn) (by omega) (by omega)) (cwV 1 hts gX5_flowsHour_X5_drops rfl rfl rfl (by decide +kernel) ⟨Nat.le_of_ble_eq_true rfl, Nat.le_of_ble_eq_true rfl⟩) i162 mW_o (ci := 5) rfl rfl rfl rfl hl.1 (Nat.le_of_ble_eq_true rfl) dX5_flowsHour_130 ⟨Nat.zero_le _, Nat.zero_le _⟩ (fun H locs hG hS => ?_)
        refine lv_iload hx hb dX5_flowsHour_133 (lv_at hl 1 rfl) ?_
        refine lv_iload hx hb dX5_flowsHour_135 (lv_at hl 0 rfl) ?_
        refine lv_isub hx hb dX5_flowsHour_137 ?_
        exact g_iret hx hb hr hlocks hK hG hS rfl dX5_flowsHour_138 ⟨(congrArg (fun z9 => some (Value.int z9)) (rfl)), (by simp [g_hourS, g_hour1, c_71, eq_true c_125])⟩
set_option maxHeartbeats 4000000 in
set_option maxRecDepth 100000 in
theorem k_X5_flowsAll (l : Launch) (D : va_G) (cy : Nat → ClassId) (N : Nat) (L : Nat → Nat) (F : Nat → va_E) (hN : 168 ≤ N) (mt : Int32) (ms ma mv : Nat → Int32) (mn : Int32) (mb : Nat → Int32) (ml mp mw : Int32) (mr : Nat → Int32) (mq : Int32) (mh : Int64) (k j q : Nat) (hk : k < 4) (hj : j < 6) (hq : q < 100) (hw : wfM ms) : GM l D cy N L yX5_flowsAll wsX5_flowsAll ({ frames := 5, cells := 0, slots := 0, locals := 114 }) [.ref (L 162), .int (nI k), .int (nI j), .int (nI q)] (mW cy L F mt ms ma mv mn mb ml mp mw mr mq mh) (some (.int (g_hoursR ms k j q))) (mW cy L F mt (g_hoursS ms k j q) ma mv mn mb ml mp mw mr mq mh) := by
  refine GM.ofW (cc := cX5_flowsAll) (maxL := 6) (ret := (some .int)) (by decide) rfl (Nat.le_of_ble_eq_true rfl) ?_
  intro p e s m below meth c ls hx hb hr hts hown hlocks hml hK hA hG hS hl
  have hl : lv_has ls 6 [(0, .ref (L 162)), (1, .int (nI k)), (2, .int (nI j)), (3, .int (nI q))] := hl
  have i162 : 162 < N := by omega
  have i163 : 163 < N := by omega
  have i164 : 164 < N := by omega
  have i165 : 165 < N := by omega
  have i166 : 166 < N := by omega
  have i167 : 167 < N := by omega
  refine lv_iconst (v := 0) hx hb dX5_flowsAll_0 (by decide) ?_
  refine lv_istore (lv' := [(4, .int 0), (0, .ref (L 162)), (1, .int (nI k)), (2, .int (nI j)), (3, .int (nI q))]) hx hb dX5_flowsAll_1 hl (by decide) rfl (fun ls hl => ?_)
  refine lv_iconst (v := 0) hx hb dX5_flowsAll_3 (by decide) ?_
  refine lv_istore (lv' := [(5, .int 0), (4, .int 0), (0, .ref (L 162)), (1, .int (nI k)), (2, .int (nI j)), (3, .int (nI q))]) hx hb dX5_flowsAll_4 hl (by decide) rfl (fun ls hl => ?_)
  refine W.loop (σ := Nat) (fun h H locs ls => (h ≤ q) ∧ GW D N L (gA N L s.heap.size) (mW cy L F mt (g_hoursS ms k j h) ma mv mn mb ml mp mw mr mq mh) H ∧ va_S (gA N L s.heap.size) s.heap H locs ∧ lv_has ls 6 [(4, .int (g_hoursR ms k j h)), (5, .int (nI h)), (0, .ref (L 162)), (1, .int (nI k)), (2, .int (nI j)), (3, .int (nI q))]) (fun h => q - h) 0 ⟨by omega, hG.to (rfl), hS, lv_to (lv_sub hl [1, 0, 2, 3, 4, 5] rfl) (rfl)⟩ ?_
  intro h H locs ls hP9 ih6
  obtain ⟨hh9, hG, hS, hl⟩ := hP9
  have hw9 := wfM_hours hk hj hw h
  have hw8 := hw9.1 k hk
  refine lv_iload hx hb dX5_flowsAll_6 (lv_at hl 1 rfl) ?_
  refine lv_iload_n hx hb dX5_flowsAll_8 rfl (lv_at hl 5 rfl) ?_
  refine lv_icmp_ge (tgt := 29) hx hb dX5_flowsAll_9 (by decide) (fun c_9 => ?_) (fun c_9 => ?_)
  · skip
    have c_9 : q ≤ h := (nI_leI (a := q) (b := h) (by omega) (by omega)).mp c_9
    refine lv_iload hx hb dX5_flowsAll_29 (lv_at hl 0 rfl) ?_
    exact g_iret hx hb hr hlocks hK hG hS rfl dX5_flowsAll_31 ⟨(congrArg (fun z9 => some (Value.int z9)) (by rw [show h = q by omega])), (by rw [show h = q by omega])⟩
  · skip
    have c_9 : ¬ q ≤ h := fun h9 => c_9 ((nI_leI (a := q) (b := h) (by omega) (by omega)).mpr h9)
    refine lv_iload hx hb dX5_flowsAll_12 (lv_at hl 0 rfl) ?_
    refine lv_aload_n hx hb dX5_flowsAll_14 rfl (lv_at hl 2 rfl) ?_
    refine lv_iload_n hx hb dX5_flowsAll_15 rfl (lv_at hl 3 rfl) ?_
    refine lv_iload_n hx hb dX5_flowsAll_16 rfl (lv_at hl 4 rfl) ?_
    refine g_cVi (As := [.int (nI k), .int (nI j)]) (rest := [.int (g_hoursR ms k j h)]) hx hb hml hown hts hK hA hG hS (k_X5_flowsHour l D cy N L F hN mt (g_hoursS ms k j h) ma mv mn mb ml mp mw mr mq mh k j (Nn (g_hoursS ms k j h) k) (by omega) (hw8.1) (hw8.2) (by omega) (hw9.2)) (cwV 2 hts gX5_flowsAll_X5_flowsHour rfl rfl rfl (by decide +kernel) ⟨Nat.le_of_ble_eq_true rfl, Nat.le_of_ble_eq_true rfl⟩) i162 mW_o (ci := 5) rfl rfl rfl rfl hl.1 (Nat.le_of_ble_eq_true rfl) dX5_flowsAll_17 ⟨Nat.zero_le _, Nat.zero_le _⟩ (fun H locs hG hS => ?_)
    refine lv_iadd hx hb dX5_flowsAll_20 ?_
    refine lv_istore (lv' := [(4, .int ((g_hoursR ms k j h) + (g_hourR (g_hoursS ms k j h) k j))), (5, .int (nI h)), (0, .ref (L 162)), (1, .int (nI k)), (2, .int (nI j)), (3, .int (nI q))]) hx hb dX5_flowsAll_21 hl (by decide) rfl (fun ls hl => ?_)
    refine lv_iinc (v := nI (h + 1)) (lv' := [(5, .int (nI (h + 1))), (4, .int ((g_hoursR ms k j h) + (g_hourR (g_hoursS ms k j h) k j))), (0, .ref (L 162)), (1, .int (nI k)), (2, .int (nI j)), (3, .int (nI q))]) hx hb dX5_flowsAll_23 hl (k := 1) rfl (nI_add h 1) (by decide) rfl (fun ls hl => ?_)
    refine lv_goto (tgt := 6) hx hb dX5_flowsAll_26 (by decide) ?_
    have hl : lv_has ls 6 [(4, .int ((g_hoursR ms k j h) + (g_hourR (g_hoursS ms k j h) k j))), (5, .int (nI (h + 1))), (0, .ref (L 162)), (1, .int (nI k)), (2, .int (nI j)), (3, .int (nI q))] := lv_sub hl [1, 0, 2, 3, 4, 5] rfl
    exact ih6 (h + 1) _ _ _ (by omega) ⟨by omega, hG.to (rfl), hS, lv_to hl (rfl)⟩
set_option maxHeartbeats 4000000 in
set_option maxRecDepth 100000 in
theorem k_X5_comes (l : Launch) (D : va_G) (cy : Nat → ClassId) (N : Nat) (L : Nat → Nat) (F : Nat → va_E) (hN : 168 ≤ N) (mt : Int32) (ms ma mv : Nat → Int32) (mn : Int32) (mb : Nat → Int32) (ml mp mw : Int32) (mr : Nat → Int32) (mq : Int32) (mh : Int64) (k n : Nat) (t : Int32) (hk : k < 4) (hn : ms (10 + 24 * k + 3) = nI n) (hn10 : n ≤ 10) : GM l D cy N L yX5_comes wsX5_comes ({ frames := 3, cells := 0, slots := 0, locals := 68 }) [.ref (L 162), .int (nI k), .int t] (mW cy L F mt ms ma mv mn mb ml mp mw mr mq mh) (some (.int (g_comesR ms k n t))) (mW cy L F mt (g_comesS ms k n t) ma mv mn mb ml mp mw mr mq mh) := by
  refine GM.ofW (cc := cX5_comes) (maxL := 7) (ret := (some .int)) (by decide) rfl (Nat.le_of_ble_eq_true rfl) ?_
  intro p e s m below meth c ls hx hb hr hts hown hlocks hml hK hA hG hS hl
  have hl : lv_has ls 7 [(0, .ref (L 162)), (1, .int (nI k)), (2, .int t)] := hl
  have i162 : 162 < N := by omega
  have i163 : 163 < N := by omega
  have i164 : 164 < N := by omega
  have i165 : 165 < N := by omega
  have i166 : 166 < N := by omega
  have i167 : 167 < N := by omega
  refine lv_iload_n hx hb dX5_comes_0 rfl (lv_at hl 2 rfl) ?_
  refine lv_sipush (v := 1200) hx hb dX5_comes_1 (by decide) ?_
  refine lv_aload_n hx hb dX5_comes_4 rfl (lv_at hl 0 rfl) ?_
  refine lv_iload_n hx hb dX5_comes_5 rfl (lv_at hl 1 rfl) ?_
  refine lv_iconst (v := 0) hx hb dX5_comes_6 (by decide) ?_
  refine g_cVi (As := [.int (nI k), .int 0]) (rest := [.int 1200, .int t]) hx hb hml hown hts hK hA hG hS (k_X5_sumFrom l D cy N L F hN mt ms ma mv mn mb ml mp mw mr mq mh k 0 n (by omega) (by omega) (by omega) (by omega)) (cwV 2 hts gX5_comes_X5_sumFrom rfl rfl rfl (by decide +kernel) ⟨Nat.le_of_ble_eq_true rfl, Nat.le_of_ble_eq_true rfl⟩) i162 mW_o (ci := 5) rfl rfl rfl rfl hl.1 (Nat.le_of_ble_eq_true rfl) dX5_comes_7 ⟨Nat.zero_le _, Nat.zero_le _⟩ (fun H locs hG hS => ?_)
  refine lv_isub hx hb dX5_comes_10 ?_
  refine g_cSi (As := [.int t, .int (1200 - (g_sum ms k 0 (n - 0)))]) (rest := []) hx hb hml hown hts hK hA hG hS (k_X5_lesser l D cy N L (mW cy L F mt ms ma mv mn mb ml mp mw mr mq mh) t (1200 - (g_sum ms k 0 (n - 0))) ) (g_cwS 2 hts gX5_comes_X5_lesser rfl rfl rfl (by decide +kernel) ⟨Nat.le_of_ble_eq_true rfl, Nat.le_of_ble_eq_true rfl⟩) rfl rfl hl.1 (Nat.le_of_ble_eq_true rfl) dX5_comes_11 ⟨Nat.zero_le _, Nat.zero_le _⟩ (fun H locs hG hS => ?_)
  refine lv_istore_n (lv' := [(3, .int (g_min t (1200 - (g_sum ms k 0 (n - 0))))), (0, .ref (L 162)), (1, .int (nI k)), (2, .int t)]) hx hb dX5_comes_14 rfl hl (by decide) rfl (fun ls hl => ?_)
  refine lv_aload_n hx hb dX5_comes_15 rfl (lv_at hl 1 rfl) ?_
  refine lv_iload_n hx hb dX5_comes_16 rfl (lv_at hl 2 rfl) ?_
  refine lv_iconst (v := 3) hx hb dX5_comes_17 (by decide) ?_
  refine g_cVi (As := [.int (nI k), .int 3]) (rest := []) hx hb hml hown hts hK hA hG hS (k_X5_of l D cy N L F hN mt ms ma mv mn mb ml mp mw mr mq mh k 3 (by omega)) (cwV 2 hts gX5_comes_X5_of rfl rfl rfl (by decide +kernel) ⟨Nat.le_of_ble_eq_true rfl, Nat.le_of_ble_eq_true rfl⟩) i162 mW_o (ci := 5) rfl rfl rfl rfl hl.1 (Nat.le_of_ble_eq_true rfl) dX5_comes_18 ⟨Nat.zero_le _, Nat.zero_le _⟩ (fun H locs hG hS => ?_)
  refine lv_toN (k := n) (hn) ?_
  refine lv_istore (lv' := [(4, .int (nI n)), (3, .int (g_min t (1200 - (g_sum ms k 0 (n - 0))))), (0, .ref (L 162)), (1, .int (nI k)), (2, .int t)]) hx hb dX5_comes_21 hl (by decide) rfl (fun ls hl => ?_)
  refine lv_iload hx hb dX5_comes_23 (lv_at hl 0 rfl) ?_
  refine lv_if_le (tgt := 44) hx hb dX5_comes_25 (by decide) (fun c_25 => ?_) (fun c_25 => ?_)
  · skip
    have c_25 : n ≤ 0 := (nI_leI (a := n) (b := 0) (by omega) (by omega)).mp c_25
    refine lv_iconst (v := 0) hx hb dX5_comes_44 (by decide) ?_
    refine lv_istore (lv' := [(5, .int 0), (4, .int (nI n)), (3, .int (g_min t (1200 - (g_sum ms k 0 (n - 0))))), (0, .ref (L 162)), (1, .int (nI k)), (2, .int t)]) hx hb dX5_comes_45 hl (by decide) rfl (fun ls hl => ?_)
    refine lv_iload hx hb dX5_comes_47 (lv_at hl 0 rfl) ?_
    refine lv_if_eq (tgt := 72) hx hb dX5_comes_49 (by decide) (fun c_49 => ?_) (fun c_49 => ?_)
    · skip
      refine lv_iconst (v := 0) hx hb dX5_comes_72 (by decide) ?_
      refine lv_istore (lv' := [(6, .int 0), (5, .int 0), (4, .int (nI n)), (3, .int (g_min t (1200 - (g_sum ms k 0 (n - 0))))), (0, .ref (L 162)), (1, .int (nI k)), (2, .int t)]) hx hb dX5_comes_73 hl (by decide) rfl (fun ls hl => ?_)
      refine lv_iload hx hb dX5_comes_75 (lv_at hl 1 rfl) ?_
      refine lv_if_eq (tgt := 105) hx hb dX5_comes_77 (by decide) (fun c_77 => ?_) (fun c_77 => ?_)
      · skip
        refine lv_iload_n hx hb dX5_comes_105 rfl (lv_at hl 3 rfl) ?_
        refine lv_iload hx hb dX5_comes_106 (lv_at hl 0 rfl) ?_
        refine lv_isub hx hb dX5_comes_108 ?_
        refine lv_istore_n (lv' := [(3, .int ((g_min t (1200 - (g_sum ms k 0 (n - 0)))) - 0)), (6, .int 0), (5, .int 0), (4, .int (nI n)), (0, .ref (L 162)), (1, .int (nI k)), (2, .int t)]) hx hb dX5_comes_109 rfl hl (by decide) rfl (fun ls hl => ?_)
        refine lv_iload_n hx hb dX5_comes_110 rfl (lv_at hl 0 rfl) ?_
        refine lv_if_eq (tgt := 121) hx hb dX5_comes_111 (by decide) (fun c_111 => ?_) (fun c_111 => ?_)
        · skip
          refine lv_iload hx hb dX5_comes_121 (lv_at hl 1 rfl) ?_
          exact g_iret hx hb hr hlocks hK hG hS rfl dX5_comes_123 ⟨(congrArg (fun z9 => some (Value.int z9)) (by first | rfl | (simp only [g_comesR, g_comesS, g_top, g_cs1, g_cs2, g_left, c_25, eq_true c_111, if_true, if_false, not_true_eq_false, not_false_eq_true]; done) | (simp [g_comesR, g_comesS, g_top, g_cs1, g_cs2, g_left, c_25, eq_true c_111]; done))), (by first | rfl | (simp only [g_comesR, g_comesS, g_top, g_cs1, g_cs2, g_left, c_25, eq_true c_111, if_true, if_false, not_true_eq_false, not_false_eq_true]; done) | (simp [g_comesR, g_comesS, g_top, g_cs1, g_cs2, g_left, c_25, eq_true c_111]; done))⟩
        · skip
          refine lv_iload hx hb dX5_comes_114 (lv_at hl 3 rfl) ?_
          refine lv_bipush (v := 10) hx hb dX5_comes_116 (by decide) ?_
          refine lv_icmp_ne (tgt := 124) hx hb dX5_comes_118 (by decide) (fun c_118 => ?_) (fun c_118 => ?_)
          · skip
            have c_118 : ¬ n = 10 := fun h9 => c_118 ((nI_eq (a := n) (b := 10) (by omega) (by omega)).mpr h9)
            refine lv_aload_n hx hb dX5_comes_124 rfl (lv_at hl 4 rfl) ?_
            refine lv_iload_n hx hb dX5_comes_125 rfl (lv_at hl 5 rfl) ?_
            refine lv_iconst (v := 4) hx hb dX5_comes_126 (by decide) ?_
            refine lv_iconst (v := 2) hx hb dX5_comes_127 (by decide) ?_
            refine lv_iload hx hb dX5_comes_128 (lv_at hl 3 rfl) ?_
            refine lv_imul hx hb dX5_comes_130 ?_
            refine lv_toN (k := 2 * n) (pk_mul 2 n) ?_
            refine lv_iadd hx hb dX5_comes_131 ?_
            refine lv_toN (k := 4 + (2 * n)) (nI_add 4 (2 * n)) ?_
            refine lv_iload_n hx hb dX5_comes_132 rfl (lv_at hl 0 rfl) ?_
            refine g_cVv (As := [.int (nI k), .int (nI (4 + (2 * n))), .int ((g_min t (1200 - (g_sum ms k 0 (n - 0)))) - 0)]) (rest := []) hx hb hml hown hts hK hA hG hS (k_X5_lay l D cy N L F hN mt ms ma mv mn mb ml mp mw mr mq mh k (4 + (2 * n)) ((g_min t (1200 - (g_sum ms k 0 (n - 0)))) - 0) (by omega)) (cwV 3 hts gX5_comes_X5_lay rfl rfl rfl (by decide +kernel) ⟨Nat.le_of_ble_eq_true rfl, Nat.le_of_ble_eq_true rfl⟩) i162 mW_o (ci := 5) rfl rfl rfl rfl hl.1 (Nat.le_of_ble_eq_true rfl) dX5_comes_133 ⟨Nat.zero_le _, Nat.zero_le _⟩ (fun H locs hG hS => ?_)
            refine lv_aload_n hx hb dX5_comes_136 rfl (lv_at hl 4 rfl) ?_
            refine lv_iload_n hx hb dX5_comes_137 rfl (lv_at hl 5 rfl) ?_
            refine lv_iconst (v := 4) hx hb dX5_comes_138 (by decide) ?_
            refine lv_iconst (v := 2) hx hb dX5_comes_139 (by decide) ?_
            refine lv_iload hx hb dX5_comes_140 (lv_at hl 3 rfl) ?_
            refine lv_imul hx hb dX5_comes_142 ?_
            refine lv_toN (k := 2 * n) (pk_mul 2 n) ?_
            refine lv_iadd hx hb dX5_comes_143 ?_
            refine lv_toN (k := 4 + (2 * n)) (nI_add 4 (2 * n)) ?_
            refine lv_iconst (v := 1) hx hb dX5_comes_144 (by decide) ?_
            refine lv_iadd hx hb dX5_comes_145 ?_
            refine lv_toN (k := (4 + (2 * n)) + 1) (nI_add (4 + (2 * n)) 1) ?_
            refine lv_iconst (v := 0) hx hb dX5_comes_146 (by decide) ?_
            refine g_cVv (As := [.int (nI k), .int (nI ((4 + (2 * n)) + 1)), .int 0]) (rest := []) hx hb hml hown hts hK hA hG hS (k_X5_lay l D cy N L F hN mt (upd ms (10 + 24 * k + (4 + (2 * n))) ((g_min t (1200 - (g_sum ms k 0 (n - 0)))) - 0)) ma mv mn mb ml mp mw mr mq mh k ((4 + (2 * n)) + 1) 0 (by omega)) (cwV 3 hts gX5_comes_X5_lay rfl rfl rfl (by decide +kernel) ⟨Nat.le_of_ble_eq_true rfl, Nat.le_of_ble_eq_true rfl⟩) i162 mW_o (ci := 5) rfl rfl rfl rfl hl.1 (Nat.le_of_ble_eq_true rfl) dX5_comes_147 ⟨Nat.zero_le _, Nat.zero_le _⟩ (fun H locs hG hS => ?_)
            refine lv_aload_n hx hb dX5_comes_150 rfl (lv_at hl 4 rfl) ?_
            refine lv_iload_n hx hb dX5_comes_151 rfl (lv_at hl 5 rfl) ?_
            refine lv_iconst (v := 3) hx hb dX5_comes_152 (by decide) ?_
            refine lv_iload hx hb dX5_comes_153 (lv_at hl 3 rfl) ?_
            refine lv_iconst (v := 1) hx hb dX5_comes_155 (by decide) ?_
            refine lv_iadd hx hb dX5_comes_156 ?_
            refine lv_toN (k := n + 1) (nI_add n 1) ?_
            refine g_cVv (As := [.int (nI k), .int 3, .int (nI (n + 1))]) (rest := []) hx hb hml hown hts hK hA hG hS (k_X5_lay l D cy N L F hN mt (upd (upd ms (10 + 24 * k + (4 + (2 * n))) ((g_min t (1200 - (g_sum ms k 0 (n - 0)))) - 0)) (10 + 24 * k + ((4 + (2 * n)) + 1)) 0) ma mv mn mb ml mp mw mr mq mh k 3 (nI (n + 1)) (by omega)) (cwV 3 hts gX5_comes_X5_lay rfl rfl rfl (by decide +kernel) ⟨Nat.le_of_ble_eq_true rfl, Nat.le_of_ble_eq_true rfl⟩) i162 mW_o (ci := 5) rfl rfl rfl rfl hl.1 (Nat.le_of_ble_eq_true rfl) dX5_comes_157 ⟨Nat.zero_le _, Nat.zero_le _⟩ (fun H locs hG hS => ?_)
            refine lv_aload_n hx hb dX5_comes_160 rfl (lv_at hl 4 rfl) ?_
            refine lv_iload_n hx hb dX5_comes_161 rfl (lv_at hl 5 rfl) ?_
            refine lv_iconst (v := 2) hx hb dX5_comes_162 (by decide) ?_
            refine lv_iconst (v := 0) hx hb dX5_comes_163 (by decide) ?_
            refine g_cVv (As := [.int (nI k), .int 2, .int 0]) (rest := []) hx hb hml hown hts hK hA hG hS (k_X5_lay l D cy N L F hN mt (upd (upd (upd ms (10 + 24 * k + (4 + (2 * n))) ((g_min t (1200 - (g_sum ms k 0 (n - 0)))) - 0)) (10 + 24 * k + ((4 + (2 * n)) + 1)) 0) (10 + 24 * k + 3) (nI (n + 1))) ma mv mn mb ml mp mw mr mq mh k 2 0 (by omega)) (cwV 3 hts gX5_comes_X5_lay rfl rfl rfl (by decide +kernel) ⟨Nat.le_of_ble_eq_true rfl, Nat.le_of_ble_eq_true rfl⟩) i162 mW_o (ci := 5) rfl rfl rfl rfl hl.1 (Nat.le_of_ble_eq_true rfl) dX5_comes_164 ⟨Nat.zero_le _, Nat.zero_le _⟩ (fun H locs hG hS => ?_)
            refine lv_iload hx hb dX5_comes_167 (lv_at hl 1 rfl) ?_
            refine lv_iload_n hx hb dX5_comes_169 rfl (lv_at hl 0 rfl) ?_
            refine lv_iadd hx hb dX5_comes_170 ?_
            exact g_iret hx hb hr hlocks hK hG hS rfl dX5_comes_171 ⟨(congrArg (fun z9 => some (Value.int z9)) (by first | rfl | (simp only [g_comesR, g_comesS, g_top, g_cs1, g_cs2, g_left, c_25, c_111, c_118, if_true, if_false, not_true_eq_false, not_false_eq_true]; done) | (simp [g_comesR, g_comesS, g_top, g_cs1, g_cs2, g_left, c_25, c_111, c_118]; done))), (by first | rfl | (simp only [g_comesR, g_comesS, g_top, g_cs1, g_cs2, g_left, c_25, c_111, c_118, if_true, if_false, not_true_eq_false, not_false_eq_true]; done) | (simp [g_comesR, g_comesS, g_top, g_cs1, g_cs2, g_left, c_25, c_111, c_118]; done))⟩
          · skip
            have c_118 : n = 10 := (nI_eq (a := n) (b := 10) (by omega) (by omega)).mp c_118
            refine lv_iload hx hb dX5_comes_121 (lv_at hl 1 rfl) ?_
            exact g_iret hx hb hr hlocks hK hG hS rfl dX5_comes_123 ⟨(congrArg (fun z9 => some (Value.int z9)) (by first | rfl | (simp only [g_comesR, g_comesS, g_top, g_cs1, g_cs2, g_left, c_25, c_111, eq_true c_118, if_true, if_false, not_true_eq_false, not_false_eq_true]; done) | (simp [g_comesR, g_comesS, g_top, g_cs1, g_cs2, g_left, c_25, c_111, eq_true c_118]; done))), (by first | rfl | (simp only [g_comesR, g_comesS, g_top, g_cs1, g_cs2, g_left, c_25, c_111, eq_true c_118, if_true, if_false, not_true_eq_false, not_false_eq_true]; done) | (simp [g_comesR, g_comesS, g_top, g_cs1, g_cs2, g_left, c_25, c_111, eq_true c_118]; done))⟩
      · skip
        exact absurd c_77 (by decide)
    · skip
      exact absurd c_49 (by decide)
  · skip
    have c_25 : ¬ n ≤ 0 := fun h9 => c_25 ((nI_leI (a := n) (b := 0) (by omega) (by omega)).mpr h9)
    refine lv_aload_n hx hb dX5_comes_28 rfl (lv_at hl 2 rfl) ?_
    refine lv_iload_n hx hb dX5_comes_29 rfl (lv_at hl 3 rfl) ?_
    refine lv_iload hx hb dX5_comes_30 (lv_at hl 0 rfl) ?_
    refine lv_iconst (v := 1) hx hb dX5_comes_32 (by decide) ?_
    refine lv_isub hx hb dX5_comes_33 ?_
    refine lv_toN (k := n - 1) (pk_sub (a := n) (b := 1) (by omega)) ?_
    refine g_cVi (As := [.int (nI k), .int (nI (n - 1))]) (rest := []) hx hb hml hown hts hK hA hG hS (k_X5_age l D cy N L F hN mt ms ma mv mn mb ml mp mw mr mq mh k (n - 1) (by omega)) (cwV 2 hts gX5_comes_X5_age rfl rfl rfl (by decide +kernel) ⟨Nat.le_of_ble_eq_true rfl, Nat.le_of_ble_eq_true rfl⟩) i162 mW_o (ci := 5) rfl rfl rfl rfl hl.1 (Nat.le_of_ble_eq_true rfl) dX5_comes_34 ⟨Nat.zero_le _, Nat.zero_le _⟩ (fun H locs hG hS => ?_)
    refine lv_if_ne (tgt := 44) hx hb dX5_comes_37 (by decide) (fun c_37 => ?_) (fun c_37 => ?_)
    · skip
      refine lv_iconst (v := 0) hx hb dX5_comes_44 (by decide) ?_
      refine lv_istore (lv' := [(5, .int 0), (4, .int (nI n)), (3, .int (g_min t (1200 - (g_sum ms k 0 (n - 0))))), (0, .ref (L 162)), (1, .int (nI k)), (2, .int t)]) hx hb dX5_comes_45 hl (by decide) rfl (fun ls hl => ?_)
      refine lv_iload hx hb dX5_comes_47 (lv_at hl 0 rfl) ?_
      refine lv_if_eq (tgt := 72) hx hb dX5_comes_49 (by decide) (fun c_49 => ?_) (fun c_49 => ?_)
      · skip
        refine lv_iconst (v := 0) hx hb dX5_comes_72 (by decide) ?_
        refine lv_istore (lv' := [(6, .int 0), (5, .int 0), (4, .int (nI n)), (3, .int (g_min t (1200 - (g_sum ms k 0 (n - 0))))), (0, .ref (L 162)), (1, .int (nI k)), (2, .int t)]) hx hb dX5_comes_73 hl (by decide) rfl (fun ls hl => ?_)
        refine lv_iload hx hb dX5_comes_75 (lv_at hl 1 rfl) ?_
        refine lv_if_eq (tgt := 105) hx hb dX5_comes_77 (by decide) (fun c_77 => ?_) (fun c_77 => ?_)
        · skip
          refine lv_iload_n hx hb dX5_comes_105 rfl (lv_at hl 3 rfl) ?_
          refine lv_iload hx hb dX5_comes_106 (lv_at hl 0 rfl) ?_
          refine lv_isub hx hb dX5_comes_108 ?_
          refine lv_istore_n (lv' := [(3, .int ((g_min t (1200 - (g_sum ms k 0 (n - 0)))) - 0)), (6, .int 0), (5, .int 0), (4, .int (nI n)), (0, .ref (L 162)), (1, .int (nI k)), (2, .int t)]) hx hb dX5_comes_109 rfl hl (by decide) rfl (fun ls hl => ?_)
          refine lv_iload_n hx hb dX5_comes_110 rfl (lv_at hl 0 rfl) ?_
          refine lv_if_eq (tgt := 121) hx hb dX5_comes_111 (by decide) (fun c_111 => ?_) (fun c_111 => ?_)
          · skip
            refine lv_iload hx hb dX5_comes_121 (lv_at hl 1 rfl) ?_
            exact g_iret hx hb hr hlocks hK hG hS rfl dX5_comes_123 ⟨(congrArg (fun z9 => some (Value.int z9)) (by first | rfl | (simp only [g_comesR, g_comesS, g_top, g_cs1, g_cs2, g_left, c_25, c_37, eq_true c_111, if_true, if_false, not_true_eq_false, not_false_eq_true]; done) | (simp [g_comesR, g_comesS, g_top, g_cs1, g_cs2, g_left, c_25, c_37, eq_true c_111]; done))), (by first | rfl | (simp only [g_comesR, g_comesS, g_top, g_cs1, g_cs2, g_left, c_25, c_37, eq_true c_111, if_true, if_false, not_true_eq_false, not_false_eq_true]; done) | (simp [g_comesR, g_comesS, g_top, g_cs1, g_cs2, g_left, c_25, c_37, eq_true c_111]; done))⟩
          · skip
            refine lv_iload hx hb dX5_comes_114 (lv_at hl 3 rfl) ?_
            refine lv_bipush (v := 10) hx hb dX5_comes_116 (by decide) ?_
            refine lv_icmp_ne (tgt := 124) hx hb dX5_comes_118 (by decide) (fun c_118 => ?_) (fun c_118 => ?_)
            · skip
              have c_118 : ¬ n = 10 := fun h9 => c_118 ((nI_eq (a := n) (b := 10) (by omega) (by omega)).mpr h9)
              refine lv_aload_n hx hb dX5_comes_124 rfl (lv_at hl 4 rfl) ?_
              refine lv_iload_n hx hb dX5_comes_125 rfl (lv_at hl 5 rfl) ?_
              refine lv_iconst (v := 4) hx hb dX5_comes_126 (by decide) ?_
              refine lv_iconst (v := 2) hx hb dX5_comes_127 (by decide) ?_
              refine lv_iload hx hb dX5_comes_128 (lv_at hl 3 rfl) ?_
              refine lv_imul hx hb dX5_comes_130 ?_
              refine lv_toN (k := 2 * n) (pk_mul 2 n) ?_
              refine lv_iadd hx hb dX5_comes_131 ?_
              refine lv_toN (k := 4 + (2 * n)) (nI_add 4 (2 * n)) ?_
              refine lv_iload_n hx hb dX5_comes_132 rfl (lv_at hl 0 rfl) ?_
              refine g_cVv (As := [.int (nI k), .int (nI (4 + (2 * n))), .int ((g_min t (1200 - (g_sum ms k 0 (n - 0)))) - 0)]) (rest := []) hx hb hml hown hts hK hA hG hS (k_X5_lay l D cy N L F hN mt ms ma mv mn mb ml mp mw mr mq mh k (4 + (2 * n)) ((g_min t (1200 - (g_sum ms k 0 (n - 0)))) - 0) (by omega)) (cwV 3 hts gX5_comes_X5_lay rfl rfl rfl (by decide +kernel) ⟨Nat.le_of_ble_eq_true rfl, Nat.le_of_ble_eq_true rfl⟩) i162 mW_o (ci := 5) rfl rfl rfl rfl hl.1 (Nat.le_of_ble_eq_true rfl) dX5_comes_133 ⟨Nat.zero_le _, Nat.zero_le _⟩ (fun H locs hG hS => ?_)
              refine lv_aload_n hx hb dX5_comes_136 rfl (lv_at hl 4 rfl) ?_
              refine lv_iload_n hx hb dX5_comes_137 rfl (lv_at hl 5 rfl) ?_
              refine lv_iconst (v := 4) hx hb dX5_comes_138 (by decide) ?_
              refine lv_iconst (v := 2) hx hb dX5_comes_139 (by decide) ?_
              refine lv_iload hx hb dX5_comes_140 (lv_at hl 3 rfl) ?_
              refine lv_imul hx hb dX5_comes_142 ?_
              refine lv_toN (k := 2 * n) (pk_mul 2 n) ?_
              refine lv_iadd hx hb dX5_comes_143 ?_
              refine lv_toN (k := 4 + (2 * n)) (nI_add 4 (2 * n)) ?_
              refine lv_iconst (v := 1) hx hb dX5_comes_144 (by decide) ?_
              refine lv_iadd hx hb dX5_comes_145 ?_
              refine lv_toN (k := (4 + (2 * n)) + 1) (nI_add (4 + (2 * n)) 1) ?_
              refine lv_iconst (v := 0) hx hb dX5_comes_146 (by decide) ?_
              refine g_cVv (As := [.int (nI k), .int (nI ((4 + (2 * n)) + 1)), .int 0]) (rest := []) hx hb hml hown hts hK hA hG hS (k_X5_lay l D cy N L F hN mt (upd ms (10 + 24 * k + (4 + (2 * n))) ((g_min t (1200 - (g_sum ms k 0 (n - 0)))) - 0)) ma mv mn mb ml mp mw mr mq mh k ((4 + (2 * n)) + 1) 0 (by omega)) (cwV 3 hts gX5_comes_X5_lay rfl rfl rfl (by decide +kernel) ⟨Nat.le_of_ble_eq_true rfl, Nat.le_of_ble_eq_true rfl⟩) i162 mW_o (ci := 5) rfl rfl rfl rfl hl.1 (Nat.le_of_ble_eq_true rfl) dX5_comes_147 ⟨Nat.zero_le _, Nat.zero_le _⟩ (fun H locs hG hS => ?_)
              refine lv_aload_n hx hb dX5_comes_150 rfl (lv_at hl 4 rfl) ?_
              refine lv_iload_n hx hb dX5_comes_151 rfl (lv_at hl 5 rfl) ?_
              refine lv_iconst (v := 3) hx hb dX5_comes_152 (by decide) ?_
              refine lv_iload hx hb dX5_comes_153 (lv_at hl 3 rfl) ?_
              refine lv_iconst (v := 1) hx hb dX5_comes_155 (by decide) ?_
              refine lv_iadd hx hb dX5_comes_156 ?_
              refine lv_toN (k := n + 1) (nI_add n 1) ?_
              refine g_cVv (As := [.int (nI k), .int 3, .int (nI (n + 1))]) (rest := []) hx hb hml hown hts hK hA hG hS (k_X5_lay l D cy N L F hN mt (upd (upd ms (10 + 24 * k + (4 + (2 * n))) ((g_min t (1200 - (g_sum ms k 0 (n - 0)))) - 0)) (10 + 24 * k + ((4 + (2 * n)) + 1)) 0) ma mv mn mb ml mp mw mr mq mh k 3 (nI (n + 1)) (by omega)) (cwV 3 hts gX5_comes_X5_lay rfl rfl rfl (by decide +kernel) ⟨Nat.le_of_ble_eq_true rfl, Nat.le_of_ble_eq_true rfl⟩) i162 mW_o (ci := 5) rfl rfl rfl rfl hl.1 (Nat.le_of_ble_eq_true rfl) dX5_comes_157 ⟨Nat.zero_le _, Nat.zero_le _⟩ (fun H locs hG hS => ?_)
              refine lv_aload_n hx hb dX5_comes_160 rfl (lv_at hl 4 rfl) ?_
              refine lv_iload_n hx hb dX5_comes_161 rfl (lv_at hl 5 rfl) ?_
              refine lv_iconst (v := 2) hx hb dX5_comes_162 (by decide) ?_
              refine lv_iconst (v := 0) hx hb dX5_comes_163 (by decide) ?_
              refine g_cVv (As := [.int (nI k), .int 2, .int 0]) (rest := []) hx hb hml hown hts hK hA hG hS (k_X5_lay l D cy N L F hN mt (upd (upd (upd ms (10 + 24 * k + (4 + (2 * n))) ((g_min t (1200 - (g_sum ms k 0 (n - 0)))) - 0)) (10 + 24 * k + ((4 + (2 * n)) + 1)) 0) (10 + 24 * k + 3) (nI (n + 1))) ma mv mn mb ml mp mw mr mq mh k 2 0 (by omega)) (cwV 3 hts gX5_comes_X5_lay rfl rfl rfl (by decide +kernel) ⟨Nat.le_of_ble_eq_true rfl, Nat.le_of_ble_eq_true rfl⟩) i162 mW_o (ci := 5) rfl rfl rfl rfl hl.1 (Nat.le_of_ble_eq_true rfl) dX5_comes_164 ⟨Nat.zero_le _, Nat.zero_le _⟩ (fun H locs hG hS => ?_)
              refine lv_iload hx hb dX5_comes_167 (lv_at hl 1 rfl) ?_
              refine lv_iload_n hx hb dX5_comes_169 rfl (lv_at hl 0 rfl) ?_
              refine lv_iadd hx hb dX5_comes_170 ?_
              exact g_iret hx hb hr hlocks hK hG hS rfl dX5_comes_171 ⟨(congrArg (fun z9 => some (Value.int z9)) (by first | rfl | (simp only [g_comesR, g_comesS, g_top, g_cs1, g_cs2, g_left, c_25, c_37, c_111, c_118, if_true, if_false, not_true_eq_false, not_false_eq_true]; done) | (simp [g_comesR, g_comesS, g_top, g_cs1, g_cs2, g_left, c_25, c_37, c_111, c_118]; done))), (by first | rfl | (simp only [g_comesR, g_comesS, g_top, g_cs1, g_cs2, g_left, c_25, c_37, c_111, c_118, if_true, if_false, not_true_eq_false, not_false_eq_true]; done) | (simp [g_comesR, g_comesS, g_top, g_cs1, g_cs2, g_left, c_25, c_37, c_111, c_118]; done))⟩
            · skip
              have c_118 : n = 10 := (nI_eq (a := n) (b := 10) (by omega) (by omega)).mp c_118
              refine lv_iload hx hb dX5_comes_121 (lv_at hl 1 rfl) ?_
              exact g_iret hx hb hr hlocks hK hG hS rfl dX5_comes_123 ⟨(congrArg (fun z9 => some (Value.int z9)) (by first | rfl | (simp only [g_comesR, g_comesS, g_top, g_cs1, g_cs2, g_left, c_25, c_37, c_111, eq_true c_118, if_true, if_false, not_true_eq_false, not_false_eq_true]; done) | (simp [g_comesR, g_comesS, g_top, g_cs1, g_cs2, g_left, c_25, c_37, c_111, eq_true c_118]; done))), (by first | rfl | (simp only [g_comesR, g_comesS, g_top, g_cs1, g_cs2, g_left, c_25, c_37, c_111, eq_true c_118, if_true, if_false, not_true_eq_false, not_false_eq_true]; done) | (simp [g_comesR, g_comesS, g_top, g_cs1, g_cs2, g_left, c_25, c_37, c_111, eq_true c_118]; done))⟩
        · skip
          exact absurd c_77 (by decide)
      · skip
        exact absurd c_49 (by decide)
    · skip
      refine lv_iconst (v := 1) hx hb dX5_comes_40 (by decide) ?_
      refine lv_goto (tgt := 45) hx hb dX5_comes_41 (by decide) ?_
      refine lv_istore (lv' := [(5, .int 1), (4, .int (nI n)), (3, .int (g_min t (1200 - (g_sum ms k 0 (n - 0))))), (0, .ref (L 162)), (1, .int (nI k)), (2, .int t)]) hx hb dX5_comes_45 hl (by decide) rfl (fun ls hl => ?_)
      refine lv_iload hx hb dX5_comes_47 (lv_at hl 0 rfl) ?_
      refine lv_if_eq (tgt := 72) hx hb dX5_comes_49 (by decide) (fun c_49 => ?_) (fun c_49 => ?_)
      · skip
        exact absurd c_49 (by decide)
      · skip
        refine lv_iload_n hx hb dX5_comes_52 rfl (lv_at hl 2 rfl) ?_
        refine lv_sipush (v := 500) hx hb dX5_comes_53 (by decide) ?_
        refine lv_aload_n hx hb dX5_comes_56 rfl (lv_at hl 3 rfl) ?_
        refine lv_iload_n hx hb dX5_comes_57 rfl (lv_at hl 4 rfl) ?_
        refine lv_iload hx hb dX5_comes_58 (lv_at hl 1 rfl) ?_
        refine lv_iconst (v := 1) hx hb dX5_comes_60 (by decide) ?_
        refine lv_isub hx hb dX5_comes_61 ?_
        refine lv_toN (k := n - 1) (pk_sub (a := n) (b := 1) (by omega)) ?_
        refine g_cVi (As := [.int (nI k), .int (nI (n - 1))]) (rest := [.int 500, .int (g_min t (1200 - (g_sum ms k 0 (n - 0))))]) hx hb hml hown hts hK hA hG hS (k_X5_tonnes l D cy N L F hN mt ms ma mv mn mb ml mp mw mr mq mh k (n - 1) (by omega)) (cwV 2 hts gX5_comes_X5_tonnes rfl rfl rfl (by decide +kernel) ⟨Nat.le_of_ble_eq_true rfl, Nat.le_of_ble_eq_true rfl⟩) i162 mW_o (ci := 5) rfl rfl rfl rfl hl.1 (Nat.le_of_ble_eq_true rfl) dX5_comes_62 ⟨Nat.zero_le _, Nat.zero_le _⟩ (fun H locs hG hS => ?_)
        refine lv_isub hx hb dX5_comes_65 ?_
        refine g_cSi (As := [.int (g_min t (1200 - (g_sum ms k 0 (n - 0)))), .int (500 - (ms (10 + 24 * k + (4 + 2 * (n - 1)))))]) (rest := []) hx hb hml hown hts hK hA hG hS (k_X5_lesser l D cy N L (mW cy L F mt ms ma mv mn mb ml mp mw mr mq mh) (g_min t (1200 - (g_sum ms k 0 (n - 0)))) (500 - (ms (10 + 24 * k + (4 + 2 * (n - 1))))) ) (g_cwS 2 hts gX5_comes_X5_lesser rfl rfl rfl (by decide +kernel) ⟨Nat.le_of_ble_eq_true rfl, Nat.le_of_ble_eq_true rfl⟩) rfl rfl hl.1 (Nat.le_of_ble_eq_true rfl) dX5_comes_66 ⟨Nat.zero_le _, Nat.zero_le _⟩ (fun H locs hG hS => ?_)
        refine lv_goto (tgt := 73) hx hb dX5_comes_69 (by decide) ?_
        refine lv_istore (lv' := [(6, .int (g_min (g_min t (1200 - (g_sum ms k 0 (n - 0)))) (500 - (ms (10 + 24 * k + (4 + 2 * (n - 1))))))), (5, .int 1), (4, .int (nI n)), (3, .int (g_min t (1200 - (g_sum ms k 0 (n - 0))))), (0, .ref (L 162)), (1, .int (nI k)), (2, .int t)]) hx hb dX5_comes_73 hl (by decide) rfl (fun ls hl => ?_)
        refine lv_iload hx hb dX5_comes_75 (lv_at hl 1 rfl) ?_
        refine lv_if_eq (tgt := 105) hx hb dX5_comes_77 (by decide) (fun c_77 => ?_) (fun c_77 => ?_)
        · skip
          exact absurd c_77 (by decide)
        · skip
          refine lv_aload_n hx hb dX5_comes_80 rfl (lv_at hl 4 rfl) ?_
          refine lv_iload_n hx hb dX5_comes_81 rfl (lv_at hl 5 rfl) ?_
          refine lv_iconst (v := 4) hx hb dX5_comes_82 (by decide) ?_
          refine lv_iconst (v := 2) hx hb dX5_comes_83 (by decide) ?_
          refine lv_iload hx hb dX5_comes_84 (lv_at hl 2 rfl) ?_
          refine lv_iconst (v := 1) hx hb dX5_comes_86 (by decide) ?_
          refine lv_isub hx hb dX5_comes_87 ?_
          refine lv_toN (k := n - 1) (pk_sub (a := n) (b := 1) (by omega)) ?_
          refine lv_imul hx hb dX5_comes_88 ?_
          refine lv_toN (k := 2 * (n - 1)) (pk_mul 2 (n - 1)) ?_
          refine lv_iadd hx hb dX5_comes_89 ?_
          refine lv_toN (k := 4 + (2 * (n - 1))) (nI_add 4 (2 * (n - 1))) ?_
          refine lv_aload_n hx hb dX5_comes_90 rfl (lv_at hl 4 rfl) ?_
          refine lv_iload_n hx hb dX5_comes_91 rfl (lv_at hl 5 rfl) ?_
          refine lv_iload hx hb dX5_comes_92 (lv_at hl 2 rfl) ?_
          refine lv_iconst (v := 1) hx hb dX5_comes_94 (by decide) ?_
          refine lv_isub hx hb dX5_comes_95 ?_
          refine lv_toN (k := n - 1) (pk_sub (a := n) (b := 1) (by omega)) ?_
          refine g_cVi (As := [.int (nI k), .int (nI (n - 1))]) (rest := [.int (nI (4 + (2 * (n - 1)))), .int (nI k), .ref (L 162)]) hx hb hml hown hts hK hA hG hS (k_X5_tonnes l D cy N L F hN mt ms ma mv mn mb ml mp mw mr mq mh k (n - 1) (by omega)) (cwV 2 hts gX5_comes_X5_tonnes rfl rfl rfl (by decide +kernel) ⟨Nat.le_of_ble_eq_true rfl, Nat.le_of_ble_eq_true rfl⟩) i162 mW_o (ci := 5) rfl rfl rfl rfl hl.1 (Nat.le_of_ble_eq_true rfl) dX5_comes_96 ⟨Nat.zero_le _, Nat.zero_le _⟩ (fun H locs hG hS => ?_)
          refine lv_iload hx hb dX5_comes_99 (lv_at hl 0 rfl) ?_
          refine lv_iadd hx hb dX5_comes_101 ?_
          refine g_cVv (As := [.int (nI k), .int (nI (4 + (2 * (n - 1)))), .int ((ms (10 + 24 * k + (4 + 2 * (n - 1)))) + (g_min (g_min t (1200 - (g_sum ms k 0 (n - 0)))) (500 - (ms (10 + 24 * k + (4 + 2 * (n - 1)))))))]) (rest := []) hx hb hml hown hts hK hA hG hS (k_X5_lay l D cy N L F hN mt ms ma mv mn mb ml mp mw mr mq mh k (4 + (2 * (n - 1))) ((ms (10 + 24 * k + (4 + 2 * (n - 1)))) + (g_min (g_min t (1200 - (g_sum ms k 0 (n - 0)))) (500 - (ms (10 + 24 * k + (4 + 2 * (n - 1))))))) (by omega)) (cwV 3 hts gX5_comes_X5_lay rfl rfl rfl (by decide +kernel) ⟨Nat.le_of_ble_eq_true rfl, Nat.le_of_ble_eq_true rfl⟩) i162 mW_o (ci := 5) rfl rfl rfl rfl hl.1 (Nat.le_of_ble_eq_true rfl) dX5_comes_102 ⟨Nat.zero_le _, Nat.zero_le _⟩ (fun H locs hG hS => ?_)
          refine lv_iload_n hx hb dX5_comes_105 rfl (lv_at hl 3 rfl) ?_
          refine lv_iload hx hb dX5_comes_106 (lv_at hl 0 rfl) ?_
          refine lv_isub hx hb dX5_comes_108 ?_
          refine lv_istore_n (lv' := [(3, .int ((g_min t (1200 - (g_sum ms k 0 (n - 0)))) - (g_min (g_min t (1200 - (g_sum ms k 0 (n - 0)))) (500 - (ms (10 + 24 * k + (4 + 2 * (n - 1)))))))), (6, .int (g_min (g_min t (1200 - (g_sum ms k 0 (n - 0)))) (500 - (ms (10 + 24 * k + (4 + 2 * (n - 1))))))), (5, .int 1), (4, .int (nI n)), (0, .ref (L 162)), (1, .int (nI k)), (2, .int t)]) hx hb dX5_comes_109 rfl hl (by decide) rfl (fun ls hl => ?_)
          refine lv_iload_n hx hb dX5_comes_110 rfl (lv_at hl 0 rfl) ?_
          refine lv_if_eq (tgt := 121) hx hb dX5_comes_111 (by decide) (fun c_111 => ?_) (fun c_111 => ?_)
          · skip
            refine lv_iload hx hb dX5_comes_121 (lv_at hl 1 rfl) ?_
            exact g_iret hx hb hr hlocks hK hG hS rfl dX5_comes_123 ⟨(congrArg (fun z9 => some (Value.int z9)) (by first | rfl | (simp only [g_comesR, g_comesS, g_top, g_cs1, g_cs2, g_left, c_25, eq_true c_37, eq_true c_111, if_true, if_false, not_true_eq_false, not_false_eq_true]; done) | (simp [g_comesR, g_comesS, g_top, g_cs1, g_cs2, g_left, c_25, eq_true c_37, eq_true c_111]; done))), (by first | rfl | (simp only [g_comesR, g_comesS, g_top, g_cs1, g_cs2, g_left, c_25, eq_true c_37, eq_true c_111, if_true, if_false, not_true_eq_false, not_false_eq_true]; done) | (simp [g_comesR, g_comesS, g_top, g_cs1, g_cs2, g_left, c_25, eq_true c_37, eq_true c_111]; done))⟩
          · skip
            refine lv_iload hx hb dX5_comes_114 (lv_at hl 3 rfl) ?_
            refine lv_bipush (v := 10) hx hb dX5_comes_116 (by decide) ?_
            refine lv_icmp_ne (tgt := 124) hx hb dX5_comes_118 (by decide) (fun c_118 => ?_) (fun c_118 => ?_)
            · skip
              have c_118 : ¬ n = 10 := fun h9 => c_118 ((nI_eq (a := n) (b := 10) (by omega) (by omega)).mpr h9)
              refine lv_aload_n hx hb dX5_comes_124 rfl (lv_at hl 4 rfl) ?_
              refine lv_iload_n hx hb dX5_comes_125 rfl (lv_at hl 5 rfl) ?_
              refine lv_iconst (v := 4) hx hb dX5_comes_126 (by decide) ?_
              refine lv_iconst (v := 2) hx hb dX5_comes_127 (by decide) ?_
              refine lv_iload hx hb dX5_comes_128 (lv_at hl 3 rfl) ?_
              refine lv_imul hx hb dX5_comes_130 ?_
              refine lv_toN (k := 2 * n) (pk_mul 2 n) ?_
              refine lv_iadd hx hb dX5_comes_131 ?_
              refine lv_toN (k := 4 + (2 * n)) (nI_add 4 (2 * n)) ?_
              refine lv_iload_n hx hb dX5_comes_132 rfl (lv_at hl 0 rfl) ?_
              refine g_cVv (As := [.int (nI k), .int (nI (4 + (2 * n))), .int ((g_min t (1200 - (g_sum ms k 0 (n - 0)))) - (g_min (g_min t (1200 - (g_sum ms k 0 (n - 0)))) (500 - (ms (10 + 24 * k + (4 + 2 * (n - 1)))))))]) (rest := []) hx hb hml hown hts hK hA hG hS (k_X5_lay l D cy N L F hN mt (upd ms (10 + 24 * k + (4 + (2 * (n - 1)))) ((ms (10 + 24 * k + (4 + 2 * (n - 1)))) + (g_min (g_min t (1200 - (g_sum ms k 0 (n - 0)))) (500 - (ms (10 + 24 * k + (4 + 2 * (n - 1)))))))) ma mv mn mb ml mp mw mr mq mh k (4 + (2 * n)) ((g_min t (1200 - (g_sum ms k 0 (n - 0)))) - (g_min (g_min t (1200 - (g_sum ms k 0 (n - 0)))) (500 - (ms (10 + 24 * k + (4 + 2 * (n - 1))))))) (by omega)) (cwV 3 hts gX5_comes_X5_lay rfl rfl rfl (by decide +kernel) ⟨Nat.le_of_ble_eq_true rfl, Nat.le_of_ble_eq_true rfl⟩) i162 mW_o (ci := 5) rfl rfl rfl rfl hl.1 (Nat.le_of_ble_eq_true rfl) dX5_comes_133 ⟨Nat.zero_le _, Nat.zero_le _⟩ (fun H locs hG hS => ?_)
              refine lv_aload_n hx hb dX5_comes_136 rfl (lv_at hl 4 rfl) ?_
              refine lv_iload_n hx hb dX5_comes_137 rfl (lv_at hl 5 rfl) ?_
              refine lv_iconst (v := 4) hx hb dX5_comes_138 (by decide) ?_
              refine lv_iconst (v := 2) hx hb dX5_comes_139 (by decide) ?_
              refine lv_iload hx hb dX5_comes_140 (lv_at hl 3 rfl) ?_
              refine lv_imul hx hb dX5_comes_142 ?_
              refine lv_toN (k := 2 * n) (pk_mul 2 n) ?_
              refine lv_iadd hx hb dX5_comes_143 ?_
              refine lv_toN (k := 4 + (2 * n)) (nI_add 4 (2 * n)) ?_
              refine lv_iconst (v := 1) hx hb dX5_comes_144 (by decide) ?_
              refine lv_iadd hx hb dX5_comes_145 ?_
              refine lv_toN (k := (4 + (2 * n)) + 1) (nI_add (4 + (2 * n)) 1) ?_
              refine lv_iconst (v := 0) hx hb dX5_comes_146 (by decide) ?_
              refine g_cVv (As := [.int (nI k), .int (nI ((4 + (2 * n)) + 1)), .int 0]) (rest := []) hx hb hml hown hts hK hA hG hS (k_X5_lay l D cy N L F hN mt (upd (upd ms (10 + 24 * k + (4 + (2 * (n - 1)))) ((ms (10 + 24 * k + (4 + 2 * (n - 1)))) + (g_min (g_min t (1200 - (g_sum ms k 0 (n - 0)))) (500 - (ms (10 + 24 * k + (4 + 2 * (n - 1)))))))) (10 + 24 * k + (4 + (2 * n))) ((g_min t (1200 - (g_sum ms k 0 (n - 0)))) - (g_min (g_min t (1200 - (g_sum ms k 0 (n - 0)))) (500 - (ms (10 + 24 * k + (4 + 2 * (n - 1)))))))) ma mv mn mb ml mp mw mr mq mh k ((4 + (2 * n)) + 1) 0 (by omega)) (cwV 3 hts gX5_comes_X5_lay rfl rfl rfl (by decide +kernel) ⟨Nat.le_of_ble_eq_true rfl, Nat.le_of_ble_eq_true rfl⟩) i162 mW_o (ci := 5) rfl rfl rfl rfl hl.1 (Nat.le_of_ble_eq_true rfl) dX5_comes_147 ⟨Nat.zero_le _, Nat.zero_le _⟩ (fun H locs hG hS => ?_)
              refine lv_aload_n hx hb dX5_comes_150 rfl (lv_at hl 4 rfl) ?_
              refine lv_iload_n hx hb dX5_comes_151 rfl (lv_at hl 5 rfl) ?_
              refine lv_iconst (v := 3) hx hb dX5_comes_152 (by decide) ?_
              refine lv_iload hx hb dX5_comes_153 (lv_at hl 3 rfl) ?_
              refine lv_iconst (v := 1) hx hb dX5_comes_155 (by decide) ?_
              refine lv_iadd hx hb dX5_comes_156 ?_
              refine lv_toN (k := n + 1) (nI_add n 1) ?_
              refine g_cVv (As := [.int (nI k), .int 3, .int (nI (n + 1))]) (rest := []) hx hb hml hown hts hK hA hG hS (k_X5_lay l D cy N L F hN mt (upd (upd (upd ms (10 + 24 * k + (4 + (2 * (n - 1)))) ((ms (10 + 24 * k + (4 + 2 * (n - 1)))) + (g_min (g_min t (1200 - (g_sum ms k 0 (n - 0)))) (500 - (ms (10 + 24 * k + (4 + 2 * (n - 1)))))))) (10 + 24 * k + (4 + (2 * n))) ((g_min t (1200 - (g_sum ms k 0 (n - 0)))) - (g_min (g_min t (1200 - (g_sum ms k 0 (n - 0)))) (500 - (ms (10 + 24 * k + (4 + 2 * (n - 1)))))))) (10 + 24 * k + ((4 + (2 * n)) + 1)) 0) ma mv mn mb ml mp mw mr mq mh k 3 (nI (n + 1)) (by omega)) (cwV 3 hts gX5_comes_X5_lay rfl rfl rfl (by decide +kernel) ⟨Nat.le_of_ble_eq_true rfl, Nat.le_of_ble_eq_true rfl⟩) i162 mW_o (ci := 5) rfl rfl rfl rfl hl.1 (Nat.le_of_ble_eq_true rfl) dX5_comes_157 ⟨Nat.zero_le _, Nat.zero_le _⟩ (fun H locs hG hS => ?_)
              refine lv_aload_n hx hb dX5_comes_160 rfl (lv_at hl 4 rfl) ?_
              refine lv_iload_n hx hb dX5_comes_161 rfl (lv_at hl 5 rfl) ?_
              refine lv_iconst (v := 2) hx hb dX5_comes_162 (by decide) ?_
              refine lv_iconst (v := 0) hx hb dX5_comes_163 (by decide) ?_
              refine g_cVv (As := [.int (nI k), .int 2, .int 0]) (rest := []) hx hb hml hown hts hK hA hG hS (k_X5_lay l D cy N L F hN mt (upd (upd (upd (upd ms (10 + 24 * k + (4 + (2 * (n - 1)))) ((ms (10 + 24 * k + (4 + 2 * (n - 1)))) + (g_min (g_min t (1200 - (g_sum ms k 0 (n - 0)))) (500 - (ms (10 + 24 * k + (4 + 2 * (n - 1)))))))) (10 + 24 * k + (4 + (2 * n))) ((g_min t (1200 - (g_sum ms k 0 (n - 0)))) - (g_min (g_min t (1200 - (g_sum ms k 0 (n - 0)))) (500 - (ms (10 + 24 * k + (4 + 2 * (n - 1)))))))) (10 + 24 * k + ((4 + (2 * n)) + 1)) 0) (10 + 24 * k + 3) (nI (n + 1))) ma mv mn mb ml mp mw mr mq mh k 2 0 (by omega)) (cwV 3 hts gX5_comes_X5_lay rfl rfl rfl (by decide +kernel) ⟨Nat.le_of_ble_eq_true rfl, Nat.le_of_ble_eq_true rfl⟩) i162 mW_o (ci := 5) rfl rfl rfl rfl hl.1 (Nat.le_of_ble_eq_true rfl) dX5_comes_164 ⟨Nat.zero_le _, Nat.zero_le _⟩ (fun H locs hG hS => ?_)
              refine lv_iload hx hb dX5_comes_167 (lv_at hl 1 rfl) ?_
              refine lv_iload_n hx hb dX5_comes_169 rfl (lv_at hl 0 rfl) ?_
              refine lv_iadd hx hb dX5_comes_170 ?_
              exact g_iret hx hb hr hlocks hK hG hS rfl dX5_comes_171 ⟨(congrArg (fun z9 => some (Value.int z9)) (by first | rfl | (simp only [g_comesR, g_comesS, g_top, g_cs1, g_cs2, g_left, c_25, eq_true c_37, c_111, c_118, if_true, if_false, not_true_eq_false, not_false_eq_true]; done) | (simp [g_comesR, g_comesS, g_top, g_cs1, g_cs2, g_left, c_25, eq_true c_37, c_111, c_118]; done))), (by first | rfl | (simp only [g_comesR, g_comesS, g_top, g_cs1, g_cs2, g_left, c_25, eq_true c_37, c_111, c_118, if_true, if_false, not_true_eq_false, not_false_eq_true]; done) | (simp [g_comesR, g_comesS, g_top, g_cs1, g_cs2, g_left, c_25, eq_true c_37, c_111, c_118]; done))⟩
            · skip
              have c_118 : n = 10 := (nI_eq (a := n) (b := 10) (by omega) (by omega)).mp c_118
              refine lv_iload hx hb dX5_comes_121 (lv_at hl 1 rfl) ?_
              exact g_iret hx hb hr hlocks hK hG hS rfl dX5_comes_123 ⟨(congrArg (fun z9 => some (Value.int z9)) (by first | rfl | (simp only [g_comesR, g_comesS, g_top, g_cs1, g_cs2, g_left, c_25, eq_true c_37, c_111, eq_true c_118, if_true, if_false, not_true_eq_false, not_false_eq_true]; done) | (simp [g_comesR, g_comesS, g_top, g_cs1, g_cs2, g_left, c_25, eq_true c_37, c_111, eq_true c_118]; done))), (by first | rfl | (simp only [g_comesR, g_comesS, g_top, g_cs1, g_cs2, g_left, c_25, eq_true c_37, c_111, eq_true c_118, if_true, if_false, not_true_eq_false, not_false_eq_true]; done) | (simp [g_comesR, g_comesS, g_top, g_cs1, g_cs2, g_left, c_25, eq_true c_37, c_111, eq_true c_118]; done))⟩
set_option maxHeartbeats 4000000 in
set_option maxRecDepth 100000 in
theorem k_X5_unloads (l : Launch) (D : va_G) (cy : Nat → ClassId) (N : Nat) (L : Nat → Nat) (F : Nat → va_E) (hN : 168 ≤ N) (mt : Int32) (ms ma mv : Nat → Int32) (mn : Int32) (mb : Nat → Int32) (ml mp mw : Int32) (mr : Nat → Int32) (mq : Int32) (mh : Int64) (k j n : Nat) (t : Int32) (hk : k < 4) (hn : ms (10 + 24 * k + 3) = nI n) (hn10 : n ≤ 10) (hj : j < 6) : GM l D cy N L yX5_unloads wsX5_unloads ({ frames := 4, cells := 0, slots := 0, locals := 94 }) [.ref (L 162), .int (nI k), .int (nI j), .int t] (mW cy L F mt ms ma mv mn mb ml mp mw mr mq mh) (some (.int (g_unlR ms k j n t))) (mW cy L F mt (g_unlS ms k j n t) ma mv mn mb ml mp mw mr mq mh) := by
  refine GM.ofW (cc := cX5_unloads) (maxL := 5) (ret := (some .int)) (by decide) rfl (Nat.le_of_ble_eq_true rfl) ?_
  intro p e s m below meth c ls hx hb hr hts hown hlocks hml hK hA hG hS hl
  have hl : lv_has ls 5 [(0, .ref (L 162)), (1, .int (nI k)), (2, .int (nI j)), (3, .int t)] := hl
  have i162 : 162 < N := by omega
  have i163 : 163 < N := by omega
  have i164 : 164 < N := by omega
  have i165 : 165 < N := by omega
  have i166 : 166 < N := by omega
  have i167 : 167 < N := by omega
  have hf7 := hts (.fieldLink RX5 7 "SiloPadsModel" "s" "[I") (by decide +kernel)
  have hinX5 : ∀ w ∈ u_ws RX5 TX5 12, w ∈ wsX5_unloads := by decide +kernel
  refine lv_aload_n hx hb dX5_unloads_0 rfl (lv_at hl 0 rfl) ?_
  refine lv_iload_n hx hb dX5_unloads_1 rfl (lv_at hl 1 rfl) ?_
  refine lv_iload_n hx hb dX5_unloads_2 rfl (lv_at hl 3 rfl) ?_
  refine lv_aload_n hx hb dX5_unloads_3 rfl (lv_at hl 0 rfl) ?_
  refine g_get (ci := 5) (C := RX5) (T := TX5) (M := 12) hx hb hts hinX5 hown hK hG i162 mW_o rfl 1 (by decide) hf7 rfl rfl dX5_unloads_4 ?_
  refine lv_bipush (v := 106) hx hb dX5_unloads_7 (by decide) ?_
  refine lv_iconst (v := 2) hx hb dX5_unloads_9 (by decide) ?_
  refine lv_iload_n hx hb dX5_unloads_10 rfl (lv_at hl 2 rfl) ?_
  refine lv_imul hx hb dX5_unloads_11 ?_
  refine lv_toN (k := 2 * j) (pk_mul 2 j) ?_
  refine lv_iadd hx hb dX5_unloads_12 ?_
  refine lv_toN (k := 106 + (2 * j)) (nI_add 106 (2 * j)) ?_
  refine g_iald hx hb hK hG i163 mW_a163 (k := 106 + (2 * j)) rfl (by omega) (by decide) dX5_unloads_13 ?_
  refine g_cSi (As := [.int t, .int (ms (106 + (2 * j)))]) (rest := [.int (nI k), .ref (L 162)]) hx hb hml hown hts hK hA hG hS (k_X5_lesser l D cy N L (mW cy L F mt ms ma mv mn mb ml mp mw mr mq mh) t (ms (106 + (2 * j))) ) (g_cwS 2 hts gX5_unloads_X5_lesser rfl rfl rfl (by decide +kernel) ⟨Nat.le_of_ble_eq_true rfl, Nat.le_of_ble_eq_true rfl⟩) rfl rfl hl.1 (Nat.le_of_ble_eq_true rfl) dX5_unloads_14 ⟨Nat.zero_le _, Nat.zero_le _⟩ (fun H locs hG hS => ?_)
  refine g_cVi (As := [.int (nI k), .int (g_min t (ms (106 + (2 * j))))]) (rest := []) hx hb hml hown hts hK hA hG hS (k_X5_comes l D cy N L F hN mt ms ma mv mn mb ml mp mw mr mq mh k n (g_min t (ms (106 + (2 * j)))) (by omega) (hn) (by omega)) (cwV 2 hts gX5_unloads_X5_comes rfl rfl rfl (by decide +kernel) ⟨Nat.le_of_ble_eq_true rfl, Nat.le_of_ble_eq_true rfl⟩) i162 mW_o (ci := 5) rfl rfl rfl rfl hl.1 (Nat.le_of_ble_eq_true rfl) dX5_unloads_17 ⟨Nat.zero_le _, Nat.zero_le _⟩ (fun H locs hG hS => ?_)
  refine lv_istore (lv' := [(4, .int (g_comesR ms k n (g_min t (ms (106 + (2 * j)))))), (0, .ref (L 162)), (1, .int (nI k)), (2, .int (nI j)), (3, .int t)]) hx hb dX5_unloads_20 hl (by decide) rfl (fun ls hl => ?_)
  refine lv_aload_n hx hb dX5_unloads_22 rfl (lv_at hl 1 rfl) ?_
  refine g_get (ci := 5) (C := RX5) (T := TX5) (M := 12) hx hb hts hinX5 hown hK hG i162 mW_o rfl 1 (by decide) hf7 rfl rfl dX5_unloads_23 ?_
  refine lv_bipush (v := 106) hx hb dX5_unloads_26 (by decide) ?_
  refine lv_iconst (v := 2) hx hb dX5_unloads_28 (by decide) ?_
  refine lv_iload_n hx hb dX5_unloads_29 rfl (lv_at hl 3 rfl) ?_
  refine lv_imul hx hb dX5_unloads_30 ?_
  refine lv_toN (k := 2 * j) (pk_mul 2 j) ?_
  refine lv_iadd hx hb dX5_unloads_31 ?_
  refine lv_toN (k := 106 + (2 * j)) (nI_add 106 (2 * j)) ?_
  refine lv_dup2_11 hx hb dX5_unloads_32 rfl rfl ?_
  refine g_iald hx hb hK hG i163 mW_a163 (k := 106 + (2 * j)) rfl (by omega) (by decide) dX5_unloads_33 ?_
  refine lv_iload hx hb dX5_unloads_34 (lv_at hl 0 rfl) ?_
  refine lv_isub hx hb dX5_unloads_36 ?_
  refine g_iast hx hb hK hG hS i163 mW_a163 (k := 106 + (2 * j)) rfl (by omega) (by decide) dX5_unloads_37 (fun H locs hG hS => ?_)
  have hG := hG.to mW_us
  refine lv_iload hx hb dX5_unloads_38 (lv_at hl 0 rfl) ?_
  exact g_iret hx hb hr hlocks hK hG hS rfl dX5_unloads_40 ⟨(congrArg (fun z9 => some (Value.int z9)) (by first | rfl | (simp only [g_unlR, g_unlS, if_true, if_false, not_true_eq_false, not_false_eq_true]; done) | (simp [g_unlR, g_unlS]; done))), (by first | rfl | (simp only [g_unlR, g_unlS, if_true, if_false, not_true_eq_false, not_false_eq_true]; done) | (simp [g_unlR, g_unlS]; done))⟩
set_option maxHeartbeats 4000000 in
set_option maxRecDepth 100000 in
theorem k_X5_forms (l : Launch) (D : va_G) (cy : Nat → ClassId) (N : Nat) (L : Nat → Nat) (F : Nat → va_E) (hN : 168 ≤ N) (mt : Int32) (ms ma mv : Nat → Int32) (mn : Int32) (mb : Nat → Int32) (ml mp mw : Int32) (mr : Nat → Int32) (mq : Int32) (mh : Int64) (k : Nat) (hk : k < 4) : GM l D cy N L yX5_forms wsX5_forms ({ frames := 3, cells := 0, slots := 0, locals := 67 }) [.ref (L 162), .int (nI k)] (mW cy L F mt ms ma mv mn mb ml mp mw mr mq mh) (some (.int (g_forms ms k))) (mW cy L F mt ms ma mv mn mb ml mp mw mr mq mh) := by
  refine GM.ofW (cc := cX5_forms) (maxL := 2) (ret := (some .boolean)) (by decide) rfl (Nat.le_of_ble_eq_true rfl) ?_
  intro p e s m below meth c ls hx hb hr hts hown hlocks hml hK hA hG hS hl
  have hl : lv_has ls 2 [(0, .ref (L 162)), (1, .int (nI k))] := hl
  have i162 : 162 < N := by omega
  have i163 : 163 < N := by omega
  have i164 : 164 < N := by omega
  have i165 : 165 < N := by omega
  have i166 : 166 < N := by omega
  have i167 : 167 < N := by omega
  refine lv_aload_n hx hb dX5_forms_0 rfl (lv_at hl 0 rfl) ?_
  refine lv_iload_n hx hb dX5_forms_1 rfl (lv_at hl 1 rfl) ?_
  refine lv_iconst (v := 3) hx hb dX5_forms_2 (by decide) ?_
  refine g_cVi (As := [.int (nI k), .int 3]) (rest := []) hx hb hml hown hts hK hA hG hS (k_X5_of l D cy N L F hN mt ms ma mv mn mb ml mp mw mr mq mh k 3 (by omega)) (cwV 2 hts gX5_forms_X5_of rfl rfl rfl (by decide +kernel) ⟨Nat.le_of_ble_eq_true rfl, Nat.le_of_ble_eq_true rfl⟩) i162 mW_o (ci := 5) rfl rfl rfl rfl hl.1 (Nat.le_of_ble_eq_true rfl) dX5_forms_3 ⟨Nat.zero_le _, Nat.zero_le _⟩ (fun H locs hG hS => ?_)
  refine lv_iconst (v := 1) hx hb dX5_forms_6 (by decide) ?_
  refine lv_icmp_le (tgt := 32) hx hb dX5_forms_7 (by decide) (fun c_7 => ?_) (fun c_7 => ?_)
  · skip
    refine lv_iconst (v := 0) hx hb dX5_forms_32 (by decide) ?_
    exact g_iret hx hb hr hlocks hK hG hS rfl dX5_forms_33 ⟨(congrArg (fun z9 => some (Value.int z9)) (by first | rfl | (simp only [g_forms, c_7, if_true, if_false, not_true_eq_false, not_false_eq_true]; done) | (simp [g_forms, c_7]; done))), rfl⟩
  · skip
    refine lv_aload_n hx hb dX5_forms_10 rfl (lv_at hl 0 rfl) ?_
    refine lv_iload_n hx hb dX5_forms_11 rfl (lv_at hl 1 rfl) ?_
    refine lv_iconst (v := 0) hx hb dX5_forms_12 (by decide) ?_
    refine g_cVi (As := [.int (nI k), .int 0]) (rest := []) hx hb hml hown hts hK hA hG hS (k_X5_setOf l D cy N L F hN mt ms ma mv mn mb ml mp mw mr mq mh k 0 (by omega)) (cwV 2 hts gX5_forms_X5_setOf rfl rfl rfl (by decide +kernel) ⟨Nat.le_of_ble_eq_true rfl, Nat.le_of_ble_eq_true rfl⟩) i162 mW_o (ci := 5) rfl rfl rfl rfl hl.1 (Nat.le_of_ble_eq_true rfl) dX5_forms_13 ⟨Nat.zero_le _, Nat.zero_le _⟩ (fun H locs hG hS => ?_)
    refine lv_if_le (tgt := 32) hx hb dX5_forms_16 (by decide) (fun c_16 => ?_) (fun c_16 => ?_)
    · skip
      refine lv_iconst (v := 0) hx hb dX5_forms_32 (by decide) ?_
      exact g_iret hx hb hr hlocks hK hG hS rfl dX5_forms_33 ⟨(congrArg (fun z9 => some (Value.int z9)) (by first | rfl | (simp only [g_forms, c_7, c_16, if_true, if_false, not_true_eq_false, not_false_eq_true]; done) | (simp [g_forms, c_7, c_16]; done))), rfl⟩
    · skip
      refine lv_aload_n hx hb dX5_forms_19 rfl (lv_at hl 0 rfl) ?_
      refine lv_iload_n hx hb dX5_forms_20 rfl (lv_at hl 1 rfl) ?_
      refine lv_iconst (v := 1) hx hb dX5_forms_21 (by decide) ?_
      refine g_cVi (As := [.int (nI k), .int 1]) (rest := []) hx hb hml hown hts hK hA hG hS (k_X5_of l D cy N L F hN mt ms ma mv mn mb ml mp mw mr mq mh k 1 (by omega)) (cwV 2 hts gX5_forms_X5_of rfl rfl rfl (by decide +kernel) ⟨Nat.le_of_ble_eq_true rfl, Nat.le_of_ble_eq_true rfl⟩) i162 mW_o (ci := 5) rfl rfl rfl rfl hl.1 (Nat.le_of_ble_eq_true rfl) dX5_forms_22 ⟨Nat.zero_le _, Nat.zero_le _⟩ (fun H locs hG hS => ?_)
      refine lv_if_ne (tgt := 32) hx hb dX5_forms_25 (by decide) (fun c_25 => ?_) (fun c_25 => ?_)
      · skip
        refine lv_iconst (v := 0) hx hb dX5_forms_32 (by decide) ?_
        exact g_iret hx hb hr hlocks hK hG hS rfl dX5_forms_33 ⟨(congrArg (fun z9 => some (Value.int z9)) (by first | rfl | (simp only [g_forms, c_7, c_16, c_25, if_true, if_false, not_true_eq_false, not_false_eq_true]; done) | (simp [g_forms, c_7, c_16, c_25]; done))), rfl⟩
      · skip
        refine lv_iconst (v := 1) hx hb dX5_forms_28 (by decide) ?_
        refine lv_goto (tgt := 33) hx hb dX5_forms_29 (by decide) ?_
        exact g_iret hx hb hr hlocks hK hG hS rfl dX5_forms_33 ⟨(congrArg (fun z9 => some (Value.int z9)) (by first | rfl | (simp only [g_forms, c_7, c_16, eq_true c_25, if_true, if_false, not_true_eq_false, not_false_eq_true]; done) | (simp [g_forms, c_7, c_16, eq_true c_25]; done))), rfl⟩
set_option maxHeartbeats 4000000 in
set_option maxRecDepth 100000 in
theorem k_X5_isHeavy (l : Launch) (D : va_G) (cy : Nat → ClassId) (N : Nat) (L : Nat → Nat) (F : Nat → va_E) (hN : 168 ≤ N) (mt : Int32) (ms ma mv : Nat → Int32) (mn : Int32) (mb : Nat → Int32) (ml mp mw : Int32) (mr : Nat → Int32) (mq : Int32) (mh : Int64) (k n : Nat) (hk : k < 4) (hn : ms (10 + 24 * k + 3) = nI n) (hn10 : n ≤ 10) (hn1 : 1 ≤ n ∨ ms (10 + 24 * k + 1) = 2) : GM l D cy N L yX5_isHeavy wsX5_isHeavy ({ frames := 3, cells := 0, slots := 0, locals := 68 }) [.ref (L 162), .int (nI k)] (mW cy L F mt ms ma mv mn mb ml mp mw mr mq mh) (some (.int (g_heavy ms k n))) (mW cy L F mt ms ma mv mn mb ml mp mw mr mq mh) := by
  refine GM.ofW (cc := cX5_isHeavy) (maxL := 2) (ret := (some .boolean)) (by decide) rfl (Nat.le_of_ble_eq_true rfl) ?_
  intro p e s m below meth c ls hx hb hr hts hown hlocks hml hK hA hG hS hl
  have hl : lv_has ls 2 [(0, .ref (L 162)), (1, .int (nI k))] := hl
  have i162 : 162 < N := by omega
  have i163 : 163 < N := by omega
  have i164 : 164 < N := by omega
  have i165 : 165 < N := by omega
  have i166 : 166 < N := by omega
  have i167 : 167 < N := by omega
  have hf7 := hts (.fieldLink RX5 7 "SiloPadsModel" "s" "[I") (by decide +kernel)
  have hinX5 : ∀ w ∈ u_ws RX5 TX5 12, w ∈ wsX5_isHeavy := by decide +kernel
  refine lv_aload_n hx hb dX5_isHeavy_0 rfl (lv_at hl 0 rfl) ?_
  refine lv_iload_n hx hb dX5_isHeavy_1 rfl (lv_at hl 1 rfl) ?_
  refine lv_aload_n hx hb dX5_isHeavy_2 rfl (lv_at hl 0 rfl) ?_
  refine lv_iload_n hx hb dX5_isHeavy_3 rfl (lv_at hl 1 rfl) ?_
  refine lv_iconst (v := 1) hx hb dX5_isHeavy_4 (by decide) ?_
  refine g_cVi (As := [.int (nI k), .int 1]) (rest := [.int (nI k), .ref (L 162)]) hx hb hml hown hts hK hA hG hS (k_X5_of l D cy N L F hN mt ms ma mv mn mb ml mp mw mr mq mh k 1 (by omega)) (cwV 2 hts gX5_isHeavy_X5_of rfl rfl rfl (by decide +kernel) ⟨Nat.le_of_ble_eq_true rfl, Nat.le_of_ble_eq_true rfl⟩) i162 mW_o (ci := 5) rfl rfl rfl rfl hl.1 (Nat.le_of_ble_eq_true rfl) dX5_isHeavy_5 ⟨Nat.zero_le _, Nat.zero_le _⟩ (fun H locs hG hS => ?_)
  refine lv_iconst (v := 2) hx hb dX5_isHeavy_8 (by decide) ?_
  refine lv_icmp_ne (tgt := 16) hx hb dX5_isHeavy_9 (by decide) (fun c_9 => ?_) (fun c_9 => ?_)
  · skip
    refine lv_iconst (v := 1) hx hb dX5_isHeavy_16 (by decide) ?_
    refine g_cVi (As := [.int (nI k), .int 1]) (rest := []) hx hb hml hown hts hK hA hG hS (k_X5_sumFrom l D cy N L F hN mt ms ma mv mn mb ml mp mw mr mq mh k 1 n (by omega) (hn) (by omega) (by first | omega | (rcases hn1 with h9 | h9 <;> first | omega | (exact absurd h9 c_9)))) (cwV 2 hts gX5_isHeavy_X5_sumFrom rfl rfl rfl (by decide +kernel) ⟨Nat.le_of_ble_eq_true rfl, Nat.le_of_ble_eq_true rfl⟩) i162 mW_o (ci := 5) rfl rfl rfl rfl hl.1 (Nat.le_of_ble_eq_true rfl) dX5_isHeavy_17 ⟨Nat.zero_le _, Nat.zero_le _⟩ (fun H locs hG hS => ?_)
    refine lv_aload_n hx hb dX5_isHeavy_20 rfl (lv_at hl 0 rfl) ?_
    refine g_get (ci := 5) (C := RX5) (T := TX5) (M := 12) hx hb hts hinX5 hown hK hG i162 mW_o rfl 1 (by decide) hf7 rfl rfl dX5_isHeavy_21 ?_
    refine lv_bipush (v := 9) hx hb dX5_isHeavy_24 (by decide) ?_
    refine g_iald hx hb hK hG i163 mW_a163 (k := 9) rfl (by omega) (by decide) dX5_isHeavy_26 ?_
    refine lv_icmp_lt (tgt := 34) hx hb dX5_isHeavy_27 (by decide) (fun c_27 => ?_) (fun c_27 => ?_)
    · skip
      refine lv_iconst (v := 0) hx hb dX5_isHeavy_34 (by decide) ?_
      exact g_iret hx hb hr hlocks hK hG hS rfl dX5_isHeavy_35 ⟨(congrArg (fun z9 => some (Value.int z9)) (by first | rfl | (simp only [g_heavy, c_9, c_27, if_true, if_false, not_true_eq_false, not_false_eq_true]; done) | (simp [g_heavy, c_9, c_27]; done))), rfl⟩
    · skip
      refine lv_iconst (v := 1) hx hb dX5_isHeavy_30 (by decide) ?_
      refine lv_goto (tgt := 35) hx hb dX5_isHeavy_31 (by decide) ?_
      exact g_iret hx hb hr hlocks hK hG hS rfl dX5_isHeavy_35 ⟨(congrArg (fun z9 => some (Value.int z9)) (by first | rfl | (simp only [g_heavy, c_9, c_27, if_true, if_false, not_true_eq_false, not_false_eq_true]; done) | (simp [g_heavy, c_9, c_27]; done))), rfl⟩
  · skip
    refine lv_iconst (v := 0) hx hb dX5_isHeavy_12 (by decide) ?_
    refine lv_goto (tgt := 17) hx hb dX5_isHeavy_13 (by decide) ?_
    refine g_cVi (As := [.int (nI k), .int 0]) (rest := []) hx hb hml hown hts hK hA hG hS (k_X5_sumFrom l D cy N L F hN mt ms ma mv mn mb ml mp mw mr mq mh k 0 n (by omega) (hn) (by omega) (by first | omega | (rcases hn1 with h9 | h9 <;> first | omega | (exact absurd h9 c_9)))) (cwV 2 hts gX5_isHeavy_X5_sumFrom rfl rfl rfl (by decide +kernel) ⟨Nat.le_of_ble_eq_true rfl, Nat.le_of_ble_eq_true rfl⟩) i162 mW_o (ci := 5) rfl rfl rfl rfl hl.1 (Nat.le_of_ble_eq_true rfl) dX5_isHeavy_17 ⟨Nat.zero_le _, Nat.zero_le _⟩ (fun H locs hG hS => ?_)
    refine lv_aload_n hx hb dX5_isHeavy_20 rfl (lv_at hl 0 rfl) ?_
    refine g_get (ci := 5) (C := RX5) (T := TX5) (M := 12) hx hb hts hinX5 hown hK hG i162 mW_o rfl 1 (by decide) hf7 rfl rfl dX5_isHeavy_21 ?_
    refine lv_bipush (v := 9) hx hb dX5_isHeavy_24 (by decide) ?_
    refine g_iald hx hb hK hG i163 mW_a163 (k := 9) rfl (by omega) (by decide) dX5_isHeavy_26 ?_
    refine lv_icmp_lt (tgt := 34) hx hb dX5_isHeavy_27 (by decide) (fun c_27 => ?_) (fun c_27 => ?_)
    · skip
      refine lv_iconst (v := 0) hx hb dX5_isHeavy_34 (by decide) ?_
      exact g_iret hx hb hr hlocks hK hG hS rfl dX5_isHeavy_35 ⟨(congrArg (fun z9 => some (Value.int z9)) (by first | rfl | (simp only [g_heavy, eq_true c_9, c_27, if_true, if_false, not_true_eq_false, not_false_eq_true]; done) | (simp [g_heavy, eq_true c_9, c_27]; done))), rfl⟩
    · skip
      refine lv_iconst (v := 1) hx hb dX5_isHeavy_30 (by decide) ?_
      refine lv_goto (tgt := 35) hx hb dX5_isHeavy_31 (by decide) ?_
      exact g_iret hx hb hr hlocks hK hG hS rfl dX5_isHeavy_35 ⟨(congrArg (fun z9 => some (Value.int z9)) (by first | rfl | (simp only [g_heavy, eq_true c_9, c_27, if_true, if_false, not_true_eq_false, not_false_eq_true]; done) | (simp [g_heavy, eq_true c_9, c_27]; done))), rfl⟩
set_option maxHeartbeats 4000000 in
set_option maxRecDepth 100000 in
theorem k_X5_padsOn (l : Launch) (D : va_G) (cy : Nat → ClassId) (N : Nat) (L : Nat → Nat) (F : Nat → va_E) (hN : 168 ≤ N) (mt : Int32) (ms ma mv : Nat → Int32) (mn : Int32) (mb : Nat → Int32) (ml mp mw : Int32) (mr : Nat → Int32) (mq : Int32) (mh : Int64)   : GM l D cy N L yX5_padsOn wsX5_padsOn ({ frames := 1, cells := 0, slots := 0, locals := 22 }) [.ref (L 162)] (mW cy L F mt ms ma mv mn mb ml mp mw mr mq mh) (some (.int (g_padsOn ms 4))) (mW cy L F mt ms ma mv mn mb ml mp mw mr mq mh) := by
  refine GM.ofW (cc := cX5_padsOn) (maxL := 3) (ret := (some .int)) (by decide) rfl (Nat.le_of_ble_eq_true rfl) ?_
  intro p e s m below meth c ls hx hb hr hts hown hlocks hml hK hA hG hS hl
  have hl : lv_has ls 3 [(0, .ref (L 162))] := hl
  have i162 : 162 < N := by omega
  have i163 : 163 < N := by omega
  have i164 : 164 < N := by omega
  have i165 : 165 < N := by omega
  have i166 : 166 < N := by omega
  have i167 : 167 < N := by omega
  refine lv_iconst (v := 0) hx hb dX5_padsOn_0 (by decide) ?_
  refine lv_istore_n (lv' := [(1, .int 0), (0, .ref (L 162))]) hx hb dX5_padsOn_1 rfl hl (by decide) rfl (fun ls hl => ?_)
  refine lv_iconst (v := 0) hx hb dX5_padsOn_2 (by decide) ?_
  refine lv_istore_n (lv' := [(2, .int 0), (1, .int 0), (0, .ref (L 162))]) hx hb dX5_padsOn_3 rfl hl (by decide) rfl (fun ls hl => ?_)
  refine W.loop (σ := Nat) (fun k H locs ls => (k ≤ 4) ∧ GW D N L (gA N L s.heap.size) (mW cy L F mt ms ma mv mn mb ml mp mw mr mq mh) H ∧ va_S (gA N L s.heap.size) s.heap H locs ∧ lv_has ls 3 [(1, .int (g_padsOn ms k)), (2, .int (nI k)), (0, .ref (L 162))]) (fun k => 4 - k) 0 ⟨by omega, hG.to (rfl), hS, lv_to (lv_sub hl [1, 0, 2] rfl) (rfl)⟩ ?_
  intro k H locs ls hP9 ih4
  obtain ⟨hk9, hG, hS, hl⟩ := hP9
  refine lv_iload_n hx hb dX5_padsOn_4 rfl (lv_at hl 1 rfl) ?_
  refine lv_iconst (v := 4) hx hb dX5_padsOn_5 (by decide) ?_
  refine lv_icmp_ge (tgt := 24) hx hb dX5_padsOn_6 (by decide) (fun c_6 => ?_) (fun c_6 => ?_)
  · skip
    have c_6 : 4 ≤ k := (nI_leI (a := 4) (b := k) (by omega) (by omega)).mp c_6
    refine lv_iload_n hx hb dX5_padsOn_24 rfl (lv_at hl 0 rfl) ?_
    exact g_iret hx hb hr hlocks hK hG hS rfl dX5_padsOn_25 ⟨(congrArg (fun z9 => some (Value.int z9)) (by rw [show k = 4 by omega])), rfl⟩
  · skip
    have c_6 : ¬ 4 ≤ k := fun h9 => c_6 ((nI_leI (a := 4) (b := k) (by omega) (by omega)).mpr h9)
    refine lv_iload_n hx hb dX5_padsOn_9 rfl (lv_at hl 0 rfl) ?_
    refine lv_aload_n hx hb dX5_padsOn_10 rfl (lv_at hl 2 rfl) ?_
    refine lv_iload_n hx hb dX5_padsOn_11 rfl (lv_at hl 1 rfl) ?_
    refine lv_iconst (v := 0) hx hb dX5_padsOn_12 (by decide) ?_
    refine g_cVi (As := [.int (nI k), .int 0]) (rest := [.int (g_padsOn ms k)]) hx hb hml hown hts hK hA hG hS (k_X5_of l D cy N L F hN mt ms ma mv mn mb ml mp mw mr mq mh k 0 (by omega)) (cwV 2 hts gX5_padsOn_X5_of rfl rfl rfl (by decide +kernel) ⟨Nat.le_of_ble_eq_true rfl, Nat.le_of_ble_eq_true rfl⟩) i162 mW_o (ci := 5) rfl rfl rfl rfl hl.1 (Nat.le_of_ble_eq_true rfl) dX5_padsOn_13 ⟨Nat.zero_le _, Nat.zero_le _⟩ (fun H locs hG hS => ?_)
    refine lv_iadd hx hb dX5_padsOn_16 ?_
    refine lv_istore_n (lv' := [(1, .int ((g_padsOn ms k) + (ms (10 + 24 * k + 0)))), (2, .int (nI k)), (0, .ref (L 162))]) hx hb dX5_padsOn_17 rfl hl (by decide) rfl (fun ls hl => ?_)
    refine lv_iinc (v := nI (k + 1)) (lv' := [(2, .int (nI (k + 1))), (1, .int ((g_padsOn ms k) + (ms (10 + 24 * k + 0)))), (0, .ref (L 162))]) hx hb dX5_padsOn_18 hl (k := 1) rfl (nI_add k 1) (by decide) rfl (fun ls hl => ?_)
    refine lv_goto (tgt := 4) hx hb dX5_padsOn_21 (by decide) ?_
    have hl : lv_has ls 3 [(1, .int ((g_padsOn ms k) + (ms (10 + 24 * k + 0)))), (2, .int (nI (k + 1))), (0, .ref (L 162))] := lv_sub hl [1, 0, 2] rfl
    exact ih4 (k + 1) _ _ _ (by omega) ⟨by omega, hG.to (rfl), hS, lv_to hl (rfl)⟩
set_option maxHeartbeats 4000000 in
set_option maxRecDepth 100000 in
theorem k_X5_arches (l : Launch) (D : va_G) (cy : Nat → ClassId) (N : Nat) (L : Nat → Nat) (F : Nat → va_E) (hN : 168 ≤ N) (mt : Int32) (ms ma mv : Nat → Int32) (mn : Int32) (mb : Nat → Int32) (ml mp mw : Int32) (mr : Nat → Int32) (mq : Int32) (mh : Int64)   : GM l D cy N L yX5_arches wsX5_arches ({ frames := 1, cells := 0, slots := 0, locals := 22 }) [.ref (L 162)] (mW cy L F mt ms ma mv mn mb ml mp mw mr mq mh) (some (.int (g_arches ms 4))) (mW cy L F mt ms ma mv mn mb ml mp mw mr mq mh) := by
  refine GM.ofW (cc := cX5_arches) (maxL := 3) (ret := (some .int)) (by decide) rfl (Nat.le_of_ble_eq_true rfl) ?_
  intro p e s m below meth c ls hx hb hr hts hown hlocks hml hK hA hG hS hl
  have hl : lv_has ls 3 [(0, .ref (L 162))] := hl
  have i162 : 162 < N := by omega
  have i163 : 163 < N := by omega
  have i164 : 164 < N := by omega
  have i165 : 165 < N := by omega
  have i166 : 166 < N := by omega
  have i167 : 167 < N := by omega
  refine lv_iconst (v := 0) hx hb dX5_arches_0 (by decide) ?_
  refine lv_istore_n (lv' := [(1, .int 0), (0, .ref (L 162))]) hx hb dX5_arches_1 rfl hl (by decide) rfl (fun ls hl => ?_)
  refine lv_iconst (v := 0) hx hb dX5_arches_2 (by decide) ?_
  refine lv_istore_n (lv' := [(2, .int 0), (1, .int 0), (0, .ref (L 162))]) hx hb dX5_arches_3 rfl hl (by decide) rfl (fun ls hl => ?_)
  refine W.loop (σ := Nat) (fun k H locs ls => (k ≤ 4) ∧ GW D N L (gA N L s.heap.size) (mW cy L F mt ms ma mv mn mb ml mp mw mr mq mh) H ∧ va_S (gA N L s.heap.size) s.heap H locs ∧ lv_has ls 3 [(1, .int (g_arches ms k)), (2, .int (nI k)), (0, .ref (L 162))]) (fun k => 4 - k) 0 ⟨by omega, hG.to (rfl), hS, lv_to (lv_sub hl [1, 0, 2] rfl) (rfl)⟩ ?_
  intro k H locs ls hP9 ih4
  obtain ⟨hk9, hG, hS, hl⟩ := hP9
  refine lv_iload_n hx hb dX5_arches_4 rfl (lv_at hl 1 rfl) ?_
  refine lv_iconst (v := 4) hx hb dX5_arches_5 (by decide) ?_
  refine lv_icmp_ge (tgt := 32) hx hb dX5_arches_6 (by decide) (fun c_6 => ?_) (fun c_6 => ?_)
  · skip
    have c_6 : 4 ≤ k := (nI_leI (a := 4) (b := k) (by omega) (by omega)).mp c_6
    refine lv_iload_n hx hb dX5_arches_32 rfl (lv_at hl 0 rfl) ?_
    exact g_iret hx hb hr hlocks hK hG hS rfl dX5_arches_33 ⟨(congrArg (fun z9 => some (Value.int z9)) (by rw [show k = 4 by omega])), rfl⟩
  · skip
    have c_6 : ¬ 4 ≤ k := fun h9 => c_6 ((nI_leI (a := 4) (b := k) (by omega) (by omega)).mpr h9)
    refine lv_iload_n hx hb dX5_arches_9 rfl (lv_at hl 0 rfl) ?_
    refine lv_aload_n hx hb dX5_arches_10 rfl (lv_at hl 2 rfl) ?_
    refine lv_iload_n hx hb dX5_arches_11 rfl (lv_at hl 1 rfl) ?_
    refine lv_iconst (v := 1) hx hb dX5_arches_12 (by decide) ?_
    refine g_cVi (As := [.int (nI k), .int 1]) (rest := [.int (g_arches ms k)]) hx hb hml hown hts hK hA hG hS (k_X5_of l D cy N L F hN mt ms ma mv mn mb ml mp mw mr mq mh k 1 (by omega)) (cwV 2 hts gX5_arches_X5_of rfl rfl rfl (by decide +kernel) ⟨Nat.le_of_ble_eq_true rfl, Nat.le_of_ble_eq_true rfl⟩) i162 mW_o (ci := 5) rfl rfl rfl rfl hl.1 (Nat.le_of_ble_eq_true rfl) dX5_arches_13 ⟨Nat.zero_le _, Nat.zero_le _⟩ (fun H locs hG hS => ?_)
    refine lv_if_le (tgt := 23) hx hb dX5_arches_16 (by decide) (fun c_16 => ?_) (fun c_16 => ?_)
    · skip
      refine lv_iconst (v := 0) hx hb dX5_arches_23 (by decide) ?_
      refine lv_iadd hx hb dX5_arches_24 ?_
      refine lv_istore_n (lv' := [(1, .int ((g_arches ms k) + 0)), (2, .int (nI k)), (0, .ref (L 162))]) hx hb dX5_arches_25 rfl hl (by decide) rfl (fun ls hl => ?_)
      refine lv_iinc (v := nI (k + 1)) (lv' := [(2, .int (nI (k + 1))), (1, .int ((g_arches ms k) + 0)), (0, .ref (L 162))]) hx hb dX5_arches_26 hl (k := 1) rfl (nI_add k 1) (by decide) rfl (fun ls hl => ?_)
      refine lv_goto (tgt := 4) hx hb dX5_arches_29 (by decide) ?_
      have hl : lv_has ls 3 [(1, .int ((g_arches ms k) + 0)), (2, .int (nI (k + 1))), (0, .ref (L 162))] := lv_sub hl [1, 0, 2] rfl
      exact ih4 (k + 1) _ _ _ (by omega) ⟨by omega, hG.to (rfl), hS, lv_to hl (by simp [g_arches, c_6, c_16])⟩
    · skip
      refine lv_iconst (v := 1) hx hb dX5_arches_19 (by decide) ?_
      refine lv_goto (tgt := 24) hx hb dX5_arches_20 (by decide) ?_
      refine lv_iadd hx hb dX5_arches_24 ?_
      refine lv_istore_n (lv' := [(1, .int ((g_arches ms k) + 1)), (2, .int (nI k)), (0, .ref (L 162))]) hx hb dX5_arches_25 rfl hl (by decide) rfl (fun ls hl => ?_)
      refine lv_iinc (v := nI (k + 1)) (lv' := [(2, .int (nI (k + 1))), (1, .int ((g_arches ms k) + 1)), (0, .ref (L 162))]) hx hb dX5_arches_26 hl (k := 1) rfl (nI_add k 1) (by decide) rfl (fun ls hl => ?_)
      refine lv_goto (tgt := 4) hx hb dX5_arches_29 (by decide) ?_
      have hl : lv_has ls 3 [(1, .int ((g_arches ms k) + 1)), (2, .int (nI (k + 1))), (0, .ref (L 162))] := lv_sub hl [1, 0, 2] rfl
      exact ih4 (k + 1) _ _ _ (by omega) ⟨by omega, hG.to (rfl), hS, lv_to hl (by simp [g_arches, c_6, c_16])⟩
set_option maxHeartbeats 4000000 in
set_option maxRecDepth 100000 in
theorem k_X5_inSilos (l : Launch) (D : va_G) (cy : Nat → ClassId) (N : Nat) (L : Nat → Nat) (F : Nat → va_E) (hN : 168 ≤ N) (mt : Int32) (ms ma mv : Nat → Int32) (mn : Int32) (mb : Nat → Int32) (ml mp mw : Int32) (mr : Nat → Int32) (mq : Int32) (mh : Int64)  (hw : wfM ms) : GM l D cy N L yX5_inSilos wsX5_inSilos ({ frames := 3, cells := 0, slots := 0, locals := 68 }) [.ref (L 162)] (mW cy L F mt ms ma mv mn mb ml mp mw mr mq mh) (some (.int (g_inSilos ms 4))) (mW cy L F mt ms ma mv mn mb ml mp mw mr mq mh) := by
  refine GM.ofW (cc := cX5_inSilos) (maxL := 3) (ret := (some .int)) (by decide) rfl (Nat.le_of_ble_eq_true rfl) ?_
  intro p e s m below meth c ls hx hb hr hts hown hlocks hml hK hA hG hS hl
  have hl : lv_has ls 3 [(0, .ref (L 162))] := hl
  have i162 : 162 < N := by omega
  have i163 : 163 < N := by omega
  have i164 : 164 < N := by omega
  have i165 : 165 < N := by omega
  have i166 : 166 < N := by omega
  have i167 : 167 < N := by omega
  refine lv_iconst (v := 0) hx hb dX5_inSilos_0 (by decide) ?_
  refine lv_istore_n (lv' := [(1, .int 0), (0, .ref (L 162))]) hx hb dX5_inSilos_1 rfl hl (by decide) rfl (fun ls hl => ?_)
  refine lv_iconst (v := 0) hx hb dX5_inSilos_2 (by decide) ?_
  refine lv_istore_n (lv' := [(2, .int 0), (1, .int 0), (0, .ref (L 162))]) hx hb dX5_inSilos_3 rfl hl (by decide) rfl (fun ls hl => ?_)
  refine W.loop (σ := Nat) (fun k H locs ls => (k ≤ 4) ∧ GW D N L (gA N L s.heap.size) (mW cy L F mt ms ma mv mn mb ml mp mw mr mq mh) H ∧ va_S (gA N L s.heap.size) s.heap H locs ∧ lv_has ls 3 [(1, .int (g_inSilos ms k)), (2, .int (nI k)), (0, .ref (L 162))]) (fun k => 4 - k) 0 ⟨by omega, hG.to (rfl), hS, lv_to (lv_sub hl [1, 0, 2] rfl) (rfl)⟩ ?_
  intro k H locs ls hP9 ih4
  obtain ⟨hk9, hG, hS, hl⟩ := hP9
  refine lv_iload_n hx hb dX5_inSilos_4 rfl (lv_at hl 1 rfl) ?_
  refine lv_iconst (v := 4) hx hb dX5_inSilos_5 (by decide) ?_
  refine lv_icmp_ge (tgt := 24) hx hb dX5_inSilos_6 (by decide) (fun c_6 => ?_) (fun c_6 => ?_)
  · skip
    have c_6 : 4 ≤ k := (nI_leI (a := 4) (b := k) (by omega) (by omega)).mp c_6
    refine lv_iload_n hx hb dX5_inSilos_24 rfl (lv_at hl 0 rfl) ?_
    exact g_iret hx hb hr hlocks hK hG hS rfl dX5_inSilos_25 ⟨(congrArg (fun z9 => some (Value.int z9)) (by rw [show k = 4 by omega])), rfl⟩
  · skip
    have c_6 : ¬ 4 ≤ k := fun h9 => c_6 ((nI_leI (a := 4) (b := k) (by omega) (by omega)).mpr h9)
    have hw8 := hw.1 k (by omega)
    refine lv_iload_n hx hb dX5_inSilos_9 rfl (lv_at hl 0 rfl) ?_
    refine lv_aload_n hx hb dX5_inSilos_10 rfl (lv_at hl 2 rfl) ?_
    refine lv_iload_n hx hb dX5_inSilos_11 rfl (lv_at hl 1 rfl) ?_
    refine lv_iconst (v := 0) hx hb dX5_inSilos_12 (by decide) ?_
    refine g_cVi (As := [.int (nI k), .int 0]) (rest := [.int (g_inSilos ms k)]) hx hb hml hown hts hK hA hG hS (k_X5_sumFrom l D cy N L F hN mt ms ma mv mn mb ml mp mw mr mq mh k 0 (Nn ms k) (by omega) (hw8.1) (hw8.2) (by omega)) (cwV 2 hts gX5_inSilos_X5_sumFrom rfl rfl rfl (by decide +kernel) ⟨Nat.le_of_ble_eq_true rfl, Nat.le_of_ble_eq_true rfl⟩) i162 mW_o (ci := 5) rfl rfl rfl rfl hl.1 (Nat.le_of_ble_eq_true rfl) dX5_inSilos_13 ⟨Nat.zero_le _, Nat.zero_le _⟩ (fun H locs hG hS => ?_)
    refine lv_iadd hx hb dX5_inSilos_16 ?_
    refine lv_istore_n (lv' := [(1, .int ((g_inSilos ms k) + (g_sum ms k 0 ((Nn ms k) - 0)))), (2, .int (nI k)), (0, .ref (L 162))]) hx hb dX5_inSilos_17 rfl hl (by decide) rfl (fun ls hl => ?_)
    refine lv_iinc (v := nI (k + 1)) (lv' := [(2, .int (nI (k + 1))), (1, .int ((g_inSilos ms k) + (g_sum ms k 0 ((Nn ms k) - 0)))), (0, .ref (L 162))]) hx hb dX5_inSilos_18 hl (k := 1) rfl (nI_add k 1) (by decide) rfl (fun ls hl => ?_)
    refine lv_goto (tgt := 4) hx hb dX5_inSilos_21 (by decide) ?_
    have hl : lv_has ls 3 [(1, .int ((g_inSilos ms k) + (g_sum ms k 0 ((Nn ms k) - 0)))), (2, .int (nI (k + 1))), (0, .ref (L 162))] := lv_sub hl [1, 0, 2] rfl
    exact ih4 (k + 1) _ _ _ (by omega) ⟨by omega, hG.to (rfl), hS, lv_to hl (rfl)⟩
set_option maxHeartbeats 4000000 in
set_option maxRecDepth 100000 in
theorem k_X5_inShips (l : Launch) (D : va_G) (cy : Nat → ClassId) (N : Nat) (L : Nat → Nat) (F : Nat → va_E) (hN : 168 ≤ N) (mt : Int32) (ms ma mv : Nat → Int32) (mn : Int32) (mb : Nat → Int32) (ml mp mw : Int32) (mr : Nat → Int32) (mq : Int32) (mh : Int64)   : GM l D cy N L yX5_inShips wsX5_inShips ({ frames := 0, cells := 0, slots := 0, locals := 0 }) [.ref (L 162)] (mW cy L F mt ms ma mv mn mb ml mp mw mr mq mh) (some (.int (g_inShips ms 6))) (mW cy L F mt ms ma mv mn mb ml mp mw mr mq mh) := by
  refine GM.ofW (cc := cX5_inShips) (maxL := 3) (ret := (some .int)) (by decide) rfl (Nat.le_of_ble_eq_true rfl) ?_
  intro p e s m below meth c ls hx hb hr hts hown hlocks hml hK hA hG hS hl
  have hl : lv_has ls 3 [(0, .ref (L 162))] := hl
  have i162 : 162 < N := by omega
  have i163 : 163 < N := by omega
  have i164 : 164 < N := by omega
  have i165 : 165 < N := by omega
  have i166 : 166 < N := by omega
  have i167 : 167 < N := by omega
  have hf7 := hts (.fieldLink RX5 7 "SiloPadsModel" "s" "[I") (by decide +kernel)
  have hinX5 : ∀ w ∈ u_ws RX5 TX5 12, w ∈ wsX5_inShips := by decide +kernel
  refine lv_iconst (v := 0) hx hb dX5_inShips_0 (by decide) ?_
  refine lv_istore_n (lv' := [(1, .int 0), (0, .ref (L 162))]) hx hb dX5_inShips_1 rfl hl (by decide) rfl (fun ls hl => ?_)
  refine lv_iconst (v := 0) hx hb dX5_inShips_2 (by decide) ?_
  refine lv_istore_n (lv' := [(2, .int 0), (1, .int 0), (0, .ref (L 162))]) hx hb dX5_inShips_3 rfl hl (by decide) rfl (fun ls hl => ?_)
  refine W.loop (σ := Nat) (fun k H locs ls => (k ≤ 6) ∧ GW D N L (gA N L s.heap.size) (mW cy L F mt ms ma mv mn mb ml mp mw mr mq mh) H ∧ va_S (gA N L s.heap.size) s.heap H locs ∧ lv_has ls 3 [(1, .int (g_inShips ms k)), (2, .int (nI k)), (0, .ref (L 162))]) (fun k => 6 - k) 0 ⟨by omega, hG.to (rfl), hS, lv_to (lv_sub hl [1, 0, 2] rfl) (rfl)⟩ ?_
  intro k H locs ls hP9 ih4
  obtain ⟨hk9, hG, hS, hl⟩ := hP9
  refine lv_iload_n hx hb dX5_inShips_4 rfl (lv_at hl 1 rfl) ?_
  refine lv_bipush (v := 6) hx hb dX5_inShips_5 (by decide) ?_
  refine lv_icmp_ge (tgt := 30) hx hb dX5_inShips_7 (by decide) (fun c_7 => ?_) (fun c_7 => ?_)
  · skip
    have c_7 : 6 ≤ k := (nI_leI (a := 6) (b := k) (by omega) (by omega)).mp c_7
    refine lv_iload_n hx hb dX5_inShips_30 rfl (lv_at hl 0 rfl) ?_
    exact g_iret hx hb hr hlocks hK hG hS rfl dX5_inShips_31 ⟨(congrArg (fun z9 => some (Value.int z9)) (by rw [show k = 6 by omega])), rfl⟩
  · skip
    have c_7 : ¬ 6 ≤ k := fun h9 => c_7 ((nI_leI (a := 6) (b := k) (by omega) (by omega)).mpr h9)
    refine lv_iload_n hx hb dX5_inShips_10 rfl (lv_at hl 0 rfl) ?_
    refine lv_aload_n hx hb dX5_inShips_11 rfl (lv_at hl 2 rfl) ?_
    refine g_get (ci := 5) (C := RX5) (T := TX5) (M := 12) hx hb hts hinX5 hown hK hG i162 mW_o rfl 1 (by decide) hf7 rfl rfl dX5_inShips_12 ?_
    refine lv_bipush (v := 106) hx hb dX5_inShips_15 (by decide) ?_
    refine lv_iconst (v := 2) hx hb dX5_inShips_17 (by decide) ?_
    refine lv_iload_n hx hb dX5_inShips_18 rfl (lv_at hl 1 rfl) ?_
    refine lv_imul hx hb dX5_inShips_19 ?_
    refine lv_toN (k := 2 * k) (pk_mul 2 k) ?_
    refine lv_iadd hx hb dX5_inShips_20 ?_
    refine lv_toN (k := 106 + (2 * k)) (nI_add 106 (2 * k)) ?_
    refine g_iald hx hb hK hG i163 mW_a163 (k := 106 + (2 * k)) rfl (by omega) (by decide) dX5_inShips_21 ?_
    refine lv_iadd hx hb dX5_inShips_22 ?_
    refine lv_istore_n (lv' := [(1, .int ((g_inShips ms k) + (ms (106 + (2 * k))))), (2, .int (nI k)), (0, .ref (L 162))]) hx hb dX5_inShips_23 rfl hl (by decide) rfl (fun ls hl => ?_)
    refine lv_iinc (v := nI (k + 1)) (lv' := [(2, .int (nI (k + 1))), (1, .int ((g_inShips ms k) + (ms (106 + (2 * k))))), (0, .ref (L 162))]) hx hb dX5_inShips_24 hl (k := 1) rfl (nI_add k 1) (by decide) rfl (fun ls hl => ?_)
    refine lv_goto (tgt := 4) hx hb dX5_inShips_27 (by decide) ?_
    have hl : lv_has ls 3 [(1, .int ((g_inShips ms k) + (ms (106 + (2 * k))))), (2, .int (nI (k + 1))), (0, .ref (L 162))] := lv_sub hl [1, 0, 2] rfl
    exact ih4 (k + 1) _ _ _ (by omega) ⟨by omega, hG.to (rfl), hS, lv_to hl (rfl)⟩
set_option maxHeartbeats 4000000 in
set_option maxRecDepth 100000 in
theorem k_X5_reason (l : Launch) (D : va_G) (cy : Nat → ClassId) (N : Nat) (L : Nat → Nat) (F : Nat → va_E) (hN : 168 ≤ N) (mt : Int32) (ms ma mv : Nat → Int32) (mn : Int32) (mb : Nat → Int32) (ml mp mw : Int32) (mr : Nat → Int32) (mq : Int32) (mh : Int64) (k j : Nat) (hk : k < 4) (hj : j < 6) : GM l D cy N L yX5_reason wsX5_reason ({ frames := 4, cells := 0, slots := 0, locals := 89 }) [.ref (L 162), .int (nI k), .int (nI j)] (mW cy L F mt ms ma mv mn mb ml mp mw mr mq mh) (some (.int (g_reason ms k j))) (mW cy L F mt ms ma mv mn mb ml mp mw mr mq mh) := by
  refine GM.ofW (cc := cX5_reason) (maxL := 3) (ret := (some .int)) (by decide) rfl (Nat.le_of_ble_eq_true rfl) ?_
  intro p e s m below meth c ls hx hb hr hts hown hlocks hml hK hA hG hS hl
  have hl : lv_has ls 3 [(0, .ref (L 162)), (1, .int (nI k)), (2, .int (nI j))] := hl
  have i162 : 162 < N := by omega
  have i163 : 163 < N := by omega
  have i164 : 164 < N := by omega
  have i165 : 165 < N := by omega
  have i166 : 166 < N := by omega
  have i167 : 167 < N := by omega
  refine lv_aload_n hx hb dX5_reason_0 rfl (lv_at hl 0 rfl) ?_
  refine lv_iload_n hx hb dX5_reason_1 rfl (lv_at hl 1 rfl) ?_
  refine lv_iconst (v := 3) hx hb dX5_reason_2 (by decide) ?_
  refine g_cVi (As := [.int (nI k), .int 3]) (rest := []) hx hb hml hown hts hK hA hG hS (k_X5_of l D cy N L F hN mt ms ma mv mn mb ml mp mw mr mq mh k 3 (by omega)) (cwV 2 hts gX5_reason_X5_of rfl rfl rfl (by decide +kernel) ⟨Nat.le_of_ble_eq_true rfl, Nat.le_of_ble_eq_true rfl⟩) i162 mW_o (ci := 5) rfl rfl rfl rfl hl.1 (Nat.le_of_ble_eq_true rfl) dX5_reason_3 ⟨Nat.zero_le _, Nat.zero_le _⟩ (fun H locs hG hS => ?_)
  refine lv_if_ne (tgt := 11) hx hb dX5_reason_6 (by decide) (fun c_6 => ?_) (fun c_6 => ?_)
  · skip
    refine lv_aload_n hx hb dX5_reason_11 rfl (lv_at hl 0 rfl) ?_
    refine lv_iload_n hx hb dX5_reason_12 rfl (lv_at hl 1 rfl) ?_
    refine lv_iconst (v := 1) hx hb dX5_reason_13 (by decide) ?_
    refine g_cVi (As := [.int (nI k), .int 1]) (rest := []) hx hb hml hown hts hK hA hG hS (k_X5_of l D cy N L F hN mt ms ma mv mn mb ml mp mw mr mq mh k 1 (by omega)) (cwV 2 hts gX5_reason_X5_of rfl rfl rfl (by decide +kernel) ⟨Nat.le_of_ble_eq_true rfl, Nat.le_of_ble_eq_true rfl⟩) i162 mW_o (ci := 5) rfl rfl rfl rfl hl.1 (Nat.le_of_ble_eq_true rfl) dX5_reason_14 ⟨Nat.zero_le _, Nat.zero_le _⟩ (fun H locs hG hS => ?_)
    refine lv_iconst (v := 2) hx hb dX5_reason_17 (by decide) ?_
    refine lv_icmp_ne (tgt := 25) hx hb dX5_reason_18 (by decide) (fun c_18 => ?_) (fun c_18 => ?_)
    · skip
      refine lv_aload_n hx hb dX5_reason_25 rfl (lv_at hl 0 rfl) ?_
      refine lv_iload_n hx hb dX5_reason_26 rfl (lv_at hl 2 rfl) ?_
      refine g_cVi (As := [.int (nI j)]) (rest := []) hx hb hml hown hts hK hA hG hS (k_X5_room l D cy N L F hN mt ms ma mv mn mb ml mp mw mr mq mh j (by omega)) (cwV 1 hts gX5_reason_X5_room rfl rfl rfl (by decide +kernel) ⟨Nat.le_of_ble_eq_true rfl, Nat.le_of_ble_eq_true rfl⟩) i162 mW_o (ci := 5) rfl rfl rfl rfl hl.1 (Nat.le_of_ble_eq_true rfl) dX5_reason_27 ⟨Nat.zero_le _, Nat.zero_le _⟩ (fun H locs hG hS => ?_)
      refine lv_if_ne (tgt := 37) hx hb dX5_reason_30 (by decide) (fun c_30 => ?_) (fun c_30 => ?_)
      · skip
        refine lv_aload_n hx hb dX5_reason_37 rfl (lv_at hl 0 rfl) ?_
        refine lv_iload_n hx hb dX5_reason_38 rfl (lv_at hl 1 rfl) ?_
        refine g_cVi (As := [.int (nI k)]) (rest := []) hx hb hml hown hts hK hA hG hS (k_X5_flows l D cy N L F hN mt ms ma mv mn mb ml mp mw mr mq mh k (by omega)) (cwV 1 hts gX5_reason_X5_flows rfl rfl rfl (by decide +kernel) ⟨Nat.le_of_ble_eq_true rfl, Nat.le_of_ble_eq_true rfl⟩) i162 mW_o (ci := 5) rfl rfl rfl rfl hl.1 (Nat.le_of_ble_eq_true rfl) dX5_reason_39 ⟨Nat.zero_le _, Nat.zero_le _⟩ (fun H locs hG hS => ?_)
        refine lv_if_ne (tgt := 49) hx hb dX5_reason_42 (by decide) (fun c_42 => ?_) (fun c_42 => ?_)
        · skip
          refine lv_iconst (v := 0) hx hb dX5_reason_49 (by decide) ?_
          exact g_iret hx hb hr hlocks hK hG hS rfl dX5_reason_50 ⟨(congrArg (fun z9 => some (Value.int z9)) (by first | rfl | (simp only [g_reason, c_6, c_18, c_30, c_42, if_true, if_false, not_true_eq_false, not_false_eq_true]; done) | (simp [g_reason, c_6, c_18, c_30, c_42]; done))), rfl⟩
        · skip
          refine lv_iconst (v := 4) hx hb dX5_reason_45 (by decide) ?_
          refine lv_goto (tgt := 50) hx hb dX5_reason_46 (by decide) ?_
          exact g_iret hx hb hr hlocks hK hG hS rfl dX5_reason_50 ⟨(congrArg (fun z9 => some (Value.int z9)) (by first | rfl | (simp only [g_reason, c_6, c_18, c_30, eq_true c_42, if_true, if_false, not_true_eq_false, not_false_eq_true]; done) | (simp [g_reason, c_6, c_18, c_30, eq_true c_42]; done))), rfl⟩
      · skip
        refine lv_iconst (v := 3) hx hb dX5_reason_33 (by decide) ?_
        refine lv_goto (tgt := 50) hx hb dX5_reason_34 (by decide) ?_
        exact g_iret hx hb hr hlocks hK hG hS rfl dX5_reason_50 ⟨(congrArg (fun z9 => some (Value.int z9)) (by first | rfl | (simp only [g_reason, c_6, c_18, eq_true c_30, if_true, if_false, not_true_eq_false, not_false_eq_true]; done) | (simp [g_reason, c_6, c_18, eq_true c_30]; done))), rfl⟩
    · skip
      refine lv_iconst (v := 2) hx hb dX5_reason_21 (by decide) ?_
      refine lv_goto (tgt := 50) hx hb dX5_reason_22 (by decide) ?_
      exact g_iret hx hb hr hlocks hK hG hS rfl dX5_reason_50 ⟨(congrArg (fun z9 => some (Value.int z9)) (by first | rfl | (simp only [g_reason, c_6, eq_true c_18, if_true, if_false, not_true_eq_false, not_false_eq_true]; done) | (simp [g_reason, c_6, eq_true c_18]; done))), rfl⟩
  · skip
    refine lv_iconst (v := 1) hx hb dX5_reason_9 (by decide) ?_
    exact g_iret hx hb hr hlocks hK hG hS rfl dX5_reason_10 ⟨(congrArg (fun z9 => some (Value.int z9)) (by first | rfl | (simp only [g_reason, eq_true c_6, if_true, if_false, not_true_eq_false, not_false_eq_true]; done) | (simp [g_reason, eq_true c_6]; done))), rfl⟩
set_option maxHeartbeats 4000000 in
set_option maxRecDepth 100000 in
theorem k_X5_tellsLayer (l : Launch) (D : va_G) (cy : Nat → ClassId) (N : Nat) (L : Nat → Nat) (F : Nat → va_E) (hN : 168 ≤ N) (mt : Int32) (ms ma mv : Nat → Int32) (mn : Int32) (mb : Nat → Int32) (ml mp mw : Int32) (mr : Nat → Int32) (mq : Int32) (mh : Int64) (k j : Nat) (v : Int32) (hk : k < 4) (hj : j < 10) : GM l D cy N L yX5_tellsLayer wsX5_tellsLayer ({ frames := 3, cells := 0, slots := 0, locals := 67 }) [.ref (L 162), .int (nI k), .int (nI j), .int v] (mW cy L F mt ms ma mv mn mb ml mp mw mr mq mh) (some (.int (g_tellL ms k j v))) (mW cy L F mt ms ma mv mn mb ml mp mw mr mq mh) := by
  refine GM.ofW (cc := cX5_tellsLayer) (maxL := 4) (ret := (some .int)) (by decide) rfl (Nat.le_of_ble_eq_true rfl) ?_
  intro p e s m below meth c ls hx hb hr hts hown hlocks hml hK hA hG hS hl
  have hl : lv_has ls 4 [(0, .ref (L 162)), (1, .int (nI k)), (2, .int (nI j)), (3, .int v)] := hl
  have i162 : 162 < N := by omega
  have i163 : 163 < N := by omega
  have i164 : 164 < N := by omega
  have i165 : 165 < N := by omega
  have i166 : 166 < N := by omega
  have i167 : 167 < N := by omega
  refine lv_iload_n hx hb dX5_tellsLayer_0 rfl (lv_at hl 3 rfl) ?_
  refine lv_if_ne (tgt := 13) hx hb dX5_tellsLayer_1 (by decide) (fun c_1 => ?_) (fun c_1 => ?_)
  · skip
    refine lv_iload_n hx hb dX5_tellsLayer_13 rfl (lv_at hl 3 rfl) ?_
    refine lv_iconst (v := 1) hx hb dX5_tellsLayer_14 (by decide) ?_
    refine lv_icmp_ne (tgt := 27) hx hb dX5_tellsLayer_15 (by decide) (fun c_15 => ?_) (fun c_15 => ?_)
    · skip
      refine lv_aload_n hx hb dX5_tellsLayer_27 rfl (lv_at hl 0 rfl) ?_
      refine lv_iload_n hx hb dX5_tellsLayer_28 rfl (lv_at hl 1 rfl) ?_
      refine lv_iload_n hx hb dX5_tellsLayer_29 rfl (lv_at hl 2 rfl) ?_
      refine g_cVi (As := [.int (nI k), .int (nI j)]) (rest := []) hx hb hml hown hts hK hA hG hS (k_X5_setOf l D cy N L F hN mt ms ma mv mn mb ml mp mw mr mq mh k j (by omega)) (cwV 2 hts gX5_tellsLayer_X5_setOf rfl rfl rfl (by decide +kernel) ⟨Nat.le_of_ble_eq_true rfl, Nat.le_of_ble_eq_true rfl⟩) i162 mW_o (ci := 5) rfl rfl rfl rfl hl.1 (Nat.le_of_ble_eq_true rfl) dX5_tellsLayer_30 ⟨Nat.zero_le _, Nat.zero_le _⟩ (fun H locs hG hS => ?_)
      exact g_iret hx hb hr hlocks hK hG hS rfl dX5_tellsLayer_33 ⟨(congrArg (fun z9 => some (Value.int z9)) (by first | rfl | (simp only [g_tellL, c_1, c_15, if_true, if_false, not_true_eq_false, not_false_eq_true]; done) | (simp [g_tellL, c_1, c_15]; done))), rfl⟩
    · skip
      refine lv_aload_n hx hb dX5_tellsLayer_18 rfl (lv_at hl 0 rfl) ?_
      refine lv_iload_n hx hb dX5_tellsLayer_19 rfl (lv_at hl 1 rfl) ?_
      refine lv_iload_n hx hb dX5_tellsLayer_20 rfl (lv_at hl 2 rfl) ?_
      refine g_cVi (As := [.int (nI k), .int (nI j)]) (rest := []) hx hb hml hown hts hK hA hG hS (k_X5_age l D cy N L F hN mt ms ma mv mn mb ml mp mw mr mq mh k j (by omega)) (cwV 2 hts gX5_tellsLayer_X5_age rfl rfl rfl (by decide +kernel) ⟨Nat.le_of_ble_eq_true rfl, Nat.le_of_ble_eq_true rfl⟩) i162 mW_o (ci := 5) rfl rfl rfl rfl hl.1 (Nat.le_of_ble_eq_true rfl) dX5_tellsLayer_21 ⟨Nat.zero_le _, Nat.zero_le _⟩ (fun H locs hG hS => ?_)
      refine lv_goto (tgt := 33) hx hb dX5_tellsLayer_24 (by decide) ?_
      exact g_iret hx hb hr hlocks hK hG hS rfl dX5_tellsLayer_33 ⟨(congrArg (fun z9 => some (Value.int z9)) (by first | rfl | (simp only [g_tellL, c_1, eq_true c_15, if_true, if_false, not_true_eq_false, not_false_eq_true]; done) | (simp [g_tellL, c_1, eq_true c_15]; done))), rfl⟩
  · skip
    refine lv_aload_n hx hb dX5_tellsLayer_4 rfl (lv_at hl 0 rfl) ?_
    refine lv_iload_n hx hb dX5_tellsLayer_5 rfl (lv_at hl 1 rfl) ?_
    refine lv_iload_n hx hb dX5_tellsLayer_6 rfl (lv_at hl 2 rfl) ?_
    refine g_cVi (As := [.int (nI k), .int (nI j)]) (rest := []) hx hb hml hown hts hK hA hG hS (k_X5_tonnes l D cy N L F hN mt ms ma mv mn mb ml mp mw mr mq mh k j (by omega)) (cwV 2 hts gX5_tellsLayer_X5_tonnes rfl rfl rfl (by decide +kernel) ⟨Nat.le_of_ble_eq_true rfl, Nat.le_of_ble_eq_true rfl⟩) i162 mW_o (ci := 5) rfl rfl rfl rfl hl.1 (Nat.le_of_ble_eq_true rfl) dX5_tellsLayer_7 ⟨Nat.zero_le _, Nat.zero_le _⟩ (fun H locs hG hS => ?_)
    refine lv_goto (tgt := 33) hx hb dX5_tellsLayer_10 (by decide) ?_
    exact g_iret hx hb hr hlocks hK hG hS rfl dX5_tellsLayer_33 ⟨(congrArg (fun z9 => some (Value.int z9)) (by first | rfl | (simp only [g_tellL, eq_true c_1, if_true, if_false, not_true_eq_false, not_false_eq_true]; done) | (simp [g_tellL, eq_true c_1]; done))), rfl⟩
