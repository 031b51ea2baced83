set_option maxHeartbeats 4000000 in
set_option maxRecDepth 100000 in
theorem k_X5_thrown (l : Launch) (D : va_G) (cy : Nat → ClassId) (N : Nat) (L : Nat → Nat) (F : Nat → va_E) (hN : 168 ≤ N) (mt : Int32) (ms ma mv : Nat → Int32) (mn : Int32) (mb : Nat → Int32) (ml mp mw : Int32) (mr : Nat → Int32) (mq : Int32) (mh : Int64)   : GM l D cy N L yX5_thrown wsX5_thrown ({ frames := 0, cells := 0, slots := 0, locals := 0 }) [.ref (L 162)] (mW cy L F mt ms ma mv mn mb ml mp mw mr mq mh) (some (.int mt)) (mW cy L F mt ms ma mv mn mb ml mp mw mr mq mh) := by
  refine GM.ofW (cc := cX5_thrown) (maxL := 1) (ret := (some .int)) (by decide) rfl (Nat.le_of_ble_eq_true rfl) ?_
  intro p e s m below meth c ls hx hb hr hts hown hlocks hml hK hA hG hS hl
  have hl : lv_has ls 1 [(0, .ref (L 162))] := hl
  have i162 : 162 < N := by omega
  have i163 : 163 < N := by omega
  have i164 : 164 < N := by omega
  have i165 : 165 < N := by omega
  have i166 : 166 < N := by omega
  have i167 : 167 < N := by omega
  have hf25 := hts (.fieldLink RX5 25 "SiloPadsModel" "thrown" "I") (by decide +kernel)
  have hinX5 : ∀ w ∈ u_ws RX5 TX5 12, w ∈ wsX5_thrown := by decide +kernel
  refine lv_aload_n hx hb dX5_thrown_0 rfl (lv_at hl 0 rfl) ?_
  refine g_get (ci := 5) (C := RX5) (T := TX5) (M := 12) hx hb hts hinX5 hown hK hG i162 mW_o rfl 0 (by decide) hf25 rfl rfl dX5_thrown_1 ?_
  exact g_iret hx hb hr hlocks hK hG hS rfl dX5_thrown_4 ⟨rfl, rfl⟩
set_option maxHeartbeats 4000000 in
set_option maxRecDepth 100000 in
theorem k_X5_in (l : Launch) (D : va_G) (cy : Nat → ClassId) (N : Nat) (L : Nat → Nat) (F : Nat → va_E) (v a b : Int32)  : GM l D cy N L yX5_in wsX5_in ({ frames := 0, cells := 0, slots := 0, locals := 0 }) [.int v, .int a, .int b] (F) (some (.int (g_in v a b))) (F) := by
  refine GM.ofW (cc := cX5_in) (maxL := 3) (ret := (some .boolean)) (by decide) rfl (Nat.le_of_ble_eq_true rfl) ?_
  intro p e s m below meth c ls hx hb hr hts hown hlocks hml hK hA hG hS hl
  have hl : lv_has ls 3 [(0, .int v), (1, .int a), (2, .int b)] := hl
  refine lv_iload_n hx hb dX5_in_0 rfl (lv_at hl 0 rfl) ?_
  refine lv_iload_n hx hb dX5_in_1 rfl (lv_at hl 1 rfl) ?_
  refine lv_icmp_lt (tgt := 14) hx hb dX5_in_2 (by decide) (fun c_2 => ?_) (fun c_2 => ?_)
  · skip
    refine lv_iconst (v := 0) hx hb dX5_in_14 (by decide) ?_
    exact g_iret hx hb hr hlocks hK hG hS rfl dX5_in_15 ⟨(congrArg (fun z9 => some (Value.int z9)) (by first | rfl | (simp only [g_in, c_2, if_true, if_false, not_true_eq_false, not_false_eq_true]; done) | (simp [g_in, c_2]; done))), rfl⟩
  · skip
    refine lv_iload_n hx hb dX5_in_5 rfl (lv_at hl 0 rfl) ?_
    refine lv_iload_n hx hb dX5_in_6 rfl (lv_at hl 2 rfl) ?_
    refine lv_icmp_gt (tgt := 14) hx hb dX5_in_7 (by decide) (fun c_7 => ?_) (fun c_7 => ?_)
    · skip
      refine lv_iconst (v := 0) hx hb dX5_in_14 (by decide) ?_
      exact g_iret hx hb hr hlocks hK hG hS rfl dX5_in_15 ⟨(congrArg (fun z9 => some (Value.int z9)) (by first | rfl | (simp only [g_in, c_2, c_7, if_true, if_false, not_true_eq_false, not_false_eq_true]; done) | (simp [g_in, c_2, c_7]; done))), rfl⟩
    · skip
      refine lv_iconst (v := 1) hx hb dX5_in_10 (by decide) ?_
      refine lv_goto (tgt := 15) hx hb dX5_in_11 (by decide) ?_
      exact g_iret hx hb hr hlocks hK hG hS rfl dX5_in_15 ⟨(congrArg (fun z9 => some (Value.int z9)) (by first | rfl | (simp only [g_in, c_2, c_7, if_true, if_false, not_true_eq_false, not_false_eq_true]; done) | (simp [g_in, c_2, c_7]; done))), rfl⟩
set_option maxHeartbeats 4000000 in
set_option maxRecDepth 100000 in
theorem k_X5_fails (l : Launch) (D : va_G) (cy : Nat → ClassId) (N : Nat) (L : Nat → Nat) (F : Nat → va_E) (hN : 168 ≤ N) (mt : Int32) (ms ma mv : Nat → Int32) (mn : Int32) (mb : Nat → Int32) (ml mp mw : Int32) (mr : Nat → Int32) (mq : Int32) (mh : Int64) (v : Int32)  : GM l D cy N L yX5_fails wsX5_fails ({ frames := 0, cells := 0, slots := 0, locals := 0 }) [.ref (L 162), .int v] (mW cy L F mt ms ma mv mn mb ml mp mw mr mq mh) (some (.int 0)) (mW cy L F v ms ma mv mn mb ml mp mw mr mq mh) := by
  refine GM.ofW (cc := cX5_fails) (maxL := 2) (ret := (some .int)) (by decide) rfl (Nat.le_of_ble_eq_true rfl) ?_
  intro p e s m below meth c ls hx hb hr hts hown hlocks hml hK hA hG hS hl
  have hl : lv_has ls 2 [(0, .ref (L 162)), (1, .int v)] := hl
  have i162 : 162 < N := by omega
  have i163 : 163 < N := by omega
  have i164 : 164 < N := by omega
  have i165 : 165 < N := by omega
  have i166 : 166 < N := by omega
  have i167 : 167 < N := by omega
  have hf25 := hts (.fieldLink RX5 25 "SiloPadsModel" "thrown" "I") (by decide +kernel)
  have hinX5 : ∀ w ∈ u_ws RX5 TX5 12, w ∈ wsX5_fails := by decide +kernel
  refine lv_aload_n hx hb dX5_fails_0 rfl (lv_at hl 0 rfl) ?_
  refine lv_iload_n hx hb dX5_fails_1 rfl (lv_at hl 1 rfl) ?_
  refine g_put (ci := 5) (C := RX5) (T := TX5) (M := 12) (ty := .int) hx hb hts hinX5 tyX5 tyX5_ok nmX5 hown hK hG hS i162 mW_o rfl 0 (by decide) hf25 rfl rfl rfl rfl rfl (Nat.le_of_ble_eq_true rfl) dX5_fails_2 rfl (fun H locs hG hS => ?_)
  have hG := hG.to mW_uo
  refine lv_iconst (v := 0) hx hb dX5_fails_5 (by decide) ?_
  exact g_iret hx hb hr hlocks hK hG hS rfl dX5_fails_6 ⟨rfl, rfl⟩
set_option maxHeartbeats 4000000 in
set_option maxRecDepth 100000 in
theorem k_X5_lesser (l : Launch) (D : va_G) (cy : Nat → ClassId) (N : Nat) (L : Nat → Nat) (F : Nat → va_E) (a b : Int32)  : GM l D cy N L yX5_lesser wsX5_lesser ({ frames := 0, cells := 0, slots := 0, locals := 0 }) [.int a, .int b] (F) (some (.int (g_min a b))) (F) := by
  refine GM.ofW (cc := cX5_lesser) (maxL := 2) (ret := (some .int)) (by decide) rfl (Nat.le_of_ble_eq_true rfl) ?_
  intro p e s m below meth c ls hx hb hr hts hown hlocks hml hK hA hG hS hl
  have hl : lv_has ls 2 [(0, .int a), (1, .int b)] := hl
  refine lv_iload_n hx hb dX5_lesser_0 rfl (lv_at hl 0 rfl) ?_
  refine lv_iload_n hx hb dX5_lesser_1 rfl (lv_at hl 1 rfl) ?_
  refine lv_icmp_ge (tgt := 9) hx hb dX5_lesser_2 (by decide) (fun c_2 => ?_) (fun c_2 => ?_)
  · skip
    refine lv_iload_n hx hb dX5_lesser_9 rfl (lv_at hl 1 rfl) ?_
    exact g_iret hx hb hr hlocks hK hG hS rfl dX5_lesser_10 ⟨(congrArg (fun z9 => some (Value.int z9)) (by first | rfl | (simp only [g_min, c_2, if_true, if_false, not_true_eq_false, not_false_eq_true]; done) | (simp [g_min, c_2]; done))), rfl⟩
  · skip
    refine lv_iload_n hx hb dX5_lesser_5 rfl (lv_at hl 0 rfl) ?_
    refine lv_goto (tgt := 10) hx hb dX5_lesser_6 (by decide) ?_
    exact g_iret hx hb hr hlocks hK hG hS rfl dX5_lesser_10 ⟨(congrArg (fun z9 => some (Value.int z9)) (by first | rfl | (simp only [g_min, c_2, if_true, if_false, not_true_eq_false, not_false_eq_true]; done) | (simp [g_min, c_2]; done))), rfl⟩
set_option maxHeartbeats 4000000 in
set_option maxRecDepth 100000 in
theorem k_X5_isSilo (l : Launch) (D : va_G) (cy : Nat → ClassId) (N : Nat) (L : Nat → Nat) (F : Nat → va_E) (v : Int32)  : GM l D cy N L yX5_isSilo wsX5_isSilo ({ frames := 1, cells := 0, slots := 0, locals := 22 }) [.int v] (F) (some (.int (g_in v 0 3))) (F) := by
  refine GM.ofW (cc := cX5_isSilo) (maxL := 1) (ret := (some .boolean)) (by decide) rfl (Nat.le_of_ble_eq_true rfl) ?_
  intro p e s m below meth c ls hx hb hr hts hown hlocks hml hK hA hG hS hl
  have hl : lv_has ls 1 [(0, .int v)] := hl
  refine lv_iload_n hx hb dX5_isSilo_0 rfl (lv_at hl 0 rfl) ?_
  refine lv_iconst (v := 0) hx hb dX5_isSilo_1 (by decide) ?_
  refine lv_iconst (v := 3) hx hb dX5_isSilo_2 (by decide) ?_
  refine g_cSi (As := [.int v, .int 0, .int 3]) (rest := []) hx hb hml hown hts hK hA hG hS (k_X5_in l D cy N L F v 0 3 ) (g_cwS 3 hts gX5_isSilo_X5_in rfl rfl rfl (by decide +kernel) ⟨Nat.le_of_ble_eq_true rfl, Nat.le_of_ble_eq_true rfl⟩) rfl rfl hl.1 (Nat.le_of_ble_eq_true rfl) dX5_isSilo_3 ⟨Nat.zero_le _, Nat.zero_le _⟩ (fun H locs hG hS => ?_)
  exact g_iret hx hb hr hlocks hK hG hS (g_in_nar) dX5_isSilo_6 ⟨rfl, rfl⟩
set_option maxHeartbeats 4000000 in
set_option maxRecDepth 100000 in
theorem k_X5_isShip (l : Launch) (D : va_G) (cy : Nat → ClassId) (N : Nat) (L : Nat → Nat) (F : Nat → va_E) (v : Int32)  : GM l D cy N L yX5_isShip wsX5_isShip ({ frames := 1, cells := 0, slots := 0, locals := 22 }) [.int v] (F) (some (.int (g_in v 0 5))) (F) := by
  refine GM.ofW (cc := cX5_isShip) (maxL := 1) (ret := (some .boolean)) (by decide) rfl (Nat.le_of_ble_eq_true rfl) ?_
  intro p e s m below meth c ls hx hb hr hts hown hlocks hml hK hA hG hS hl
  have hl : lv_has ls 1 [(0, .int v)] := hl
  refine lv_iload_n hx hb dX5_isShip_0 rfl (lv_at hl 0 rfl) ?_
  refine lv_iconst (v := 0) hx hb dX5_isShip_1 (by decide) ?_
  refine lv_iconst (v := 5) hx hb dX5_isShip_2 (by decide) ?_
  refine g_cSi (As := [.int v, .int 0, .int 5]) (rest := []) hx hb hml hown hts hK hA hG hS (k_X5_in l D cy N L F v 0 5 ) (g_cwS 3 hts gX5_isShip_X5_in rfl rfl rfl (by decide +kernel) ⟨Nat.le_of_ble_eq_true rfl, Nat.le_of_ble_eq_true rfl⟩) rfl rfl hl.1 (Nat.le_of_ble_eq_true rfl) dX5_isShip_3 ⟨Nat.zero_le _, Nat.zero_le _⟩ (fun H locs hG hS => ?_)
  exact g_iret hx hb hr hlocks hK hG hS (g_in_nar) dX5_isShip_6 ⟨rfl, rfl⟩
set_option maxHeartbeats 4000000 in
set_option maxRecDepth 100000 in
theorem k_X5_of (l : Launch) (D : va_G) (cy : Nat → ClassId) (N : Nat) (L : Nat → Nat) (F : Nat → va_E) (hN : 168 ≤ N) (mt : Int32) (ms ma mv : Nat → Int32) (mn : Int32) (mb : Nat → Int32) (ml mp mw : Int32) (mr : Nat → Int32) (mq : Int32) (mh : Int64) (k w : Nat) (h : 10 + 24 * k + w < 118) : GM l D cy N L yX5_of wsX5_of ({ frames := 0, cells := 0, slots := 0, locals := 0 }) [.ref (L 162), .int (nI k), .int (nI w)] (mW cy L F mt ms ma mv mn mb ml mp mw mr mq mh) (some (.int (ms (10 + 24 * k + w)))) (mW cy L F mt ms ma mv mn mb ml mp mw mr mq mh) := by
  refine GM.ofW (cc := cX5_of) (maxL := 3) (ret := (some .int)) (by decide) rfl (Nat.le_of_ble_eq_true rfl) ?_
  intro p e s m below meth c ls hx hb hr hts hown hlocks hml hK hA hG hS hl
  have hl : lv_has ls 3 [(0, .ref (L 162)), (1, .int (nI k)), (2, .int (nI w))] := hl
  have i162 : 162 < N := by omega
  have i163 : 163 < N := by omega
  have i164 : 164 < N := by omega
  have i165 : 165 < N := by omega
  have i166 : 166 < N := by omega
  have i167 : 167 < N := by omega
  have hf7 := hts (.fieldLink RX5 7 "SiloPadsModel" "s" "[I") (by decide +kernel)
  have hinX5 : ∀ w ∈ u_ws RX5 TX5 12, w ∈ wsX5_of := by decide +kernel
  refine lv_aload_n hx hb dX5_of_0 rfl (lv_at hl 0 rfl) ?_
  refine g_get (ci := 5) (C := RX5) (T := TX5) (M := 12) hx hb hts hinX5 hown hK hG i162 mW_o rfl 1 (by decide) hf7 rfl rfl dX5_of_1 ?_
  refine lv_bipush (v := 10) hx hb dX5_of_4 (by decide) ?_
  refine lv_bipush (v := 24) hx hb dX5_of_6 (by decide) ?_
  refine lv_iload_n hx hb dX5_of_8 rfl (lv_at hl 1 rfl) ?_
  refine lv_imul hx hb dX5_of_9 ?_
  refine lv_toN (k := 24 * k) (pk_mul 24 k) ?_
  refine lv_iadd hx hb dX5_of_10 ?_
  refine lv_toN (k := 10 + (24 * k)) (nI_add 10 (24 * k)) ?_
  refine lv_iload_n hx hb dX5_of_11 rfl (lv_at hl 2 rfl) ?_
  refine lv_iadd hx hb dX5_of_12 ?_
  refine lv_toN (k := (10 + (24 * k)) + w) (nI_add (10 + (24 * k)) w) ?_
  refine g_iald hx hb hK hG i163 mW_a163 (k := (10 + (24 * k)) + w) rfl (by omega) (by decide) dX5_of_13 ?_
  exact g_iret hx hb hr hlocks hK hG hS rfl dX5_of_14 ⟨(congrArg (fun z9 => some (Value.int z9)) (by first | rfl | (simp only [if_true, if_false, not_true_eq_false, not_false_eq_true]; done) | (simp []; done))), rfl⟩
set_option maxHeartbeats 4000000 in
set_option maxRecDepth 100000 in
theorem k_X5_lay (l : Launch) (D : va_G) (cy : Nat → ClassId) (N : Nat) (L : Nat → Nat) (F : Nat → va_E) (hN : 168 ≤ N) (mt : Int32) (ms ma mv : Nat → Int32) (mn : Int32) (mb : Nat → Int32) (ml mp mw : Int32) (mr : Nat → Int32) (mq : Int32) (mh : Int64) (k w : Nat) (v : Int32) (h : 10 + 24 * k + w < 118) : GM l D cy N L yX5_lay wsX5_lay ({ frames := 0, cells := 0, slots := 0, locals := 0 }) [.ref (L 162), .int (nI k), .int (nI w), .int v] (mW cy L F mt ms ma mv mn mb ml mp mw mr mq mh) (none) (mW cy L F mt (upd ms (10 + 24 * k + w) v) ma mv mn mb ml mp mw mr mq mh) := by
  refine GM.ofW (cc := cX5_lay) (maxL := 4) (ret := none) (by decide) rfl (Nat.le_of_ble_eq_true rfl) ?_
  intro p e s m below meth c ls hx hb hr hts hown hlocks hml hK hA hG hS hl
  have hl : lv_has ls 4 [(0, .ref (L 162)), (1, .int (nI k)), (2, .int (nI w)), (3, .int v)] := hl
  have i162 : 162 < N := by omega
  have i163 : 163 < N := by omega
  have i164 : 164 < N := by omega
  have i165 : 165 < N := by omega
  have i166 : 166 < N := by omega
  have i167 : 167 < N := by omega
  have hf7 := hts (.fieldLink RX5 7 "SiloPadsModel" "s" "[I") (by decide +kernel)
  have hinX5 : ∀ w ∈ u_ws RX5 TX5 12, w ∈ wsX5_lay := by decide +kernel
  refine lv_aload_n hx hb dX5_lay_0 rfl (lv_at hl 0 rfl) ?_
  refine g_get (ci := 5) (C := RX5) (T := TX5) (M := 12) hx hb hts hinX5 hown hK hG i162 mW_o rfl 1 (by decide) hf7 rfl rfl dX5_lay_1 ?_
  refine lv_bipush (v := 10) hx hb dX5_lay_4 (by decide) ?_
  refine lv_bipush (v := 24) hx hb dX5_lay_6 (by decide) ?_
  refine lv_iload_n hx hb dX5_lay_8 rfl (lv_at hl 1 rfl) ?_
  refine lv_imul hx hb dX5_lay_9 ?_
  refine lv_toN (k := 24 * k) (pk_mul 24 k) ?_
  refine lv_iadd hx hb dX5_lay_10 ?_
  refine lv_toN (k := 10 + (24 * k)) (nI_add 10 (24 * k)) ?_
  refine lv_iload_n hx hb dX5_lay_11 rfl (lv_at hl 2 rfl) ?_
  refine lv_iadd hx hb dX5_lay_12 ?_
  refine lv_toN (k := (10 + (24 * k)) + w) (nI_add (10 + (24 * k)) w) ?_
  refine lv_iload_n hx hb dX5_lay_13 rfl (lv_at hl 3 rfl) ?_
  refine g_iast hx hb hK hG hS i163 mW_a163 (k := (10 + (24 * k)) + w) rfl (by omega) (by decide) dX5_lay_14 (fun H locs hG hS => ?_)
  have hG := hG.to mW_us
  exact g_vret hx hb hr hlocks hK hG hS dX5_lay_15 ⟨rfl, (by first | rfl | (simp only [if_true, if_false, not_true_eq_false, not_false_eq_true]; done) | (simp []; done))⟩
set_option maxHeartbeats 4000000 in
set_option maxRecDepth 100000 in
theorem k_X5_tonnes (l : Launch) (D : va_G) (cy : Nat → ClassId) (N : Nat) (L : Nat → Nat) (F : Nat → va_E) (hN : 168 ≤ N) (mt : Int32) (ms ma mv : Nat → Int32) (mn : Int32) (mb : Nat → Int32) (ml mp mw : Int32) (mr : Nat → Int32) (mq : Int32) (mh : Int64) (k j : Nat) (h : 10 + 24 * k + (4 + 2 * j) < 118) : GM l D cy N L yX5_tonnes wsX5_tonnes ({ frames := 1, cells := 0, slots := 0, locals := 22 }) [.ref (L 162), .int (nI k), .int (nI j)] (mW cy L F mt ms ma mv mn mb ml mp mw mr mq mh) (some (.int (ms (10 + 24 * k + (4 + 2 * j))))) (mW cy L F mt ms ma mv mn mb ml mp mw mr mq mh) := by
  refine GM.ofW (cc := cX5_tonnes) (maxL := 3) (ret := (some .int)) (by decide) rfl (Nat.le_of_ble_eq_true rfl) ?_
  intro p e s m below meth c ls hx hb hr hts hown hlocks hml hK hA hG hS hl
  have hl : lv_has ls 3 [(0, .ref (L 162)), (1, .int (nI k)), (2, .int (nI j))] := hl
  have i162 : 162 < N := by omega
  have i163 : 163 < N := by omega
  have i164 : 164 < N := by omega
  have i165 : 165 < N := by omega
  have i166 : 166 < N := by omega
  have i167 : 167 < N := by omega
  refine lv_aload_n hx hb dX5_tonnes_0 rfl (lv_at hl 0 rfl) ?_
  refine lv_iload_n hx hb dX5_tonnes_1 rfl (lv_at hl 1 rfl) ?_
  refine lv_iconst (v := 4) hx hb dX5_tonnes_2 (by decide) ?_
  refine lv_iconst (v := 2) hx hb dX5_tonnes_3 (by decide) ?_
  refine lv_iload_n hx hb dX5_tonnes_4 rfl (lv_at hl 2 rfl) ?_
  refine lv_imul hx hb dX5_tonnes_5 ?_
  refine lv_toN (k := 2 * j) (pk_mul 2 j) ?_
  refine lv_iadd hx hb dX5_tonnes_6 ?_
  refine lv_toN (k := 4 + (2 * j)) (nI_add 4 (2 * j)) ?_
  refine g_cVi (As := [.int (nI k), .int (nI (4 + (2 * j)))]) (rest := []) hx hb hml hown hts hK hA hG hS (k_X5_of l D cy N L F hN mt ms ma mv mn mb ml mp mw mr mq mh k (4 + (2 * j)) (by omega)) (cwV 2 hts gX5_tonnes_X5_of rfl rfl rfl (by decide +kernel) ⟨Nat.le_of_ble_eq_true rfl, Nat.le_of_ble_eq_true rfl⟩) i162 mW_o (ci := 5) rfl rfl rfl rfl hl.1 (Nat.le_of_ble_eq_true rfl) dX5_tonnes_7 ⟨Nat.zero_le _, Nat.zero_le _⟩ (fun H locs hG hS => ?_)
  exact g_iret hx hb hr hlocks hK hG hS rfl dX5_tonnes_10 ⟨(congrArg (fun z9 => some (Value.int z9)) (by first | rfl | (simp only [if_true, if_false, not_true_eq_false, not_false_eq_true]; done) | (simp []; done))), rfl⟩
set_option maxHeartbeats 4000000 in
set_option maxRecDepth 100000 in
theorem k_X5_age (l : Launch) (D : va_G) (cy : Nat → ClassId) (N : Nat) (L : Nat → Nat) (F : Nat → va_E) (hN : 168 ≤ N) (mt : Int32) (ms ma mv : Nat → Int32) (mn : Int32) (mb : Nat → Int32) (ml mp mw : Int32) (mr : Nat → Int32) (mq : Int32) (mh : Int64) (k j : Nat) (h : 10 + 24 * k + (4 + 2 * j + 1) < 118) : GM l D cy N L yX5_age wsX5_age ({ frames := 1, cells := 0, slots := 0, locals := 22 }) [.ref (L 162), .int (nI k), .int (nI j)] (mW cy L F mt ms ma mv mn mb ml mp mw mr mq mh) (some (.int (ms (10 + 24 * k + (4 + 2 * j + 1))))) (mW cy L F mt ms ma mv mn mb ml mp mw mr mq mh) := by
  refine GM.ofW (cc := cX5_age) (maxL := 3) (ret := (some .int)) (by decide) rfl (Nat.le_of_ble_eq_true rfl) ?_
  intro p e s m below meth c ls hx hb hr hts hown hlocks hml hK hA hG hS hl
  have hl : lv_has ls 3 [(0, .ref (L 162)), (1, .int (nI k)), (2, .int (nI j))] := hl
  have i162 : 162 < N := by omega
  have i163 : 163 < N := by omega
  have i164 : 164 < N := by omega
  have i165 : 165 < N := by omega
  have i166 : 166 < N := by omega
  have i167 : 167 < N := by omega
  refine lv_aload_n hx hb dX5_age_0 rfl (lv_at hl 0 rfl) ?_
  refine lv_iload_n hx hb dX5_age_1 rfl (lv_at hl 1 rfl) ?_
  refine lv_iconst (v := 4) hx hb dX5_age_2 (by decide) ?_
  refine lv_iconst (v := 2) hx hb dX5_age_3 (by decide) ?_
  refine lv_iload_n hx hb dX5_age_4 rfl (lv_at hl 2 rfl) ?_
  refine lv_imul hx hb dX5_age_5 ?_
  refine lv_toN (k := 2 * j) (pk_mul 2 j) ?_
  refine lv_iadd hx hb dX5_age_6 ?_
  refine lv_toN (k := 4 + (2 * j)) (nI_add 4 (2 * j)) ?_
  refine lv_iconst (v := 1) hx hb dX5_age_7 (by decide) ?_
  refine lv_iadd hx hb dX5_age_8 ?_
  refine lv_toN (k := (4 + (2 * j)) + 1) (nI_add (4 + (2 * j)) 1) ?_
  refine g_cVi (As := [.int (nI k), .int (nI ((4 + (2 * j)) + 1))]) (rest := []) hx hb hml hown hts hK hA hG hS (k_X5_of l D cy N L F hN mt ms ma mv mn mb ml mp mw mr mq mh k ((4 + (2 * j)) + 1) (by omega)) (cwV 2 hts gX5_age_X5_of rfl rfl rfl (by decide +kernel) ⟨Nat.le_of_ble_eq_true rfl, Nat.le_of_ble_eq_true rfl⟩) i162 mW_o (ci := 5) rfl rfl rfl rfl hl.1 (Nat.le_of_ble_eq_true rfl) dX5_age_9 ⟨Nat.zero_le _, Nat.zero_le _⟩ (fun H locs hG hS => ?_)
  exact g_iret hx hb hr hlocks hK hG hS rfl dX5_age_12 ⟨(congrArg (fun z9 => some (Value.int z9)) (by first | rfl | (simp only [if_true, if_false, not_true_eq_false, not_false_eq_true]; done) | (simp []; done))), rfl⟩
set_option maxHeartbeats 4000000 in
set_option maxRecDepth 100000 in
theorem k_X5_room (l : Launch) (D : va_G) (cy : Nat → ClassId) (N : Nat) (L : Nat → Nat) (F : Nat → va_E) (hN : 168 ≤ N) (mt : Int32) (ms ma mv : Nat → Int32) (mn : Int32) (mb : Nat → Int32) (ml mp mw : Int32) (mr : Nat → Int32) (mq : Int32) (mh : Int64) (j : Nat) (h : j < 6) : GM l D cy N L yX5_room wsX5_room ({ frames := 0, cells := 0, slots := 0, locals := 0 }) [.ref (L 162), .int (nI j)] (mW cy L F mt ms ma mv mn mb ml mp mw mr mq mh) (some (.int (ms (106 + 2 * j + 1) - ms (106 + 2 * j)))) (mW cy L F mt ms ma mv mn mb ml mp mw mr mq mh) := by
  refine GM.ofW (cc := cX5_room) (maxL := 2) (ret := (some .int)) (by decide) rfl (Nat.le_of_ble_eq_true rfl) ?_
  intro p e s m below meth c ls hx hb hr hts hown hlocks hml hK hA hG hS hl
  have hl : lv_has ls 2 [(0, .ref (L 162)), (1, .int (nI j))] := hl
  have i162 : 162 < N := by omega
  have i163 : 163 < N := by omega
  have i164 : 164 < N := by omega
  have i165 : 165 < N := by omega
  have i166 : 166 < N := by omega
  have i167 : 167 < N := by omega
  have hf7 := hts (.fieldLink RX5 7 "SiloPadsModel" "s" "[I") (by decide +kernel)
  have hinX5 : ∀ w ∈ u_ws RX5 TX5 12, w ∈ wsX5_room := by decide +kernel
  refine lv_aload_n hx hb dX5_room_0 rfl (lv_at hl 0 rfl) ?_
  refine g_get (ci := 5) (C := RX5) (T := TX5) (M := 12) hx hb hts hinX5 hown hK hG i162 mW_o rfl 1 (by decide) hf7 rfl rfl dX5_room_1 ?_
  refine lv_bipush (v := 106) hx hb dX5_room_4 (by decide) ?_
  refine lv_iconst (v := 2) hx hb dX5_room_6 (by decide) ?_
  refine lv_iload_n hx hb dX5_room_7 rfl (lv_at hl 1 rfl) ?_
  refine lv_imul hx hb dX5_room_8 ?_
  refine lv_toN (k := 2 * j) (pk_mul 2 j) ?_
  refine lv_iadd hx hb dX5_room_9 ?_
  refine lv_toN (k := 106 + (2 * j)) (nI_add 106 (2 * j)) ?_
  refine lv_iconst (v := 1) hx hb dX5_room_10 (by decide) ?_
  refine lv_iadd hx hb dX5_room_11 ?_
  refine lv_toN (k := (106 + (2 * j)) + 1) (nI_add (106 + (2 * j)) 1) ?_
  refine g_iald hx hb hK hG i163 mW_a163 (k := (106 + (2 * j)) + 1) rfl (by omega) (by decide) dX5_room_12 ?_
  refine lv_aload_n hx hb dX5_room_13 rfl (lv_at hl 0 rfl) ?_
  refine g_get (ci := 5) (C := RX5) (T := TX5) (M := 12) hx hb hts hinX5 hown hK hG i162 mW_o rfl 1 (by decide) hf7 rfl rfl dX5_room_14 ?_
  refine lv_bipush (v := 106) hx hb dX5_room_17 (by decide) ?_
  refine lv_iconst (v := 2) hx hb dX5_room_19 (by decide) ?_
  refine lv_iload_n hx hb dX5_room_20 rfl (lv_at hl 1 rfl) ?_
  refine lv_imul hx hb dX5_room_21 ?_
  refine lv_toN (k := 2 * j) (pk_mul 2 j) ?_
  refine lv_iadd hx hb dX5_room_22 ?_
  refine lv_toN (k := 106 + (2 * j)) (nI_add 106 (2 * j)) ?_
  refine g_iald hx hb hK hG i163 mW_a163 (k := 106 + (2 * j)) rfl (by omega) (by decide) dX5_room_23 ?_
  refine lv_isub hx hb dX5_room_24 ?_
  exact g_iret hx hb hr hlocks hK hG hS rfl dX5_room_25 ⟨(congrArg (fun z9 => some (Value.int z9)) (by first | rfl | (simp only [if_true, if_false, not_true_eq_false, not_false_eq_true]; done) | (simp []; done))), rfl⟩
set_option maxHeartbeats 4000000 in
set_option maxRecDepth 100000 in
theorem k_X5_putAside (l : Launch) (D : va_G) (cy : Nat → ClassId) (N : Nat) (L : Nat → Nat) (F : Nat → va_E) (hN : 168 ≤ N) (mt : Int32) (ms ma mv : Nat → Int32) (mn : Int32) (mb : Nat → Int32) (ml mp mw : Int32) (mr : Nat → Int32) (mq : Int32) (mh : Int64)   : GM l D cy N L yX5_putAside wsX5_putAside ({ frames := 0, cells := 0, slots := 0, locals := 0 }) [.ref (L 162)] (mW cy L F mt ms ma mv mn mb ml mp mw mr mq mh) (none) (mW cy L F mt ms (cpN ma ms (0) (0) 118) mv mn mb ml mp mw mr mq mh) := by
  refine GM.ofW (cc := cX5_putAside) (maxL := 2) (ret := none) (by decide) rfl (Nat.le_of_ble_eq_true rfl) ?_
  intro p e s m below meth c ls hx hb hr hts hown hlocks hml hK hA hG hS hl
  have hl : lv_has ls 2 [(0, .ref (L 162))] := hl
  have i162 : 162 < N := by omega
  have i163 : 163 < N := by omega
  have i164 : 164 < N := by omega
  have i165 : 165 < N := by omega
  have i166 : 166 < N := by omega
  have i167 : 167 < N := by omega
  have hf13 := hts (.fieldLink RX5 13 "SiloPadsModel" "aside" "[I") (by decide +kernel)
  have hinX5 : ∀ w ∈ u_ws RX5 TX5 12, w ∈ wsX5_putAside := by decide +kernel
  have hf7 := hts (.fieldLink RX5 7 "SiloPadsModel" "s" "[I") (by decide +kernel)
  refine lv_iconst (v := 0) hx hb dX5_putAside_0 (by decide) ?_
  refine lv_istore_n (lv' := [(1, .int 0), (0, .ref (L 162))]) hx hb dX5_putAside_1 rfl hl (by decide) rfl (fun ls hl => ?_)
  refine W.loop (σ := Nat) (fun k H locs ls => (k ≤ 118) ∧ GW D N L (gA N L s.heap.size) (mW cy L F mt ms (cpN ma ms (0) (0) k) mv mn mb ml mp mw mr mq mh) H ∧ va_S (gA N L s.heap.size) s.heap H locs ∧ lv_has ls 2 [(1, .int (nI k)), (0, .ref (L 162))]) (fun k => 118 - k) 0 ⟨by omega, hG.to (by rw [cpN_0]), hS, lv_to (lv_sub hl [0, 1] rfl) (rfl)⟩ ?_
  intro k H locs ls hP9 ih2
  obtain ⟨hk9, hG, hS, hl⟩ := hP9
  refine lv_iload_n hx hb dX5_putAside_2 rfl (lv_at hl 0 rfl) ?_
  refine lv_bipush (v := 118) hx hb dX5_putAside_3 (by decide) ?_
  refine lv_icmp_ge (tgt := 26) hx hb dX5_putAside_5 (by decide) (fun c_5 => ?_) (fun c_5 => ?_)
  · skip
    have c_5 : 118 ≤ k := (nI_leI (a := 118) (b := k) (by omega) (by omega)).mp c_5
    exact g_vret hx hb hr hlocks hK hG hS dX5_putAside_26 ⟨rfl, (by rw [show k = 118 by omega])⟩
  · skip
    have c_5 : ¬ 118 ≤ k := fun h9 => c_5 ((nI_leI (a := 118) (b := k) (by omega) (by omega)).mpr h9)
    refine lv_aload_n hx hb dX5_putAside_8 rfl (lv_at hl 1 rfl) ?_
    refine g_get (ci := 5) (C := RX5) (T := TX5) (M := 12) hx hb hts hinX5 hown hK hG i162 mW_o rfl 2 (by decide) hf13 rfl rfl dX5_putAside_9 ?_
    refine lv_iload_n hx hb dX5_putAside_12 rfl (lv_at hl 0 rfl) ?_
    refine lv_aload_n hx hb dX5_putAside_13 rfl (lv_at hl 1 rfl) ?_
    refine g_get (ci := 5) (C := RX5) (T := TX5) (M := 12) hx hb hts hinX5 hown hK hG i162 mW_o rfl 1 (by decide) hf7 rfl rfl dX5_putAside_14 ?_
    refine lv_iload_n hx hb dX5_putAside_17 rfl (lv_at hl 0 rfl) ?_
    refine g_iald hx hb hK hG i163 mW_a163 (k := k) rfl (by omega) (by decide) dX5_putAside_18 ?_
    refine g_iast hx hb hK hG hS i164 mW_a164 (k := k) rfl (by omega) (by decide) dX5_putAside_19 (fun H locs hG hS => ?_)
    have hG := hG.to mW_ua
    refine lv_iinc (v := nI (k + 1)) (lv' := [(1, .int (nI (k + 1))), (0, .ref (L 162))]) hx hb dX5_putAside_20 hl (k := 0) rfl (nI_add k 1) (by decide) rfl (fun ls hl => ?_)
    refine lv_goto (tgt := 2) hx hb dX5_putAside_23 (by decide) ?_
    have hl : lv_has ls 2 [(1, .int (nI (k + 1))), (0, .ref (L 162))] := lv_sub hl [0, 1] rfl
    exact ih2 (k + 1) _ _ _ (by omega) ⟨by omega, hG.to (by rw [show upd (cpN ma ms 0 0 k) k (ms k) = cpN ma ms 0 0 (k + 1) by simpa using cpN_s (f := ma) (g := ms) (d := 0) (a := 0) (k := k)]), hS, lv_to hl (rfl)⟩
set_option maxHeartbeats 4000000 in
set_option maxRecDepth 100000 in
theorem k_X5_takeBack (l : Launch) (D : va_G) (cy : Nat → ClassId) (N : Nat) (L : Nat → Nat) (F : Nat → va_E) (hN : 168 ≤ N) (mt : Int32) (ms ma mv : Nat → Int32) (mn : Int32) (mb : Nat → Int32) (ml mp mw : Int32) (mr : Nat → Int32) (mq : Int32) (mh : Int64)   : GM l D cy N L yX5_takeBack wsX5_takeBack ({ frames := 0, cells := 0, slots := 0, locals := 0 }) [.ref (L 162)] (mW cy L F mt ms ma mv mn mb ml mp mw mr mq mh) (none) (mW cy L F mt (cpN ms ma (0) (0) 118) ma mv mn mb ml mp mw mr mq mh) := by
  refine GM.ofW (cc := cX5_takeBack) (maxL := 2) (ret := none) (by decide) rfl (Nat.le_of_ble_eq_true rfl) ?_
  intro p e s m below meth c ls hx hb hr hts hown hlocks hml hK hA hG hS hl
  have hl : lv_has ls 2 [(0, .ref (L 162))] := hl
  have i162 : 162 < N := by omega
  have i163 : 163 < N := by omega
  have i164 : 164 < N := by omega
  have i165 : 165 < N := by omega
  have i166 : 166 < N := by omega
  have i167 : 167 < N := by omega
  have hf7 := hts (.fieldLink RX5 7 "SiloPadsModel" "s" "[I") (by decide +kernel)
  have hinX5 : ∀ w ∈ u_ws RX5 TX5 12, w ∈ wsX5_takeBack := by decide +kernel
  have hf13 := hts (.fieldLink RX5 13 "SiloPadsModel" "aside" "[I") (by decide +kernel)
  refine lv_iconst (v := 0) hx hb dX5_takeBack_0 (by decide) ?_
  refine lv_istore_n (lv' := [(1, .int 0), (0, .ref (L 162))]) hx hb dX5_takeBack_1 rfl hl (by decide) rfl (fun ls hl => ?_)
  refine W.loop (σ := Nat) (fun k H locs ls => (k ≤ 118) ∧ GW D N L (gA N L s.heap.size) (mW cy L F mt (cpN ms ma (0) (0) k) ma mv mn mb ml mp mw mr mq mh) H ∧ va_S (gA N L s.heap.size) s.heap H locs ∧ lv_has ls 2 [(1, .int (nI k)), (0, .ref (L 162))]) (fun k => 118 - k) 0 ⟨by omega, hG.to (by rw [cpN_0]), hS, lv_to (lv_sub hl [0, 1] rfl) (rfl)⟩ ?_
  intro k H locs ls hP9 ih2
  obtain ⟨hk9, hG, hS, hl⟩ := hP9
  refine lv_iload_n hx hb dX5_takeBack_2 rfl (lv_at hl 0 rfl) ?_
  refine lv_bipush (v := 118) hx hb dX5_takeBack_3 (by decide) ?_
  refine lv_icmp_ge (tgt := 26) hx hb dX5_takeBack_5 (by decide) (fun c_5 => ?_) (fun c_5 => ?_)
  · skip
    have c_5 : 118 ≤ k := (nI_leI (a := 118) (b := k) (by omega) (by omega)).mp c_5
    exact g_vret hx hb hr hlocks hK hG hS dX5_takeBack_26 ⟨rfl, (by rw [show k = 118 by omega])⟩
  · skip
    have c_5 : ¬ 118 ≤ k := fun h9 => c_5 ((nI_leI (a := 118) (b := k) (by omega) (by omega)).mpr h9)
    refine lv_aload_n hx hb dX5_takeBack_8 rfl (lv_at hl 1 rfl) ?_
    refine g_get (ci := 5) (C := RX5) (T := TX5) (M := 12) hx hb hts hinX5 hown hK hG i162 mW_o rfl 1 (by decide) hf7 rfl rfl dX5_takeBack_9 ?_
    refine lv_iload_n hx hb dX5_takeBack_12 rfl (lv_at hl 0 rfl) ?_
    refine lv_aload_n hx hb dX5_takeBack_13 rfl (lv_at hl 1 rfl) ?_
    refine g_get (ci := 5) (C := RX5) (T := TX5) (M := 12) hx hb hts hinX5 hown hK hG i162 mW_o rfl 2 (by decide) hf13 rfl rfl dX5_takeBack_14 ?_
    refine lv_iload_n hx hb dX5_takeBack_17 rfl (lv_at hl 0 rfl) ?_
    refine g_iald hx hb hK hG i164 mW_a164 (k := k) rfl (by omega) (by decide) dX5_takeBack_18 ?_
    refine g_iast hx hb hK hG hS i163 mW_a163 (k := k) rfl (by omega) (by decide) dX5_takeBack_19 (fun H locs hG hS => ?_)
    have hG := hG.to mW_us
    refine lv_iinc (v := nI (k + 1)) (lv' := [(1, .int (nI (k + 1))), (0, .ref (L 162))]) hx hb dX5_takeBack_20 hl (k := 0) rfl (nI_add k 1) (by decide) rfl (fun ls hl => ?_)
    refine lv_goto (tgt := 2) hx hb dX5_takeBack_23 (by decide) ?_
    have hl : lv_has ls 2 [(1, .int (nI (k + 1))), (0, .ref (L 162))] := lv_sub hl [0, 1] rfl
    exact ih2 (k + 1) _ _ _ (by omega) ⟨by omega, hG.to (by rw [show upd (cpN ms ma 0 0 k) k (ma k) = cpN ms ma 0 0 (k + 1) by simpa using cpN_s (f := ms) (g := ma) (d := 0) (a := 0) (k := k)]), hS, lv_to hl (rfl)⟩
set_option maxHeartbeats 4000000 in
set_option maxRecDepth 100000 in
theorem k_X5_setOf (l : Launch) (D : va_G) (cy : Nat → ClassId) (N : Nat) (L : Nat → Nat) (F : Nat → va_E) (hN : 168 ≤ N) (mt : Int32) (ms ma mv : Nat → Int32) (mn : Int32) (mb : Nat → Int32) (ml mp mw : Int32) (mr : Nat → Int32) (mq : Int32) (mh : Int64) (k j : Nat) (h : 10 + 24 * k + (4 + 2 * j + 1) < 118) : GM l D cy N L yX5_setOf wsX5_setOf ({ frames := 2, cells := 0, slots := 0, locals := 44 }) [.ref (L 162), .int (nI k), .int (nI j)] (mW cy L F mt ms ma mv mn mb ml mp mw mr mq mh) (some (.int (g_set (ms (10 + 24 * k + (4 + 2 * j + 1))) (ms 7)))) (mW cy L F mt ms ma mv mn mb ml mp mw mr mq mh) := by
  refine GM.ofW (cc := cX5_setOf) (maxL := 4) (ret := (some .int)) (by decide) rfl (Nat.le_of_ble_eq_true rfl) ?_
  intro p e s m below meth c ls hx hb hr hts hown hlocks hml hK hA hG hS hl
  have hl : lv_has ls 4 [(0, .ref (L 162)), (1, .int (nI k)), (2, .int (nI j))] := hl
  have i162 : 162 < N := by omega
  have i163 : 163 < N := by omega
  have i164 : 164 < N := by omega
  have i165 : 165 < N := by omega
  have i166 : 166 < N := by omega
  have i167 : 167 < N := by omega
  have hf7 := hts (.fieldLink RX5 7 "SiloPadsModel" "s" "[I") (by decide +kernel)
  have hinX5 : ∀ w ∈ u_ws RX5 TX5 12, w ∈ wsX5_setOf := by decide +kernel
  refine lv_aload_n hx hb dX5_setOf_0 rfl (lv_at hl 0 rfl) ?_
  refine lv_iload_n hx hb dX5_setOf_1 rfl (lv_at hl 1 rfl) ?_
  refine lv_iload_n hx hb dX5_setOf_2 rfl (lv_at hl 2 rfl) ?_
  refine g_cVi (As := [.int (nI k), .int (nI j)]) (rest := []) hx hb hml hown hts hK hA hG hS (k_X5_age l D cy N L F hN mt ms ma mv mn mb ml mp mw mr mq mh k j (by omega)) (cwV 2 hts gX5_setOf_X5_age rfl rfl rfl (by decide +kernel) ⟨Nat.le_of_ble_eq_true rfl, Nat.le_of_ble_eq_true rfl⟩) i162 mW_o (ci := 5) rfl rfl rfl rfl hl.1 (Nat.le_of_ble_eq_true rfl) dX5_setOf_3 ⟨Nat.zero_le _, Nat.zero_le _⟩ (fun H locs hG hS => ?_)
  refine lv_istore_n (lv' := [(3, .int (ms (10 + 24 * k + (4 + 2 * j + 1)))), (0, .ref (L 162)), (1, .int (nI k)), (2, .int (nI j))]) hx hb dX5_setOf_6 rfl hl (by decide) rfl (fun ls hl => ?_)
  refine lv_iload_n hx hb dX5_setOf_7 rfl (lv_at hl 0 rfl) ?_
  refine lv_aload_n hx hb dX5_setOf_8 rfl (lv_at hl 1 rfl) ?_
  refine g_get (ci := 5) (C := RX5) (T := TX5) (M := 12) hx hb hts hinX5 hown hK hG i162 mW_o rfl 1 (by decide) hf7 rfl rfl dX5_setOf_9 ?_
  refine lv_bipush (v := 7) hx hb dX5_setOf_12 (by decide) ?_
  refine g_iald hx hb hK hG i163 mW_a163 (k := 7) rfl (by omega) (by decide) dX5_setOf_14 ?_
  refine lv_icmp_gt (tgt := 22) hx hb dX5_setOf_15 (by decide) (fun c_15 => ?_) (fun c_15 => ?_)
  · skip
    refine lv_iload_n hx hb dX5_setOf_22 rfl (lv_at hl 0 rfl) ?_
    refine lv_iconst (v := 2) hx hb dX5_setOf_23 (by decide) ?_
    refine lv_aload_n hx hb dX5_setOf_24 rfl (lv_at hl 1 rfl) ?_
    refine g_get (ci := 5) (C := RX5) (T := TX5) (M := 12) hx hb hts hinX5 hown hK hG i162 mW_o rfl 1 (by decide) hf7 rfl rfl dX5_setOf_25 ?_
    refine lv_bipush (v := 7) hx hb dX5_setOf_28 (by decide) ?_
    refine g_iald hx hb hK hG i163 mW_a163 (k := 7) rfl (by omega) (by decide) dX5_setOf_30 ?_
    refine lv_imul hx hb dX5_setOf_31 ?_
    refine lv_icmp_gt (tgt := 39) hx hb dX5_setOf_32 (by decide) (fun c_32 => ?_) (fun c_32 => ?_)
    · skip
      refine lv_iconst (v := 2) hx hb dX5_setOf_39 (by decide) ?_
      exact g_iret hx hb hr hlocks hK hG hS rfl dX5_setOf_40 ⟨(congrArg (fun z9 => some (Value.int z9)) (by first | rfl | (simp only [g_set, c_15, c_32, if_true, if_false, not_true_eq_false, not_false_eq_true]; done) | (simp [g_set, c_15, c_32]; done))), rfl⟩
    · skip
      refine lv_iconst (v := 1) hx hb dX5_setOf_35 (by decide) ?_
      refine lv_goto (tgt := 40) hx hb dX5_setOf_36 (by decide) ?_
      exact g_iret hx hb hr hlocks hK hG hS rfl dX5_setOf_40 ⟨(congrArg (fun z9 => some (Value.int z9)) (by first | rfl | (simp only [g_set, c_15, c_32, if_true, if_false, not_true_eq_false, not_false_eq_true]; done) | (simp [g_set, c_15, c_32]; done))), rfl⟩
  · skip
    refine lv_iconst (v := 0) hx hb dX5_setOf_18 (by decide) ?_
    refine lv_goto (tgt := 40) hx hb dX5_setOf_19 (by decide) ?_
    exact g_iret hx hb hr hlocks hK hG hS rfl dX5_setOf_40 ⟨(congrArg (fun z9 => some (Value.int z9)) (by first | rfl | (simp only [g_set, c_15, if_true, if_false, not_true_eq_false, not_false_eq_true]; done) | (simp [g_set, c_15]; done))), rfl⟩
set_option maxHeartbeats 4000000 in
set_option maxRecDepth 100000 in
theorem k_X5_sumFrom (l : Launch) (D : va_G) (cy : Nat → ClassId) (N : Nat) (L : Nat → Nat) (F : Nat → va_E) (hN : 168 ≤ N) (mt : Int32) (ms ma mv : Nat → Int32) (mn : Int32) (mb : Nat → Int32) (ml mp mw : Int32) (mr : Nat → Int32) (mq : Int32) (mh : Int64) (k j n : Nat) (hk : k < 4) (hn : ms (10 + 24 * k + 3) = nI n) (hn10 : n ≤ 10) (hj : j ≤ n) : GM l D cy N L yX5_sumFrom wsX5_sumFrom ({ frames := 2, cells := 0, slots := 0, locals := 44 }) [.ref (L 162), .int (nI k), .int (nI j)] (mW cy L F mt ms ma mv mn mb ml mp mw mr mq mh) (some (.int (g_sum ms k j (n - j)))) (mW cy L F mt ms ma mv mn mb ml mp mw mr mq mh) := by
  refine GM.ofW (cc := cX5_sumFrom) (maxL := 5) (ret := (some .int)) (by decide) rfl (Nat.le_of_ble_eq_true rfl) ?_
  intro p e s m below meth c ls hx hb hr hts hown hlocks hml hK hA hG hS hl
  have hl : lv_has ls 5 [(0, .ref (L 162)), (1, .int (nI k)), (2, .int (nI j))] := hl
  have i162 : 162 < N := by omega
  have i163 : 163 < N := by omega
  have i164 : 164 < N := by omega
  have i165 : 165 < N := by omega
  have i166 : 166 < N := by omega
  have i167 : 167 < N := by omega
  refine lv_iconst (v := 0) hx hb dX5_sumFrom_0 (by decide) ?_
  refine lv_istore_n (lv' := [(3, .int 0), (0, .ref (L 162)), (1, .int (nI k)), (2, .int (nI j))]) hx hb dX5_sumFrom_1 rfl hl (by decide) rfl (fun ls hl => ?_)
  refine lv_iload_n hx hb dX5_sumFrom_2 rfl (lv_at hl 3 rfl) ?_
  refine lv_istore (lv' := [(4, .int (nI j)), (3, .int 0), (0, .ref (L 162)), (1, .int (nI k)), (2, .int (nI j))]) hx hb dX5_sumFrom_3 hl (by decide) rfl (fun ls hl => ?_)
  refine W.loop (σ := Nat) (fun d H locs ls => (j + d ≤ n) ∧ GW D N L (gA N L s.heap.size) (mW cy L F mt ms ma mv mn mb ml mp mw mr mq mh) H ∧ va_S (gA N L s.heap.size) s.heap H locs ∧ lv_has ls 5 [(3, .int (g_sum ms k j d)), (4, .int (nI (j + d))), (0, .ref (L 162)), (1, .int (nI k)), (2, .int (nI j))]) (fun d => n - (j + d)) 0 ⟨by omega, hG.to (rfl), hS, lv_to (lv_sub hl [1, 0, 2, 3, 4] rfl) (rfl)⟩ ?_
  intro d H locs ls hP9 ih5
  obtain ⟨hd9, hG, hS, hl⟩ := hP9
  refine lv_iload hx hb dX5_sumFrom_5 (lv_at hl 1 rfl) ?_
  refine lv_aload_n hx hb dX5_sumFrom_7 rfl (lv_at hl 2 rfl) ?_
  refine lv_iload_n hx hb dX5_sumFrom_8 rfl (lv_at hl 3 rfl) ?_
  refine lv_iconst (v := 3) hx hb dX5_sumFrom_9 (by decide) ?_
  refine g_cVi (As := [.int (nI k), .int 3]) (rest := [.int (nI (j + d))]) hx hb hml hown hts hK hA hG hS (k_X5_of l D cy N L F hN mt ms ma mv mn mb ml mp mw mr mq mh k 3 (by omega)) (cwV 2 hts gX5_sumFrom_X5_of rfl rfl rfl (by decide +kernel) ⟨Nat.le_of_ble_eq_true rfl, Nat.le_of_ble_eq_true rfl⟩) i162 mW_o (ci := 5) rfl rfl rfl rfl hl.1 (Nat.le_of_ble_eq_true rfl) dX5_sumFrom_10 ⟨Nat.zero_le _, Nat.zero_le _⟩ (fun H locs hG hS => ?_)
  refine lv_toN (k := n) (hn) ?_
  refine lv_icmp_ge (tgt := 32) hx hb dX5_sumFrom_13 (by decide) (fun c_13 => ?_) (fun c_13 => ?_)
  · skip
    have c_13 : n ≤ (j + d) := (nI_leI (a := n) (b := j + d) (by omega) (by omega)).mp c_13
    refine lv_iload_n hx hb dX5_sumFrom_32 rfl (lv_at hl 0 rfl) ?_
    exact g_iret hx hb hr hlocks hK hG hS rfl dX5_sumFrom_33 ⟨(congrArg (fun z9 => some (Value.int z9)) (by rw [show d = n - j by omega])), rfl⟩
  · skip
    have c_13 : ¬ n ≤ (j + d) := fun h9 => c_13 ((nI_leI (a := n) (b := j + d) (by omega) (by omega)).mpr h9)
    refine lv_iload_n hx hb dX5_sumFrom_16 rfl (lv_at hl 0 rfl) ?_
    refine lv_aload_n hx hb dX5_sumFrom_17 rfl (lv_at hl 2 rfl) ?_
    refine lv_iload_n hx hb dX5_sumFrom_18 rfl (lv_at hl 3 rfl) ?_
    refine lv_iload hx hb dX5_sumFrom_19 (lv_at hl 1 rfl) ?_
    refine g_cVi (As := [.int (nI k), .int (nI (j + d))]) (rest := [.int (g_sum ms k j d)]) hx hb hml hown hts hK hA hG hS (k_X5_tonnes l D cy N L F hN mt ms ma mv mn mb ml mp mw mr mq mh k (j + d) (by omega)) (cwV 2 hts gX5_sumFrom_X5_tonnes rfl rfl rfl (by decide +kernel) ⟨Nat.le_of_ble_eq_true rfl, Nat.le_of_ble_eq_true rfl⟩) i162 mW_o (ci := 5) rfl rfl rfl rfl hl.1 (Nat.le_of_ble_eq_true rfl) dX5_sumFrom_21 ⟨Nat.zero_le _, Nat.zero_le _⟩ (fun H locs hG hS => ?_)
    refine lv_iadd hx hb dX5_sumFrom_24 ?_
    refine lv_istore_n (lv' := [(3, .int ((g_sum ms k j d) + (ms (10 + 24 * k + (4 + 2 * (j + d)))))), (4, .int (nI (j + d))), (0, .ref (L 162)), (1, .int (nI k)), (2, .int (nI j))]) hx hb dX5_sumFrom_25 rfl hl (by decide) rfl (fun ls hl => ?_)
    refine lv_iinc (v := nI ((j + d) + 1)) (lv' := [(4, .int (nI ((j + d) + 1))), (3, .int ((g_sum ms k j d) + (ms (10 + 24 * k + (4 + 2 * (j + d)))))), (0, .ref (L 162)), (1, .int (nI k)), (2, .int (nI j))]) hx hb dX5_sumFrom_26 hl (k := 1) rfl (nI_add (j + d) 1) (by decide) rfl (fun ls hl => ?_)
    refine lv_goto (tgt := 5) hx hb dX5_sumFrom_29 (by decide) ?_
    have hl : lv_has ls 5 [(3, .int ((g_sum ms k j d) + (ms (10 + 24 * k + (4 + 2 * (j + d)))))), (4, .int (nI ((j + d) + 1))), (0, .ref (L 162)), (1, .int (nI k)), (2, .int (nI j))] := lv_sub hl [1, 0, 2, 3, 4] rfl
    exact ih5 (d + 1) _ _ _ (by omega) ⟨by omega, hG.to (rfl), hS, lv_to hl (rfl)⟩
set_option maxHeartbeats 4000000 in
set_option maxRecDepth 100000 in
theorem k_X5_flows (l : Launch) (D : va_G) (cy : Nat → ClassId) (N : Nat) (L : Nat → Nat) (F : Nat → va_E) (hN : 168 ≤ N) (mt : Int32) (ms ma mv : Nat → Int32) (mn : Int32) (mb : Nat → Int32) (ml mp mw : Int32) (mr : Nat → Int32) (mq : Int32) (mh : Int64) (k : Nat) (hk : k < 4) : GM l D cy N L yX5_flows wsX5_flows ({ frames := 3, cells := 0, slots := 0, locals := 67 }) [.ref (L 162), .int (nI k)] (mW cy L F mt ms ma mv mn mb ml mp mw mr mq mh) (some (.int (g_flows ms k))) (mW cy L F mt ms ma mv mn mb ml mp mw mr mq mh) := by
  refine GM.ofW (cc := cX5_flows) (maxL := 3) (ret := (some .int)) (by decide) rfl (Nat.le_of_ble_eq_true rfl) ?_
  intro p e s m below meth c ls hx hb hr hts hown hlocks hml hK hA hG hS hl
  have hl : lv_has ls 3 [(0, .ref (L 162)), (1, .int (nI k))] := hl
  have i162 : 162 < N := by omega
  have i163 : 163 < N := by omega
  have i164 : 164 < N := by omega
  have i165 : 165 < N := by omega
  have i166 : 166 < N := by omega
  have i167 : 167 < N := by omega
  refine lv_aload_n hx hb dX5_flows_0 rfl (lv_at hl 0 rfl) ?_
  refine lv_iload_n hx hb dX5_flows_1 rfl (lv_at hl 1 rfl) ?_
  refine lv_iconst (v := 3) hx hb dX5_flows_2 (by decide) ?_
  refine g_cVi (As := [.int (nI k), .int 3]) (rest := []) hx hb hml hown hts hK hA hG hS (k_X5_of l D cy N L F hN mt ms ma mv mn mb ml mp mw mr mq mh k 3 (by omega)) (cwV 2 hts gX5_flows_X5_of rfl rfl rfl (by decide +kernel) ⟨Nat.le_of_ble_eq_true rfl, Nat.le_of_ble_eq_true rfl⟩) i162 mW_o (ci := 5) rfl rfl rfl rfl hl.1 (Nat.le_of_ble_eq_true rfl) dX5_flows_3 ⟨Nat.zero_le _, Nat.zero_le _⟩ (fun H locs hG hS => ?_)
  refine lv_if_ne (tgt := 11) hx hb dX5_flows_6 (by decide) (fun c_6 => ?_) (fun c_6 => ?_)
  · skip
    refine lv_aload_n hx hb dX5_flows_11 rfl (lv_at hl 0 rfl) ?_
    refine lv_iload_n hx hb dX5_flows_12 rfl (lv_at hl 1 rfl) ?_
    refine lv_iconst (v := 0) hx hb dX5_flows_13 (by decide) ?_
    refine g_cVi (As := [.int (nI k), .int 0]) (rest := []) hx hb hml hown hts hK hA hG hS (k_X5_of l D cy N L F hN mt ms ma mv mn mb ml mp mw mr mq mh k 0 (by omega)) (cwV 2 hts gX5_flows_X5_of rfl rfl rfl (by decide +kernel) ⟨Nat.le_of_ble_eq_true rfl, Nat.le_of_ble_eq_true rfl⟩) i162 mW_o (ci := 5) rfl rfl rfl rfl hl.1 (Nat.le_of_ble_eq_true rfl) dX5_flows_14 ⟨Nat.zero_le _, Nat.zero_le _⟩ (fun H locs hG hS => ?_)
    refine lv_istore_n (lv' := [(2, .int (ms (10 + 24 * k + 0))), (0, .ref (L 162)), (1, .int (nI k))]) hx hb dX5_flows_17 rfl hl (by decide) rfl (fun ls hl => ?_)
    refine lv_aload_n hx hb dX5_flows_18 rfl (lv_at hl 1 rfl) ?_
    refine lv_iload_n hx hb dX5_flows_19 rfl (lv_at hl 2 rfl) ?_
    refine lv_iconst (v := 0) hx hb dX5_flows_20 (by decide) ?_
    refine g_cVi (As := [.int (nI k), .int 0]) (rest := []) hx hb hml hown hts hK hA hG hS (k_X5_setOf l D cy N L F hN mt ms ma mv mn mb ml mp mw mr mq mh k 0 (by omega)) (cwV 2 hts gX5_flows_X5_setOf rfl rfl rfl (by decide +kernel) ⟨Nat.le_of_ble_eq_true rfl, Nat.le_of_ble_eq_true rfl⟩) i162 mW_o (ci := 5) rfl rfl rfl rfl hl.1 (Nat.le_of_ble_eq_true rfl) dX5_flows_21 ⟨Nat.zero_le _, Nat.zero_le _⟩ (fun H locs hG hS => ?_)
    by_cases c_24_0 : g_set (ms (10 + 24 * k + (4 + 2 * 0 + 1))) (ms 7) = 0
    · skip
      refine lv_lookup (off := 28) (tgt := 52) hx hb dX5_flows_24 (by decide) (by rw [c_24_0]; decide) (by decide) ?_
      refine lv_iload_n hx hb dX5_flows_52 rfl (lv_at hl 0 rfl) ?_
      refine lv_if_ne (tgt := 60) hx hb dX5_flows_53 (by decide) (fun c_53 => ?_) (fun c_53 => ?_)
      · skip
        refine lv_bipush (v := 40) hx hb dX5_flows_60 (by decide) ?_
        refine lv_iload_n hx hb dX5_flows_62 rfl (lv_at hl 0 rfl) ?_
        refine lv_imul hx hb dX5_flows_63 ?_
        exact g_iret hx hb hr hlocks hK hG hS rfl dX5_flows_64 ⟨(congrArg (fun z9 => some (Value.int z9)) (by first | rfl | (simp only [g_flows, c_6, eq_true c_24_0, c_53, if_true, if_false, not_true_eq_false, not_false_eq_true]; done) | (simp [g_flows, c_6, eq_true c_24_0, c_53]; done))), rfl⟩
      · skip
        refine lv_iconst (v := 5) hx hb dX5_flows_56 (by decide) ?_
        refine lv_goto (tgt := 64) hx hb dX5_flows_57 (by decide) ?_
        exact g_iret hx hb hr hlocks hK hG hS rfl dX5_flows_64 ⟨(congrArg (fun z9 => some (Value.int z9)) (by first | rfl | (simp only [g_flows, c_6, eq_true c_24_0, eq_true c_53, if_true, if_false, not_true_eq_false, not_false_eq_true]; done) | (simp [g_flows, c_6, eq_true c_24_0, eq_true c_53]; done))), rfl⟩
    by_cases c_24_1 : g_set (ms (10 + 24 * k + (4 + 2 * 0 + 1))) (ms 7) = 1
    · skip
      refine lv_lookup (off := 41) (tgt := 65) hx hb dX5_flows_24 (by decide) (by rw [c_24_1]; decide) (by decide) ?_
      refine lv_iload_n hx hb dX5_flows_65 rfl (lv_at hl 0 rfl) ?_
      refine lv_if_ne (tgt := 73) hx hb dX5_flows_66 (by decide) (fun c_66 => ?_) (fun c_66 => ?_)
      · skip
        refine lv_bipush (v := 20) hx hb dX5_flows_73 (by decide) ?_
        refine lv_iload_n hx hb dX5_flows_75 rfl (lv_at hl 0 rfl) ?_
        refine lv_iconst (v := 1) hx hb dX5_flows_76 (by decide) ?_
        refine lv_isub hx hb dX5_flows_77 ?_
        refine lv_imul hx hb dX5_flows_78 ?_
        exact g_iret hx hb hr hlocks hK hG hS rfl dX5_flows_79 ⟨(congrArg (fun z9 => some (Value.int z9)) (by first | rfl | (simp only [g_flows, c_6, c_24_0, eq_true c_24_1, c_66, if_true, if_false, not_true_eq_false, not_false_eq_true]; done) | (simp [g_flows, c_6, c_24_0, eq_true c_24_1, c_66]; done))), rfl⟩
      · skip
        refine lv_iconst (v := 0) hx hb dX5_flows_69 (by decide) ?_
        refine lv_goto (tgt := 79) hx hb dX5_flows_70 (by decide) ?_
        exact g_iret hx hb hr hlocks hK hG hS rfl dX5_flows_79 ⟨(congrArg (fun z9 => some (Value.int z9)) (by first | rfl | (simp only [g_flows, c_6, c_24_0, eq_true c_24_1, eq_true c_66, if_true, if_false, not_true_eq_false, not_false_eq_true]; done) | (simp [g_flows, c_6, c_24_0, eq_true c_24_1, eq_true c_66]; done))), rfl⟩
    refine lv_lookup (off := 56) (tgt := 80) hx hb dX5_flows_24 (by decide) (lk_out2 (k0 := 0) c_24_0 (k1 := 1) c_24_1) (by decide) ?_
    refine lv_iload_n hx hb dX5_flows_80 rfl (lv_at hl 0 rfl) ?_
    refine lv_iconst (v := 4) hx hb dX5_flows_81 (by decide) ?_
    refine lv_icmp_ne (tgt := 90) hx hb dX5_flows_82 (by decide) (fun c_82 => ?_) (fun c_82 => ?_)
    · skip
      refine lv_iconst (v := 0) hx hb dX5_flows_90 (by decide) ?_
      exact g_iret hx hb hr hlocks hK hG hS rfl dX5_flows_91 ⟨(congrArg (fun z9 => some (Value.int z9)) (by first | rfl | (simp only [g_flows, c_6, c_24_0, c_24_1, c_82, if_true, if_false, not_true_eq_false, not_false_eq_true]; done) | (simp [g_flows, c_6, c_24_0, c_24_1, c_82]; done))), rfl⟩
    · skip
      refine lv_bipush (v := 10) hx hb dX5_flows_85 (by decide) ?_
      refine lv_goto (tgt := 91) hx hb dX5_flows_87 (by decide) ?_
      exact g_iret hx hb hr hlocks hK hG hS rfl dX5_flows_91 ⟨(congrArg (fun z9 => some (Value.int z9)) (by first | rfl | (simp only [g_flows, c_6, c_24_0, c_24_1, eq_true c_82, if_true, if_false, not_true_eq_false, not_false_eq_true]; done) | (simp [g_flows, c_6, c_24_0, c_24_1, eq_true c_82]; done))), rfl⟩
  · skip
    refine lv_iconst (v := 0) hx hb dX5_flows_9 (by decide) ?_
    exact g_iret hx hb hr hlocks hK hG hS rfl dX5_flows_10 ⟨(congrArg (fun z9 => some (Value.int z9)) (by first | rfl | (simp only [g_flows, eq_true c_6, if_true, if_false, not_true_eq_false, not_false_eq_true]; done) | (simp [g_flows, eq_true c_6]; done))), rfl⟩
