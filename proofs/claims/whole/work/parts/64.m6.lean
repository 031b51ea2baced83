set_option maxHeartbeats 4000000 in
set_option maxRecDepth 100000 in
theorem k_X5_sign (l : Launch) (D : va_G) (cy : Nat → ClassId) (N : Nat) (L : Nat → Nat) (F : Nat → va_E) (hN : 168 ≤ N) (mt : Int32) (ms ma mv : Nat → Int32) (mn : Int32) (mb : Nat → Int32) (ml mp mw : Int32) (mr : Nat → Int32) (mq : Int32) (mh : Int64) (a n : Nat) (hn : n ≤ 60) (ha : a ≤ 60) : GM l D cy N L yX5_sign wsX5_sign ({ frames := 0, cells := 0, slots := 0, locals := 0 }) [.ref (L 162)] (mW cy L F mt ms ma mv mn mb (nI n) (nI a) mw mr mq mh) (some (.int (q_sign mb a n))) (mW cy L F mt ms ma mv mn mb (nI n) (nI a) mw mr mq mh) := by
  refine GM.ofW (cc := cX5_sign) (maxL := 1) (ret := (some .int)) (by decide) rfl (Nat.le_of_ble_eq_true rfl) ?_
  intro p e s m below meth c ls hx hb hr hts hown hlocks hml hK hA hG hS hl
  have hl : lv_has ls 1 [(0, .ref (L 162))] := hl
  have i162 : 162 < N := by omega
  have i163 : 163 < N := by omega
  have i164 : 164 < N := by omega
  have i165 : 165 < N := by omega
  have i166 : 166 < N := by omega
  have i167 : 167 < N := by omega
  have hf124 := hts (.fieldLink RX5 124 "SiloPadsModel" "at" "I") (by decide +kernel)
  have hinX5 : ∀ w ∈ u_ws RX5 TX5 12, w ∈ wsX5_sign := by decide +kernel
  have hf121 := hts (.fieldLink RX5 121 "SiloPadsModel" "length" "I") (by decide +kernel)
  have hf19 := hts (.fieldLink RX5 19 "SiloPadsModel" "buffer" "[I") (by decide +kernel)
  refine lv_aload_n hx hb dX5_sign_0 rfl (lv_at hl 0 rfl) ?_
  refine g_get (ci := 5) (C := RX5) (T := TX5) (M := 12) hx hb hts hinX5 hown hK hG i162 mW_o rfl 7 (by decide) hf124 rfl rfl dX5_sign_1 ?_
  refine lv_aload_n hx hb dX5_sign_4 rfl (lv_at hl 0 rfl) ?_
  refine g_get (ci := 5) (C := RX5) (T := TX5) (M := 12) hx hb hts hinX5 hown hK hG i162 mW_o rfl 6 (by decide) hf121 rfl rfl dX5_sign_5 ?_
  refine lv_icmp_ge (tgt := 23) hx hb dX5_sign_8 (by decide) (fun c_8 => ?_) (fun c_8 => ?_)
  · skip
    have c_8 : n ≤ a := (nI_leI (a := n) (b := a) (by omega) (by omega)).mp c_8
    refine lv_iconst (v := 0) hx hb dX5_sign_23 (by decide) ?_
    exact g_iret hx hb hr hlocks hK hG hS rfl dX5_sign_24 ⟨(congrArg (fun z9 => some (Value.int z9)) (by first | (unfold q_sign; rw [if_pos (by omega)]; done) | (unfold q_sign; rw [if_neg (by omega)]; done))), rfl⟩
  · skip
    have c_8 : ¬ n ≤ a := fun h9 => c_8 ((nI_leI (a := n) (b := a) (by omega) (by omega)).mpr h9)
    refine lv_aload_n hx hb dX5_sign_11 rfl (lv_at hl 0 rfl) ?_
    refine g_get (ci := 5) (C := RX5) (T := TX5) (M := 12) hx hb hts hinX5 hown hK hG i162 mW_o rfl 5 (by decide) hf19 rfl rfl dX5_sign_12 ?_
    refine lv_aload_n hx hb dX5_sign_15 rfl (lv_at hl 0 rfl) ?_
    refine g_get (ci := 5) (C := RX5) (T := TX5) (M := 12) hx hb hts hinX5 hown hK hG i162 mW_o rfl 7 (by decide) hf124 rfl rfl dX5_sign_16 ?_
    refine g_iald hx hb hK hG i166 mW_a166 (k := a) rfl (by omega) (by decide) dX5_sign_19 ?_
    refine lv_goto (tgt := 24) hx hb dX5_sign_20 (by decide) ?_
    exact g_iret hx hb hr hlocks hK hG hS rfl dX5_sign_24 ⟨(congrArg (fun z9 => some (Value.int z9)) (by first | (unfold q_sign; rw [if_pos (by omega)]; done) | (unfold q_sign; rw [if_neg (by omega)]; done))), rfl⟩
set_option maxHeartbeats 4000000 in
set_option maxRecDepth 100000 in
theorem k_X5_takes (l : Launch) (D : va_G) (cy : Nat → ClassId) (N : Nat) (L : Nat → Nat) (F : Nat → va_E) (hN : 168 ≤ N) (mt : Int32) (ms ma mv : Nat → Int32) (mn : Int32) (mb : Nat → Int32) (ml mp mw : Int32) (mr : Nat → Int32) (mq : Int32) (mh : Int64) (a n : Nat) (x y : Int32) (hn : n ≤ 60) (ha : a ≤ 60) : GM l D cy N L yX5_takes wsX5_takes ({ frames := 1, cells := 0, slots := 0, locals := 22 }) [.ref (L 162), .int x, .int y] (mW cy L F mt ms ma mv mn mb (nI n) (nI a) mw mr mq mh) (some (.int (q_sign mb a n))) (mW cy L F mt ms ma mv mn mb (nI n) (nI (q_at mw (q_sign mb a n) x y a)) (q_wl mw (q_sign mb a n) x y) mr mq mh) := by
  refine GM.ofW (cc := cX5_takes) (maxL := 4) (ret := (some .int)) (by decide) rfl (Nat.le_of_ble_eq_true rfl) ?_
  intro p e s m below meth c ls hx hb hr hts hown hlocks hml hK hA hG hS hl
  have hl : lv_has ls 4 [(0, .ref (L 162)), (1, .int x), (2, .int y)] := hl
  have i162 : 162 < N := by omega
  have i163 : 163 < N := by omega
  have i164 : 164 < N := by omega
  have i165 : 165 < N := by omega
  have i166 : 166 < N := by omega
  have i167 : 167 < N := by omega
  have hf127 := hts (.fieldLink RX5 127 "SiloPadsModel" "isWell" "Z") (by decide +kernel)
  have hinX5 : ∀ w ∈ u_ws RX5 TX5 12, w ∈ wsX5_takes := by decide +kernel
  have hf124 := hts (.fieldLink RX5 124 "SiloPadsModel" "at" "I") (by decide +kernel)
  refine lv_aload_n hx hb dX5_takes_0 rfl (lv_at hl 0 rfl) ?_
  refine lv_aload_n hx hb dX5_takes_1 rfl (lv_at hl 0 rfl) ?_
  refine g_get (ci := 5) (C := RX5) (T := TX5) (M := 12) hx hb hts hinX5 hown hK hG i162 mW_o rfl 8 (by decide) hf127 rfl rfl dX5_takes_2 ?_
  refine lv_if_eq (tgt := 24) hx hb dX5_takes_5 (by decide) (fun c_5 => ?_) (fun c_5 => ?_)
  · skip
    refine lv_iconst (v := 0) hx hb dX5_takes_24 (by decide) ?_
    refine g_put (ci := 5) (C := RX5) (T := TX5) (M := 12) (ty := .boolean) hx hb hts hinX5 tyX5 tyX5_ok nmX5 hown hK hG hS i162 mW_o rfl 8 (by decide) hf127 rfl rfl rfl rfl rfl (Nat.le_of_ble_eq_true rfl) dX5_takes_25 rfl (fun H locs hG hS => ?_)
    have hG := hG.to mW_uo
    refine lv_aload_n hx hb dX5_takes_28 rfl (lv_at hl 0 rfl) ?_
    refine g_cVi (As := []) (rest := []) hx hb hml hown hts hK hA hG hS (k_X5_sign l D cy N L F hN mt ms ma mv mn mb (nI n) (nI a) 0 mr mq mh a n (by omega) (by omega)) (cwV 0 hts gX5_takes_X5_sign rfl rfl rfl (by decide +kernel) ⟨Nat.le_of_ble_eq_true rfl, Nat.le_of_ble_eq_true rfl⟩) i162 mW_o (ci := 5) rfl rfl rfl rfl hl.1 (Nat.le_of_ble_eq_true rfl) dX5_takes_29 ⟨Nat.zero_le _, Nat.zero_le _⟩ (fun H locs hG hS => ?_)
    refine lv_istore_n (lv' := [(3, .int (q_sign mb a n)), (0, .ref (L 162)), (1, .int x), (2, .int y)]) hx hb dX5_takes_32 rfl hl (by decide) rfl (fun ls hl => ?_)
    refine lv_aload_n hx hb dX5_takes_33 rfl (lv_at hl 1 rfl) ?_
    refine lv_dup hx hb dX5_takes_34 rfl ?_
    refine g_get (ci := 5) (C := RX5) (T := TX5) (M := 12) hx hb hts hinX5 hown hK hG i162 mW_o rfl 7 (by decide) hf124 rfl rfl dX5_takes_35 ?_
    refine lv_aload_n hx hb dX5_takes_38 rfl (lv_at hl 1 rfl) ?_
    refine g_get (ci := 5) (C := RX5) (T := TX5) (M := 12) hx hb hts hinX5 hown hK hG i162 mW_o rfl 8 (by decide) hf127 rfl rfl dX5_takes_39 ?_
    refine lv_if_eq (tgt := 49) hx hb dX5_takes_42 (by decide) (fun c_42 => ?_) (fun c_42 => ?_)
    · skip
      refine lv_iconst (v := 0) hx hb dX5_takes_49 (by decide) ?_
      refine lv_iadd hx hb dX5_takes_50 ?_
      refine lv_toN (k := a + 0) (nI_add a 0) ?_
      refine g_put (ci := 5) (C := RX5) (T := TX5) (M := 12) (ty := .int) hx hb hts hinX5 tyX5 tyX5_ok nmX5 hown hK hG hS i162 mW_o rfl 7 (by decide) hf124 rfl rfl rfl rfl rfl (Nat.le_of_ble_eq_true rfl) dX5_takes_51 rfl (fun H locs hG hS => ?_)
      have hG := hG.to mW_uo
      refine lv_iload_n hx hb dX5_takes_54 rfl (lv_at hl 0 rfl) ?_
      exact g_iret hx hb hr hlocks hK hG hS rfl dX5_takes_55 ⟨rfl, (by simp only [q_wl, q_at, eq_true c_5, if_true, if_false])⟩
    · skip
      exact absurd c_42 (by decide)
  · skip
    refine lv_aload_n hx hb dX5_takes_8 rfl (lv_at hl 0 rfl) ?_
    refine g_cVi (As := []) (rest := [.ref (L 162)]) hx hb hml hown hts hK hA hG hS (k_X5_sign l D cy N L F hN mt ms ma mv mn mb (nI n) (nI a) mw mr mq mh a n (by omega) (by omega)) (cwV 0 hts gX5_takes_X5_sign rfl rfl rfl (by decide +kernel) ⟨Nat.le_of_ble_eq_true rfl, Nat.le_of_ble_eq_true rfl⟩) i162 mW_o (ci := 5) rfl rfl rfl rfl hl.1 (Nat.le_of_ble_eq_true rfl) dX5_takes_9 ⟨Nat.zero_le _, Nat.zero_le _⟩ (fun H locs hG hS => ?_)
    refine lv_iload_n hx hb dX5_takes_12 rfl (lv_at hl 1 rfl) ?_
    refine lv_iload_n hx hb dX5_takes_13 rfl (lv_at hl 2 rfl) ?_
    refine g_cSi (As := [.int (q_sign mb a n), .int x, .int y]) (rest := [.ref (L 162)]) hx hb hml hown hts hK hA hG hS (k_X5_in l D cy N L (mW cy L F mt ms ma mv mn mb (nI n) (nI a) mw mr mq mh) (q_sign mb a n) x y ) (g_cwS 3 hts gX5_takes_X5_in rfl rfl rfl (by decide +kernel) ⟨Nat.le_of_ble_eq_true rfl, Nat.le_of_ble_eq_true rfl⟩) rfl rfl hl.1 (Nat.le_of_ble_eq_true rfl) dX5_takes_14 ⟨Nat.zero_le _, Nat.zero_le _⟩ (fun H locs hG hS => ?_)
    refine lv_if_eq (tgt := 24) hx hb dX5_takes_17 (by decide) (fun c_17 => ?_) (fun c_17 => ?_)
    · skip
      refine lv_iconst (v := 0) hx hb dX5_takes_24 (by decide) ?_
      refine g_put (ci := 5) (C := RX5) (T := TX5) (M := 12) (ty := .boolean) hx hb hts hinX5 tyX5 tyX5_ok nmX5 hown hK hG hS i162 mW_o rfl 8 (by decide) hf127 rfl rfl rfl rfl rfl (Nat.le_of_ble_eq_true rfl) dX5_takes_25 rfl (fun H locs hG hS => ?_)
      have hG := hG.to mW_uo
      refine lv_aload_n hx hb dX5_takes_28 rfl (lv_at hl 0 rfl) ?_
      refine g_cVi (As := []) (rest := []) hx hb hml hown hts hK hA hG hS (k_X5_sign l D cy N L F hN mt ms ma mv mn mb (nI n) (nI a) 0 mr mq mh a n (by omega) (by omega)) (cwV 0 hts gX5_takes_X5_sign rfl rfl rfl (by decide +kernel) ⟨Nat.le_of_ble_eq_true rfl, Nat.le_of_ble_eq_true rfl⟩) i162 mW_o (ci := 5) rfl rfl rfl rfl hl.1 (Nat.le_of_ble_eq_true rfl) dX5_takes_29 ⟨Nat.zero_le _, Nat.zero_le _⟩ (fun H locs hG hS => ?_)
      refine lv_istore_n (lv' := [(3, .int (q_sign mb a n)), (0, .ref (L 162)), (1, .int x), (2, .int y)]) hx hb dX5_takes_32 rfl hl (by decide) rfl (fun ls hl => ?_)
      refine lv_aload_n hx hb dX5_takes_33 rfl (lv_at hl 1 rfl) ?_
      refine lv_dup hx hb dX5_takes_34 rfl ?_
      refine g_get (ci := 5) (C := RX5) (T := TX5) (M := 12) hx hb hts hinX5 hown hK hG i162 mW_o rfl 7 (by decide) hf124 rfl rfl dX5_takes_35 ?_
      refine lv_aload_n hx hb dX5_takes_38 rfl (lv_at hl 1 rfl) ?_
      refine g_get (ci := 5) (C := RX5) (T := TX5) (M := 12) hx hb hts hinX5 hown hK hG i162 mW_o rfl 8 (by decide) hf127 rfl rfl dX5_takes_39 ?_
      refine lv_if_eq (tgt := 49) hx hb dX5_takes_42 (by decide) (fun c_42 => ?_) (fun c_42 => ?_)
      · skip
        refine lv_iconst (v := 0) hx hb dX5_takes_49 (by decide) ?_
        refine lv_iadd hx hb dX5_takes_50 ?_
        refine lv_toN (k := a + 0) (nI_add a 0) ?_
        refine g_put (ci := 5) (C := RX5) (T := TX5) (M := 12) (ty := .int) hx hb hts hinX5 tyX5 tyX5_ok nmX5 hown hK hG hS i162 mW_o rfl 7 (by decide) hf124 rfl rfl rfl rfl rfl (Nat.le_of_ble_eq_true rfl) dX5_takes_51 rfl (fun H locs hG hS => ?_)
        have hG := hG.to mW_uo
        refine lv_iload_n hx hb dX5_takes_54 rfl (lv_at hl 0 rfl) ?_
        exact g_iret hx hb hr hlocks hK hG hS rfl dX5_takes_55 ⟨rfl, (by simp only [q_wl, q_at, c_5, eq_true c_17, if_true, if_false])⟩
      · skip
        exact absurd c_42 (by decide)
    · skip
      refine lv_iconst (v := 1) hx hb dX5_takes_20 (by decide) ?_
      refine lv_goto (tgt := 25) hx hb dX5_takes_21 (by decide) ?_
      refine g_put (ci := 5) (C := RX5) (T := TX5) (M := 12) (ty := .boolean) hx hb hts hinX5 tyX5 tyX5_ok nmX5 hown hK hG hS i162 mW_o rfl 8 (by decide) hf127 rfl rfl rfl rfl rfl (Nat.le_of_ble_eq_true rfl) dX5_takes_25 rfl (fun H locs hG hS => ?_)
      have hG := hG.to mW_uo
      refine lv_aload_n hx hb dX5_takes_28 rfl (lv_at hl 0 rfl) ?_
      refine g_cVi (As := []) (rest := []) hx hb hml hown hts hK hA hG hS (k_X5_sign l D cy N L F hN mt ms ma mv mn mb (nI n) (nI a) 1 mr mq mh a n (by omega) (by omega)) (cwV 0 hts gX5_takes_X5_sign rfl rfl rfl (by decide +kernel) ⟨Nat.le_of_ble_eq_true rfl, Nat.le_of_ble_eq_true rfl⟩) i162 mW_o (ci := 5) rfl rfl rfl rfl hl.1 (Nat.le_of_ble_eq_true rfl) dX5_takes_29 ⟨Nat.zero_le _, Nat.zero_le _⟩ (fun H locs hG hS => ?_)
      refine lv_istore_n (lv' := [(3, .int (q_sign mb a n)), (0, .ref (L 162)), (1, .int x), (2, .int y)]) hx hb dX5_takes_32 rfl hl (by decide) rfl (fun ls hl => ?_)
      refine lv_aload_n hx hb dX5_takes_33 rfl (lv_at hl 1 rfl) ?_
      refine lv_dup hx hb dX5_takes_34 rfl ?_
      refine g_get (ci := 5) (C := RX5) (T := TX5) (M := 12) hx hb hts hinX5 hown hK hG i162 mW_o rfl 7 (by decide) hf124 rfl rfl dX5_takes_35 ?_
      refine lv_aload_n hx hb dX5_takes_38 rfl (lv_at hl 1 rfl) ?_
      refine g_get (ci := 5) (C := RX5) (T := TX5) (M := 12) hx hb hts hinX5 hown hK hG i162 mW_o rfl 8 (by decide) hf127 rfl rfl dX5_takes_39 ?_
      refine lv_if_eq (tgt := 49) hx hb dX5_takes_42 (by decide) (fun c_42 => ?_) (fun c_42 => ?_)
      · skip
        exact absurd c_42 (by decide)
      · skip
        refine lv_iconst (v := 1) hx hb dX5_takes_45 (by decide) ?_
        refine lv_goto (tgt := 50) hx hb dX5_takes_46 (by decide) ?_
        refine lv_iadd hx hb dX5_takes_50 ?_
        refine lv_toN (k := a + 1) (nI_add a 1) ?_
        refine g_put (ci := 5) (C := RX5) (T := TX5) (M := 12) (ty := .int) hx hb hts hinX5 tyX5 tyX5_ok nmX5 hown hK hG hS i162 mW_o rfl 7 (by decide) hf124 rfl rfl rfl rfl rfl (Nat.le_of_ble_eq_true rfl) dX5_takes_51 rfl (fun H locs hG hS => ?_)
        have hG := hG.to mW_uo
        refine lv_iload_n hx hb dX5_takes_54 rfl (lv_at hl 0 rfl) ?_
        exact g_iret hx hb hr hlocks hK hG hS rfl dX5_takes_55 ⟨rfl, (by simp only [q_wl, q_at, c_5, c_17, if_true, if_false])⟩
set_option maxHeartbeats 4000000 in
set_option maxRecDepth 100000 in
theorem k_X5_number (l : Launch) (D : va_G) (cy : Nat → ClassId) (N : Nat) (L : Nat → Nat) (F : Nat → va_E) (hN : 168 ≤ N) (mt : Int32) (ms ma mv : Nat → Int32) (mn : Int32) (mb : Nat → Int32) (ml mp mw : Int32) (mr : Nat → Int32) (mq : Int32) (mh : Int64) (a n : Nat) (mo : Int32) (hn : n ≤ 60) (ha : a ≤ 60) : GM l D cy N L yX5_number wsX5_number ({ frames := 2, cells := 0, slots := 0, locals := 45 }) [.ref (L 162), .int mo] (mW cy L F mt ms ma mv mn mb (nI n) (nI a) mw mr mq mh) (some (.int ((q_num mb n mo (q_wl mw (q_sign mb a n) 49 57) (q_at mw (q_sign mb a n) 49 57 a) ((q_sign mb a n) - 48)).2))) (mW cy L F mt ms ma mv mn mb (nI n) (nI (q_num mb n mo (q_wl mw (q_sign mb a n) 49 57) (q_at mw (q_sign mb a n) 49 57 a) ((q_sign mb a n) - 48)).1) (q_wl mw (q_sign mb a n) 49 57) mr mq mh) := by
  refine GM.ofW (cc := cX5_number) (maxL := 3) (ret := (some .int)) (by decide) rfl (Nat.le_of_ble_eq_true rfl) ?_
  intro p e s m below meth c ls hx hb hr hts hown hlocks hml hK hA hG hS hl
  have hl : lv_has ls 3 [(0, .ref (L 162)), (1, .int mo)] := hl
  have i162 : 162 < N := by omega
  have i163 : 163 < N := by omega
  have i164 : 164 < N := by omega
  have i165 : 165 < N := by omega
  have i166 : 166 < N := by omega
  have i167 : 167 < N := by omega
  have hf127 := hts (.fieldLink RX5 127 "SiloPadsModel" "isWell" "Z") (by decide +kernel)
  have hinX5 : ∀ w ∈ u_ws RX5 TX5 12, w ∈ wsX5_number := by decide +kernel
  have hf124 := hts (.fieldLink RX5 124 "SiloPadsModel" "at" "I") (by decide +kernel)
  have ha1 : q_at mw (q_sign mb a n) 49 57 a ≤ 60 := q_at_le (by decide) hn ha
  refine lv_aload_n hx hb dX5_number_0 rfl (lv_at hl 0 rfl) ?_
  refine lv_bipush (v := 49) hx hb dX5_number_1 (by decide) ?_
  refine lv_bipush (v := 57) hx hb dX5_number_3 (by decide) ?_
  refine g_cVi (As := [.int 49, .int 57]) (rest := []) hx hb hml hown hts hK hA hG hS (k_X5_takes l D cy N L F hN mt ms ma mv mn mb (nI n) (nI a) mw mr mq mh a n 49 57 (by omega) (by omega)) (cwV 2 hts gX5_number_X5_takes rfl rfl rfl (by decide +kernel) ⟨Nat.le_of_ble_eq_true rfl, Nat.le_of_ble_eq_true rfl⟩) i162 mW_o (ci := 5) rfl rfl rfl rfl hl.1 (Nat.le_of_ble_eq_true rfl) dX5_number_5 ⟨Nat.zero_le _, Nat.zero_le _⟩ (fun H locs hG hS => ?_)
  refine lv_bipush (v := 48) hx hb dX5_number_8 (by decide) ?_
  refine lv_isub hx hb dX5_number_10 ?_
  refine lv_istore_n (lv' := [(2, .int ((q_sign mb a n) - 48)), (0, .ref (L 162)), (1, .int mo)]) hx hb dX5_number_11 rfl hl (by decide) rfl (fun ls hl => ?_)
  refine W.loop (σ := Nat × Int32) (fun (b9, v9) H locs ls => (b9 ≤ 60 ∧ q_num mb n mo (q_wl mw (q_sign mb a n) 49 57) b9 v9 = (q_num mb n mo (q_wl mw (q_sign mb a n) 49 57) (q_at mw (q_sign mb a n) 49 57 a) ((q_sign mb a n) - 48))) ∧ GW D N L (gA N L s.heap.size) (mW cy L F mt ms ma mv mn mb (nI n) (nI b9) (q_wl mw (q_sign mb a n) 49 57) mr mq mh) H ∧ va_S (gA N L s.heap.size) s.heap H locs ∧ lv_has ls 3 [(2, .int v9), (0, .ref (L 162)), (1, .int mo)]) (fun (b9, v9) => 60 - b9) ((q_at mw (q_sign mb a n) 49 57 a), ((q_sign mb a n) - 48)) ⟨⟨ha1, rfl⟩, hG.to (rfl), hS, lv_to (lv_sub hl [0, 1, 2] rfl) (rfl)⟩ ?_
  intro (b9, v9) H locs ls hP9 ih12
  obtain ⟨⟨hb9, he9⟩, hG, hS, hl⟩ := hP9
  refine lv_aload_n hx hb dX5_number_12 rfl (lv_at hl 1 rfl) ?_
  refine g_get (ci := 5) (C := RX5) (T := TX5) (M := 12) hx hb hts hinX5 hown hK hG i162 mW_o rfl 8 (by decide) hf127 rfl rfl dX5_number_13 ?_
  refine lv_if_eq (tgt := 75) hx hb dX5_number_16 (by decide) (fun c_16 => ?_) (fun c_16 => ?_)
  · skip
    refine lv_iload_n hx hb dX5_number_75 rfl (lv_at hl 0 rfl) ?_
    exact g_iret hx hb hr hlocks hK hG hS rfl dX5_number_76 ⟨(congrArg (fun z9 => some (Value.int z9)) (by rw [← he9]; unfold q_num; first | (rw [if_pos c_16]; done) | (rw [if_neg c_16, q_nm_in c_30]; done) | (rw [if_neg c_16, q_nm_mo c_46]; done))), (by rw [← he9]; unfold q_num; first | (rw [if_pos c_16]; done) | (rw [if_neg c_16, q_nm_in c_30]; done) | (rw [if_neg c_16, q_nm_mo c_46]; done))⟩
  · skip
    refine lv_aload_n hx hb dX5_number_19 rfl (lv_at hl 1 rfl) ?_
    refine g_cVi (As := []) (rest := []) hx hb hml hown hts hK hA hG hS (k_X5_sign l D cy N L F hN mt ms ma mv mn mb (nI n) (nI b9) (q_wl mw (q_sign mb a n) 49 57) mr mq mh b9 n (by omega) (by omega)) (cwV 0 hts gX5_number_X5_sign rfl rfl rfl (by decide +kernel) ⟨Nat.le_of_ble_eq_true rfl, Nat.le_of_ble_eq_true rfl⟩) i162 mW_o (ci := 5) rfl rfl rfl rfl hl.1 (Nat.le_of_ble_eq_true rfl) dX5_number_20 ⟨Nat.zero_le _, Nat.zero_le _⟩ (fun H locs hG hS => ?_)
    refine lv_bipush (v := 48) hx hb dX5_number_23 (by decide) ?_
    refine lv_bipush (v := 57) hx hb dX5_number_25 (by decide) ?_
    refine g_cSi (As := [.int (q_sign mb b9 n), .int 48, .int 57]) (rest := []) hx hb hml hown hts hK hA hG hS (k_X5_in l D cy N L (mW cy L F mt ms ma mv mn mb (nI n) (nI b9) (q_wl mw (q_sign mb a n) 49 57) mr mq mh) (q_sign mb b9 n) 48 57 ) (g_cwS 3 hts gX5_number_X5_in rfl rfl rfl (by decide +kernel) ⟨Nat.le_of_ble_eq_true rfl, Nat.le_of_ble_eq_true rfl⟩) rfl rfl hl.1 (Nat.le_of_ble_eq_true rfl) dX5_number_27 ⟨Nat.zero_le _, Nat.zero_le _⟩ (fun H locs hG hS => ?_)
    refine lv_if_eq (tgt := 75) hx hb dX5_number_30 (by decide) (fun c_30 => ?_) (fun c_30 => ?_)
    · skip
      refine lv_iload_n hx hb dX5_number_75 rfl (lv_at hl 0 rfl) ?_
      exact g_iret hx hb hr hlocks hK hG hS rfl dX5_number_76 ⟨(congrArg (fun z9 => some (Value.int z9)) (by rw [← he9]; unfold q_num; first | (rw [if_pos c_16]; done) | (rw [if_neg c_16, q_nm_in c_30]; done) | (rw [if_neg c_16, q_nm_mo c_46]; done))), (by rw [← he9]; unfold q_num; first | (rw [if_pos c_16]; done) | (rw [if_neg c_16, q_nm_in c_30]; done) | (rw [if_neg c_16, q_nm_mo c_46]; done))⟩
    · skip
      have hlt := q_in_lt c_30
      refine lv_bipush (v := 10) hx hb dX5_number_33 (by decide) ?_
      refine lv_iload_n hx hb dX5_number_35 rfl (lv_at hl 0 rfl) ?_
      refine lv_imul hx hb dX5_number_36 ?_
      refine lv_aload_n hx hb dX5_number_37 rfl (lv_at hl 1 rfl) ?_
      refine g_cVi (As := []) (rest := [.int (10 * v9)]) hx hb hml hown hts hK hA hG hS (k_X5_sign l D cy N L F hN mt ms ma mv mn mb (nI n) (nI b9) (q_wl mw (q_sign mb a n) 49 57) mr mq mh b9 n (by omega) (by omega)) (cwV 0 hts gX5_number_X5_sign rfl rfl rfl (by decide +kernel) ⟨Nat.le_of_ble_eq_true rfl, Nat.le_of_ble_eq_true rfl⟩) i162 mW_o (ci := 5) rfl rfl rfl rfl hl.1 (Nat.le_of_ble_eq_true rfl) dX5_number_38 ⟨Nat.zero_le _, Nat.zero_le _⟩ (fun H locs hG hS => ?_)
      refine lv_iadd hx hb dX5_number_41 ?_
      refine lv_bipush (v := 48) hx hb dX5_number_42 (by decide) ?_
      refine lv_isub hx hb dX5_number_44 ?_
      refine lv_iload_n hx hb dX5_number_45 rfl (lv_at hl 2 rfl) ?_
      refine lv_icmp_gt (tgt := 75) hx hb dX5_number_46 (by decide) (fun c_46 => ?_) (fun c_46 => ?_)
      · skip
        refine lv_iload_n hx hb dX5_number_75 rfl (lv_at hl 0 rfl) ?_
        exact g_iret hx hb hr hlocks hK hG hS rfl dX5_number_76 ⟨(congrArg (fun z9 => some (Value.int z9)) (by rw [← he9]; unfold q_num; first | (rw [if_pos c_16]; done) | (rw [if_neg c_16, q_nm_in c_30]; done) | (rw [if_neg c_16, q_nm_mo c_46]; done))), (by rw [← he9]; unfold q_num; first | (rw [if_pos c_16]; done) | (rw [if_neg c_16, q_nm_in c_30]; done) | (rw [if_neg c_16, q_nm_mo c_46]; done))⟩
      · skip
        refine lv_bipush (v := 10) hx hb dX5_number_49 (by decide) ?_
        refine lv_iload_n hx hb dX5_number_51 rfl (lv_at hl 0 rfl) ?_
        refine lv_imul hx hb dX5_number_52 ?_
        refine lv_aload_n hx hb dX5_number_53 rfl (lv_at hl 1 rfl) ?_
        refine g_cVi (As := []) (rest := [.int (10 * v9)]) hx hb hml hown hts hK hA hG hS (k_X5_sign l D cy N L F hN mt ms ma mv mn mb (nI n) (nI b9) (q_wl mw (q_sign mb a n) 49 57) mr mq mh b9 n (by omega) (by omega)) (cwV 0 hts gX5_number_X5_sign rfl rfl rfl (by decide +kernel) ⟨Nat.le_of_ble_eq_true rfl, Nat.le_of_ble_eq_true rfl⟩) i162 mW_o (ci := 5) rfl rfl rfl rfl hl.1 (Nat.le_of_ble_eq_true rfl) dX5_number_54 ⟨Nat.zero_le _, Nat.zero_le _⟩ (fun H locs hG hS => ?_)
        refine lv_iadd hx hb dX5_number_57 ?_
        refine lv_bipush (v := 48) hx hb dX5_number_58 (by decide) ?_
        refine lv_isub hx hb dX5_number_60 ?_
        refine lv_istore_n (lv' := [(2, .int (((10 * v9) + (q_sign mb b9 n)) - 48)), (0, .ref (L 162)), (1, .int mo)]) hx hb dX5_number_61 rfl hl (by decide) rfl (fun ls hl => ?_)
        refine lv_aload_n hx hb dX5_number_62 rfl (lv_at hl 1 rfl) ?_
        refine lv_dup hx hb dX5_number_63 rfl ?_
        refine g_get (ci := 5) (C := RX5) (T := TX5) (M := 12) hx hb hts hinX5 hown hK hG i162 mW_o rfl 7 (by decide) hf124 rfl rfl dX5_number_64 ?_
        refine lv_iconst (v := 1) hx hb dX5_number_67 (by decide) ?_
        refine lv_iadd hx hb dX5_number_68 ?_
        refine lv_toN (k := b9 + 1) (nI_add b9 1) ?_
        refine g_put (ci := 5) (C := RX5) (T := TX5) (M := 12) (ty := .int) hx hb hts hinX5 tyX5 tyX5_ok nmX5 hown hK hG hS i162 mW_o rfl 7 (by decide) hf124 rfl rfl rfl rfl rfl (Nat.le_of_ble_eq_true rfl) dX5_number_69 rfl (fun H locs hG hS => ?_)
        have hG := hG.to mW_uo
        refine lv_goto (tgt := 12) hx hb dX5_number_72 (by decide) ?_
        have hl : lv_has ls 3 [(2, .int (((10 * v9) + (q_sign mb b9 n)) - 48)), (0, .ref (L 162)), (1, .int mo)] := lv_sub hl [0, 1, 2] rfl
        exact ih12 (b9 + 1, 10 * v9 + q_sign mb b9 n - 48) _ _ _ (by show 60 - (b9 + 1) < 60 - b9; omega) ⟨⟨by omega, by rw [← he9]; unfold q_num; rw [if_neg c_16, if_neg c_16]; exact (q_nm_go c_30 c_46).symm⟩, hG.to (rfl), hS, lv_to hl (rfl)⟩
set_option maxHeartbeats 4000000 in
set_option maxRecDepth 100000 in
theorem k_X5_readsPart (l : Launch) (D : va_G) (cy : Nat → ClassId) (N : Nat) (L : Nat → Nat) (F : Nat → va_E) (hN : 168 ≤ N) (mt : Int32) (ms ma mv : Nat → Int32) (mn : Int32) (mb : Nat → Int32) (ml mp mw : Int32) (mr : Nat → Int32) (mq : Int32) (mh : Int64) (a n q : Nat) (hn : n ≤ 60) (ha : a ≤ 60) (hq : q < 22) : GM l D cy N L yX5_readsPart wsX5_readsPart ({ frames := 3, cells := 0, slots := 0, locals := 67 }) [.ref (L 162)] (mW cy L F mt ms ma mv mn mb (nI n) (nI a) 1 mr (nI q) mh) (none) (mW cy L F mt ms ma mv mn mb (nI n) (nI (q_A mb n a q mr)) (q_W mb n a) (q_R mb n a q mr) (nI (q_Q mb n a q)) mh) := by
  refine GM.ofW (cc := cX5_readsPart) (maxL := 2) (ret := none) (by decide) rfl (Nat.le_of_ble_eq_true rfl) ?_
  intro p e s m below meth c ls hx hb hr hts hown hlocks hml hK hA hG hS hl
  have hl : lv_has ls 2 [(0, .ref (L 162))] := hl
  have i162 : 162 < N := by omega
  have i163 : 163 < N := by omega
  have i164 : 164 < N := by omega
  have i165 : 165 < N := by omega
  have i166 : 166 < N := by omega
  have i167 : 167 < N := by omega
  have hf137 := hts (.fieldLink RX5 137 "SiloPadsModel" "readMany" "I") (by decide +kernel)
  have hinX5 : ∀ w ∈ u_ws RX5 TX5 12, w ∈ wsX5_readsPart := by decide +kernel
  have hf22 := hts (.fieldLink RX5 22 "SiloPadsModel" "read" "[I") (by decide +kernel)
  have hf127 := hts (.fieldLink RX5 127 "SiloPadsModel" "isWell" "Z") (by decide +kernel)
  have l1 := q_p1a_le (b := mb) hn ha
  have l2 := q_e1a_le (b := mb) hn ha
  have l3 := q_e3a_le (b := mb) hn ha
  have l4 := q_e4a_le (b := mb) hn ha
  have l5 := q_e5a_le (b := mb) hn ha
  refine lv_iconst (v := 4) hx hb dX5_readsPart_0 (by decide) ?_
  refine lv_aload_n hx hb dX5_readsPart_1 rfl (lv_at hl 0 rfl) ?_
  refine g_get (ci := 5) (C := RX5) (T := TX5) (M := 12) hx hb hts hinX5 hown hK hG i162 mW_o rfl 10 (by decide) hf137 rfl rfl dX5_readsPart_2 ?_
  refine lv_imul hx hb dX5_readsPart_5 ?_
  refine lv_toN (k := 4 * q) (pk_mul 4 q) ?_
  refine lv_istore_n (lv' := [(1, .int (nI (4 * q))), (0, .ref (L 162))]) hx hb dX5_readsPart_6 rfl hl (by decide) rfl (fun ls hl => ?_)
  refine lv_aload_n hx hb dX5_readsPart_7 rfl (lv_at hl 1 rfl) ?_
  refine g_cVi (As := []) (rest := []) hx hb hml hown hts hK hA hG hS (k_X5_sign l D cy N L F hN mt ms ma mv mn mb (nI n) (nI a) 1 mr (nI q) mh a n (by omega) (by omega)) (cwV 0 hts gX5_readsPart_X5_sign rfl rfl rfl (by decide +kernel) ⟨Nat.le_of_ble_eq_true rfl, Nat.le_of_ble_eq_true rfl⟩) i162 mW_o (ci := 5) rfl rfl rfl rfl hl.1 (Nat.le_of_ble_eq_true rfl) dX5_readsPart_8 ⟨Nat.zero_le _, Nat.zero_le _⟩ (fun H locs hG hS => ?_)
  refine lv_bipush (v := 43) hx hb dX5_readsPart_11 (by decide) ?_
  refine lv_icmp_ne (tgt := 65) hx hb dX5_readsPart_13 (by decide) (fun c_13 => ?_) (fun c_13 => ?_)
  · skip
    refine lv_aload_n hx hb dX5_readsPart_65 rfl (lv_at hl 1 rfl) ?_
    refine g_get (ci := 5) (C := RX5) (T := TX5) (M := 12) hx hb hts hinX5 hown hK hG i162 mW_o rfl 9 (by decide) hf22 rfl rfl dX5_readsPart_66 ?_
    refine lv_iload_n hx hb dX5_readsPart_69 rfl (lv_at hl 0 rfl) ?_
    refine lv_iconst (v := 1) hx hb dX5_readsPart_70 (by decide) ?_
    refine lv_iadd hx hb dX5_readsPart_71 ?_
    refine lv_toN (k := (4 * q) + 1) (nI_add (4 * q) 1) ?_
    refine lv_aload_n hx hb dX5_readsPart_72 rfl (lv_at hl 1 rfl) ?_
    refine lv_bipush (v := 48) hx hb dX5_readsPart_73 (by decide) ?_
    refine lv_bipush (v := 51) hx hb dX5_readsPart_75 (by decide) ?_
    refine g_cVi (As := [.int 48, .int 51]) (rest := [.int (nI ((4 * q) + 1)), .ref (L 167)]) hx hb hml hown hts hK hA hG hS (k_X5_takes l D cy N L F hN mt ms ma mv mn mb (nI n) (nI a) 1 mr (nI q) mh a n 48 51 (by omega) (by omega)) (cwV 2 hts gX5_readsPart_X5_takes rfl rfl rfl (by decide +kernel) ⟨Nat.le_of_ble_eq_true rfl, Nat.le_of_ble_eq_true rfl⟩) i162 mW_o (ci := 5) rfl rfl rfl rfl hl.1 (Nat.le_of_ble_eq_true rfl) dX5_readsPart_77 ⟨Nat.zero_le _, Nat.zero_le _⟩ (fun H locs hG hS => ?_)
    have hG : GW D N L _ (mW cy L F mt ms ma mv mn mb (nI n) (nI (q_e1a mb n a)) (q_e1w mb n a) mr (nI q) mh) _ := hG.to (rfl)
    refine lv_bipush (v := 48) hx hb dX5_readsPart_80 (by decide) ?_
    refine lv_isub hx hb dX5_readsPart_82 ?_
    refine g_iast hx hb hK hG hS i167 mW_a167 (k := (4 * q) + 1) rfl (by omega) (by decide) dX5_readsPart_83 (fun H locs hG hS => ?_)
    have hG := hG.to mW_ur
    refine lv_aload_n hx hb dX5_readsPart_84 rfl (lv_at hl 1 rfl) ?_
    refine W.cut (pc2 := 115) (st2 := [.int (q_e2w mb n a), .ref (L 162)]) (P := fun H locs ls => (True) ∧ GW D N L (gA N L s.heap.size) (mW cy L F mt ms ma mv mn mb (nI n) (nI (q_e1a mb n a)) (q_e1w mb n a) (upd mr ((4 * q) + 1) ((q_sign mb a n) - 48)) (nI q) mh) H ∧ va_S (gA N L s.heap.size) s.heap H locs ∧ lv_has ls 2 [(1, .int (nI (4 * q))), (0, .ref (L 162))]) (fun hcut115 => ?_) (fun H locs ls hP9 => ?_)
    · skip
      refine lv_aload_n hx hb dX5_readsPart_85 rfl (lv_at hl 1 rfl) ?_
      refine g_get (ci := 5) (C := RX5) (T := TX5) (M := 12) hx hb hts hinX5 hown hK hG i162 mW_o rfl 8 (by decide) hf127 rfl rfl dX5_readsPart_86 ?_
      refine lv_if_eq (tgt := 114) hx hb dX5_readsPart_89 (by decide) (fun c_89 => ?_) (fun c_89 => ?_)
      · skip
        refine lv_iconst (v := 0) hx hb dX5_readsPart_114 (by decide) ?_
        refine lv_toI (y := (q_e2w mb n a)) (by simp only [q_e2w, q_lg, c_13, eq_true c_89, if_true, if_false]) ?_
        have hl : lv_has ls 2 [(1, .int (nI (4 * q))), (0, .ref (L 162))] := lv_sub hl [0, 1] rfl
        exact hcut115 _ _ _ ⟨trivial, hG.to (rfl), hS, lv_to hl (rfl)⟩
      · skip
        refine lv_aload_n hx hb dX5_readsPart_92 rfl (lv_at hl 1 rfl) ?_
        refine g_cVi (As := []) (rest := [.ref (L 162)]) hx hb hml hown hts hK hA hG hS (k_X5_sign l D cy N L F hN mt ms ma mv mn mb (nI n) (nI (q_e1a mb n a)) (q_e1w mb n a) (upd mr ((4 * q) + 1) ((q_sign mb a n) - 48)) (nI q) mh (q_e1a mb n a) n (by omega) (by omega)) (cwV 0 hts gX5_readsPart_X5_sign rfl rfl rfl (by decide +kernel) ⟨Nat.le_of_ble_eq_true rfl, Nat.le_of_ble_eq_true rfl⟩) i162 mW_o (ci := 5) rfl rfl rfl rfl hl.1 (Nat.le_of_ble_eq_true rfl) dX5_readsPart_93 ⟨Nat.zero_le _, Nat.zero_le _⟩ (fun H locs hG hS => ?_)
        refine lv_bipush (v := 60) hx hb dX5_readsPart_96 (by decide) ?_
        refine lv_icmp_eq (tgt := 110) hx hb dX5_readsPart_98 (by decide) (fun c_98 => ?_) (fun c_98 => ?_)
        · skip
          refine lv_iconst (v := 1) hx hb dX5_readsPart_110 (by decide) ?_
          refine lv_goto (tgt := 115) hx hb dX5_readsPart_111 (by decide) ?_
          refine lv_toI (y := (q_e2w mb n a)) (by simp only [q_e2w, q_lg, c_13, c_89, eq_true c_98, if_true, if_false]) ?_
          have hl : lv_has ls 2 [(1, .int (nI (4 * q))), (0, .ref (L 162))] := lv_sub hl [0, 1] rfl
          exact hcut115 _ _ _ ⟨trivial, hG.to (rfl), hS, lv_to hl (rfl)⟩
        · skip
          refine lv_aload_n hx hb dX5_readsPart_101 rfl (lv_at hl 1 rfl) ?_
          refine g_cVi (As := []) (rest := [.ref (L 162)]) hx hb hml hown hts hK hA hG hS (k_X5_sign l D cy N L F hN mt ms ma mv mn mb (nI n) (nI (q_e1a mb n a)) (q_e1w mb n a) (upd mr ((4 * q) + 1) ((q_sign mb a n) - 48)) (nI q) mh (q_e1a mb n a) n (by omega) (by omega)) (cwV 0 hts gX5_readsPart_X5_sign rfl rfl rfl (by decide +kernel) ⟨Nat.le_of_ble_eq_true rfl, Nat.le_of_ble_eq_true rfl⟩) i162 mW_o (ci := 5) rfl rfl rfl rfl hl.1 (Nat.le_of_ble_eq_true rfl) dX5_readsPart_102 ⟨Nat.zero_le _, Nat.zero_le _⟩ (fun H locs hG hS => ?_)
          refine lv_bipush (v := 62) hx hb dX5_readsPart_105 (by decide) ?_
          refine lv_icmp_ne (tgt := 114) hx hb dX5_readsPart_107 (by decide) (fun c_107 => ?_) (fun c_107 => ?_)
          · skip
            refine lv_iconst (v := 0) hx hb dX5_readsPart_114 (by decide) ?_
            refine lv_toI (y := (q_e2w mb n a)) (by simp only [q_e2w, q_lg, c_13, c_89, c_98, c_107, if_true, if_false]) ?_
            have hl : lv_has ls 2 [(1, .int (nI (4 * q))), (0, .ref (L 162))] := lv_sub hl [0, 1] rfl
            exact hcut115 _ _ _ ⟨trivial, hG.to (rfl), hS, lv_to hl (rfl)⟩
          · skip
            refine lv_iconst (v := 1) hx hb dX5_readsPart_110 (by decide) ?_
            refine lv_goto (tgt := 115) hx hb dX5_readsPart_111 (by decide) ?_
            refine lv_toI (y := (q_e2w mb n a)) (by simp only [q_e2w, q_lg, c_13, c_89, c_98, eq_true c_107, if_true, if_false]) ?_
            have hl : lv_has ls 2 [(1, .int (nI (4 * q))), (0, .ref (L 162))] := lv_sub hl [0, 1] rfl
            exact hcut115 _ _ _ ⟨trivial, hG.to (rfl), hS, lv_to hl (rfl)⟩
    · obtain ⟨-, hG, hS, hl⟩ := hP9
      refine g_put (ci := 5) (C := RX5) (T := TX5) (M := 12) (ty := .boolean) hx hb hts hinX5 tyX5 tyX5_ok nmX5 hown hK hG hS i162 mW_o rfl 8 (by decide) hf127 rfl rfl rfl (q_lg_nar) q_lg_fit (Nat.le_of_ble_eq_true rfl) dX5_readsPart_115 rfl (fun H locs hG hS => ?_)
      have hG := hG.to mW_uo
      refine lv_aload_n hx hb dX5_readsPart_118 rfl (lv_at hl 1 rfl) ?_
      refine g_get (ci := 5) (C := RX5) (T := TX5) (M := 12) hx hb hts hinX5 hown hK hG i162 mW_o rfl 9 (by decide) hf22 rfl rfl dX5_readsPart_119 ?_
      refine lv_iload_n hx hb dX5_readsPart_122 rfl (lv_at hl 0 rfl) ?_
      refine lv_aload_n hx hb dX5_readsPart_123 rfl (lv_at hl 1 rfl) ?_
      refine lv_bipush (v := 60) hx hb dX5_readsPart_124 (by decide) ?_
      refine lv_bipush (v := 62) hx hb dX5_readsPart_126 (by decide) ?_
      refine g_cVi (As := [.int 60, .int 62]) (rest := [.int (nI (4 * q)), .ref (L 167)]) hx hb hml hown hts hK hA hG hS (k_X5_takes l D cy N L F hN mt ms ma mv mn mb (nI n) (nI (q_e1a mb n a)) (q_e2w mb n a) (upd mr ((4 * q) + 1) ((q_sign mb a n) - 48)) (nI q) mh (q_e1a mb n a) n 60 62 (by omega) (by omega)) (cwV 2 hts gX5_readsPart_X5_takes rfl rfl rfl (by decide +kernel) ⟨Nat.le_of_ble_eq_true rfl, Nat.le_of_ble_eq_true rfl⟩) i162 mW_o (ci := 5) rfl rfl rfl rfl hl.1 (Nat.le_of_ble_eq_true rfl) dX5_readsPart_128 ⟨Nat.zero_le _, Nat.zero_le _⟩ (fun H locs hG hS => ?_)
      have hG : GW D N L _ (mW cy L F mt ms ma mv mn mb (nI n) (nI (q_e3a mb n a)) (q_e3w mb n a) (upd mr ((4 * q) + 1) ((q_sign mb a n) - 48)) (nI q) mh) _ := hG.to (rfl)
      refine g_iast hx hb hK hG hS i167 mW_a167 (k := 4 * q) rfl (by omega) (by decide) dX5_readsPart_131 (fun H locs hG hS => ?_)
      have hG := hG.to mW_ur
      refine lv_aload_n hx hb dX5_readsPart_132 rfl (lv_at hl 1 rfl) ?_
      refine g_get (ci := 5) (C := RX5) (T := TX5) (M := 12) hx hb hts hinX5 hown hK hG i162 mW_o rfl 9 (by decide) hf22 rfl rfl dX5_readsPart_133 ?_
      refine lv_iload_n hx hb dX5_readsPart_136 rfl (lv_at hl 0 rfl) ?_
      refine lv_iconst (v := 2) hx hb dX5_readsPart_137 (by decide) ?_
      refine lv_iadd hx hb dX5_readsPart_138 ?_
      refine lv_toN (k := (4 * q) + 2) (nI_add (4 * q) 2) ?_
      refine lv_aload_n hx hb dX5_readsPart_139 rfl (lv_at hl 1 rfl) ?_
      refine lv_bipush (v := 48) hx hb dX5_readsPart_140 (by decide) ?_
      refine lv_bipush (v := 53) hx hb dX5_readsPart_142 (by decide) ?_
      refine g_cVi (As := [.int 48, .int 53]) (rest := [.int (nI ((4 * q) + 2)), .ref (L 167)]) hx hb hml hown hts hK hA hG hS (k_X5_takes l D cy N L F hN mt ms ma mv mn mb (nI n) (nI (q_e3a mb n a)) (q_e3w mb n a) (upd (upd mr ((4 * q) + 1) ((q_sign mb a n) - 48)) (4 * q) (q_sign mb (q_e1a mb n a) n)) (nI q) mh (q_e3a mb n a) n 48 53 (by omega) (by omega)) (cwV 2 hts gX5_readsPart_X5_takes rfl rfl rfl (by decide +kernel) ⟨Nat.le_of_ble_eq_true rfl, Nat.le_of_ble_eq_true rfl⟩) i162 mW_o (ci := 5) rfl rfl rfl rfl hl.1 (Nat.le_of_ble_eq_true rfl) dX5_readsPart_144 ⟨Nat.zero_le _, Nat.zero_le _⟩ (fun H locs hG hS => ?_)
      have hG : GW D N L _ (mW cy L F mt ms ma mv mn mb (nI n) (nI (q_e4a mb n a)) (q_e4w mb n a) (upd (upd mr ((4 * q) + 1) ((q_sign mb a n) - 48)) (4 * q) (q_sign mb (q_e1a mb n a) n)) (nI q) mh) _ := hG.to (rfl)
      refine lv_bipush (v := 48) hx hb dX5_readsPart_147 (by decide) ?_
      refine lv_isub hx hb dX5_readsPart_149 ?_
      refine g_iast hx hb hK hG hS i167 mW_a167 (k := (4 * q) + 2) rfl (by omega) (by decide) dX5_readsPart_150 (fun H locs hG hS => ?_)
      have hG := hG.to mW_ur
      have hG : GW D N L _ (mW cy L F mt ms ma mv mn mb (nI n) (nI (q_e4a mb n a)) (q_e4w mb n a) (q_er mb n a q mr) (nI q) mh) _ := hG.to (rfl)
      refine lv_aload_n hx hb dX5_readsPart_151 rfl (lv_at hl 1 rfl) ?_
      refine lv_bipush (v := 58) hx hb dX5_readsPart_152 (by decide) ?_
      refine lv_bipush (v := 58) hx hb dX5_readsPart_154 (by decide) ?_
      refine g_cVi (As := [.int 58, .int 58]) (rest := []) hx hb hml hown hts hK hA hG hS (k_X5_takes l D cy N L F hN mt ms ma mv mn mb (nI n) (nI (q_e4a mb n a)) (q_e4w mb n a) (q_er mb n a q mr) (nI q) mh (q_e4a mb n a) n 58 58 (by omega) (by omega)) (cwV 2 hts gX5_readsPart_X5_takes rfl rfl rfl (by decide +kernel) ⟨Nat.le_of_ble_eq_true rfl, Nat.le_of_ble_eq_true rfl⟩) i162 mW_o (ci := 5) rfl rfl rfl rfl hl.1 (Nat.le_of_ble_eq_true rfl) dX5_readsPart_156 ⟨Nat.zero_le _, Nat.zero_le _⟩ (fun H locs hG hS => ?_)
      have hG : GW D N L _ (mW cy L F mt ms ma mv mn mb (nI n) (nI (q_e5a mb n a)) (q_e5w mb n a) (q_er mb n a q mr) (nI q) mh) _ := hG.to (rfl)
      refine lv_pop hx hb dX5_readsPart_159 rfl ?_
      refine lv_aload_n hx hb dX5_readsPart_160 rfl (lv_at hl 1 rfl) ?_
      refine g_get (ci := 5) (C := RX5) (T := TX5) (M := 12) hx hb hts hinX5 hown hK hG i162 mW_o rfl 9 (by decide) hf22 rfl rfl dX5_readsPart_161 ?_
      refine lv_iload_n hx hb dX5_readsPart_164 rfl (lv_at hl 0 rfl) ?_
      refine lv_iconst (v := 3) hx hb dX5_readsPart_165 (by decide) ?_
      refine lv_iadd hx hb dX5_readsPart_166 ?_
      refine lv_toN (k := (4 * q) + 3) (nI_add (4 * q) 3) ?_
      refine lv_aload_n hx hb dX5_readsPart_167 rfl (lv_at hl 1 rfl) ?_
      refine W.cut (pc2 := 187) (st2 := [.int (q_mo (q_er mb n a q mr (4 * q))), .ref (L 162), .int (nI ((4 * q) + 3)), .ref (L 167)]) (P := fun H locs ls => (True) ∧ GW D N L (gA N L s.heap.size) (mW cy L F mt ms ma mv mn mb (nI n) (nI (q_e5a mb n a)) (q_e5w mb n a) (q_er mb n a q mr) (nI q) mh) H ∧ va_S (gA N L s.heap.size) s.heap H locs ∧ lv_has ls 2 [(1, .int (nI (4 * q))), (0, .ref (L 162))]) (fun hcut187 => ?_) (fun H locs ls hP9 => ?_)
      · skip
        refine lv_aload_n hx hb dX5_readsPart_168 rfl (lv_at hl 1 rfl) ?_
        refine g_get (ci := 5) (C := RX5) (T := TX5) (M := 12) hx hb hts hinX5 hown hK hG i162 mW_o rfl 9 (by decide) hf22 rfl rfl dX5_readsPart_169 ?_
        refine lv_iload_n hx hb dX5_readsPart_172 rfl (lv_at hl 0 rfl) ?_
        refine g_iald hx hb hK hG i167 mW_a167 (k := 4 * q) rfl (by omega) (by decide) dX5_readsPart_173 ?_
        refine lv_bipush (v := 60) hx hb dX5_readsPart_174 (by decide) ?_
        refine lv_icmp_ne (tgt := 185) hx hb dX5_readsPart_176 (by decide) (fun c_176 => ?_) (fun c_176 => ?_)
        · skip
          refine lv_bipush (v := 24) hx hb dX5_readsPart_185 (by decide) ?_
          refine lv_toI (y := q_mo (q_er mb n a q mr (4 * q))) (by simp only [q_mo, c_13, c_176, if_true, if_false]) ?_
          have hl : lv_has ls 2 [(1, .int (nI (4 * q))), (0, .ref (L 162))] := lv_sub hl [0, 1] rfl
          exact hcut187 _ _ _ ⟨trivial, hG.to (rfl), hS, lv_to hl (rfl)⟩
        · skip
          refine lv_sipush (v := 500) hx hb dX5_readsPart_179 (by decide) ?_
          refine lv_goto (tgt := 187) hx hb dX5_readsPart_182 (by decide) ?_
          refine lv_toI (y := q_mo (q_er mb n a q mr (4 * q))) (by simp only [q_mo, c_13, eq_true c_176, if_true, if_false]) ?_
          have hl : lv_has ls 2 [(1, .int (nI (4 * q))), (0, .ref (L 162))] := lv_sub hl [0, 1] rfl
          exact hcut187 _ _ _ ⟨trivial, hG.to (rfl), hS, lv_to hl (rfl)⟩
      · obtain ⟨-, hG, hS, hl⟩ := hP9
        refine g_cVi (As := [.int (q_mo (q_er mb n a q mr (4 * q)))]) (rest := [.int (nI ((4 * q) + 3)), .ref (L 167)]) hx hb hml hown hts hK hA hG hS (k_X5_number l D cy N L F hN mt ms ma mv mn mb (nI n) (nI (q_e5a mb n a)) (q_e5w mb n a) (q_er mb n a q mr) (nI q) mh (q_e5a mb n a) n (q_mo (q_er mb n a q mr (4 * q))) (by omega) (by omega)) (cwV 1 hts gX5_readsPart_X5_number rfl rfl rfl (by decide +kernel) ⟨Nat.le_of_ble_eq_true rfl, Nat.le_of_ble_eq_true rfl⟩) i162 mW_o (ci := 5) rfl rfl rfl rfl hl.1 (Nat.le_of_ble_eq_true rfl) dX5_readsPart_187 ⟨Nat.zero_le _, Nat.zero_le _⟩ (fun H locs hG hS => ?_)
        refine lv_toI (y := (q_e7 mb n a q mr).2) (rfl) ?_
        have hG : GW D N L _ (mW cy L F mt ms ma mv mn mb (nI n) (nI (q_e7 mb n a q mr).1) (q_e6w mb n a) (q_er mb n a q mr) (nI q) mh) _ := hG.to (rfl)
        refine g_iast hx hb hK hG hS i167 mW_a167 (k := (4 * q) + 3) rfl (by omega) (by decide) dX5_readsPart_190 (fun H locs hG hS => ?_)
        have hG := hG.to mW_ur
        have hG : GW D N L _ (mW cy L F mt ms ma mv mn mb (nI n) (nI (q_e7 mb n a q mr).1) (q_e6w mb n a) (upd (q_er mb n a q mr) (4 * q + 3) (q_e7 mb n a q mr).2) (nI q) mh) _ := hG.to (rfl)
        refine lv_aload_n hx hb dX5_readsPart_191 rfl (lv_at hl 1 rfl) ?_
        refine lv_dup hx hb dX5_readsPart_192 rfl ?_
        refine g_get (ci := 5) (C := RX5) (T := TX5) (M := 12) hx hb hts hinX5 hown hK hG i162 mW_o rfl 10 (by decide) hf137 rfl rfl dX5_readsPart_193 ?_
        refine lv_aload_n hx hb dX5_readsPart_196 rfl (lv_at hl 1 rfl) ?_
        refine g_get (ci := 5) (C := RX5) (T := TX5) (M := 12) hx hb hts hinX5 hown hK hG i162 mW_o rfl 8 (by decide) hf127 rfl rfl dX5_readsPart_197 ?_
        refine lv_if_eq (tgt := 207) hx hb dX5_readsPart_200 (by decide) (fun c_200 => ?_) (fun c_200 => ?_)
        · skip
          refine lv_iconst (v := 0) hx hb dX5_readsPart_207 (by decide) ?_
          refine lv_iadd hx hb dX5_readsPart_208 ?_
          refine lv_toN (k := q + 0) (nI_add q 0) ?_
          refine g_put (ci := 5) (C := RX5) (T := TX5) (M := 12) (ty := .int) hx hb hts hinX5 tyX5 tyX5_ok nmX5 hown hK hG hS i162 mW_o rfl 10 (by decide) hf137 rfl rfl rfl rfl rfl (Nat.le_of_ble_eq_true rfl) dX5_readsPart_209 rfl (fun H locs hG hS => ?_)
          have hG := hG.to mW_uo
          exact g_vret hx hb hr hlocks hK hG hS dX5_readsPart_212 ⟨rfl, (by simp only [q_W, q_A, q_R, q_Q, c_13, eq_true c_200, if_true, if_false])⟩
        · skip
          refine lv_iconst (v := 1) hx hb dX5_readsPart_203 (by decide) ?_
          refine lv_goto (tgt := 208) hx hb dX5_readsPart_204 (by decide) ?_
          refine lv_iadd hx hb dX5_readsPart_208 ?_
          refine lv_toN (k := q + 1) (nI_add q 1) ?_
          refine g_put (ci := 5) (C := RX5) (T := TX5) (M := 12) (ty := .int) hx hb hts hinX5 tyX5 tyX5_ok nmX5 hown hK hG hS i162 mW_o rfl 10 (by decide) hf137 rfl rfl rfl rfl rfl (Nat.le_of_ble_eq_true rfl) dX5_readsPart_209 rfl (fun H locs hG hS => ?_)
          have hG := hG.to mW_uo
          exact g_vret hx hb hr hlocks hK hG hS dX5_readsPart_212 ⟨rfl, (by simp only [q_W, q_A, q_R, q_Q, c_13, c_200, if_true, if_false])⟩
  · skip
    refine lv_aload_n hx hb dX5_readsPart_16 rfl (lv_at hl 1 rfl) ?_
    refine g_get (ci := 5) (C := RX5) (T := TX5) (M := 12) hx hb hts hinX5 hown hK hG i162 mW_o rfl 9 (by decide) hf22 rfl rfl dX5_readsPart_17 ?_
    refine lv_iload_n hx hb dX5_readsPart_20 rfl (lv_at hl 0 rfl) ?_
    refine lv_aload_n hx hb dX5_readsPart_21 rfl (lv_at hl 1 rfl) ?_
    refine lv_bipush (v := 43) hx hb dX5_readsPart_22 (by decide) ?_
    refine lv_bipush (v := 43) hx hb dX5_readsPart_24 (by decide) ?_
    refine g_cVi (As := [.int 43, .int 43]) (rest := [.int (nI (4 * q)), .ref (L 167)]) hx hb hml hown hts hK hA hG hS (k_X5_takes l D cy N L F hN mt ms ma mv mn mb (nI n) (nI a) 1 mr (nI q) mh a n 43 43 (by omega) (by omega)) (cwV 2 hts gX5_readsPart_X5_takes rfl rfl rfl (by decide +kernel) ⟨Nat.le_of_ble_eq_true rfl, Nat.le_of_ble_eq_true rfl⟩) i162 mW_o (ci := 5) rfl rfl rfl rfl hl.1 (Nat.le_of_ble_eq_true rfl) dX5_readsPart_26 ⟨Nat.zero_le _, Nat.zero_le _⟩ (fun H locs hG hS => ?_)
    have hG : GW D N L _ (mW cy L F mt ms ma mv mn mb (nI n) (nI (q_p1a mb n a)) (q_p1w mb n a) mr (nI q) mh) _ := hG.to (rfl)
    refine g_iast hx hb hK hG hS i167 mW_a167 (k := 4 * q) rfl (by omega) (by decide) dX5_readsPart_29 (fun H locs hG hS => ?_)
    have hG := hG.to mW_ur
    refine lv_aload_n hx hb dX5_readsPart_30 rfl (lv_at hl 1 rfl) ?_
    refine g_get (ci := 5) (C := RX5) (T := TX5) (M := 12) hx hb hts hinX5 hown hK hG i162 mW_o rfl 9 (by decide) hf22 rfl rfl dX5_readsPart_31 ?_
    refine lv_iload_n hx hb dX5_readsPart_34 rfl (lv_at hl 0 rfl) ?_
    refine lv_iconst (v := 1) hx hb dX5_readsPart_35 (by decide) ?_
    refine lv_iadd hx hb dX5_readsPart_36 ?_
    refine lv_toN (k := (4 * q) + 1) (nI_add (4 * q) 1) ?_
    refine lv_aload_n hx hb dX5_readsPart_37 rfl (lv_at hl 1 rfl) ?_
    refine lv_bipush (v := 30) hx hb dX5_readsPart_38 (by decide) ?_
    refine g_cVi (As := [.int 30]) (rest := [.int (nI ((4 * q) + 1)), .ref (L 167)]) hx hb hml hown hts hK hA hG hS (k_X5_number l D cy N L F hN mt ms ma mv mn mb (nI n) (nI (q_p1a mb n a)) (q_p1w mb n a) (upd mr (4 * q) (q_sign mb a n)) (nI q) mh (q_p1a mb n a) n 30 (by omega) (by omega)) (cwV 1 hts gX5_readsPart_X5_number rfl rfl rfl (by decide +kernel) ⟨Nat.le_of_ble_eq_true rfl, Nat.le_of_ble_eq_true rfl⟩) i162 mW_o (ci := 5) rfl rfl rfl rfl hl.1 (Nat.le_of_ble_eq_true rfl) dX5_readsPart_40 ⟨Nat.zero_le _, Nat.zero_le _⟩ (fun H locs hG hS => ?_)
    refine lv_toI (y := (q_p3 mb n a).2) (rfl) ?_
    have hG : GW D N L _ (mW cy L F mt ms ma mv mn mb (nI n) (nI (q_p3 mb n a).1) (q_p2w mb n a) (upd mr (4 * q) (q_sign mb a n)) (nI q) mh) _ := hG.to (rfl)
    refine g_iast hx hb hK hG hS i167 mW_a167 (k := (4 * q) + 1) rfl (by omega) (by decide) dX5_readsPart_43 (fun H locs hG hS => ?_)
    have hG := hG.to mW_ur
    refine lv_aload_n hx hb dX5_readsPart_44 rfl (lv_at hl 1 rfl) ?_
    refine g_get (ci := 5) (C := RX5) (T := TX5) (M := 12) hx hb hts hinX5 hown hK hG i162 mW_o rfl 9 (by decide) hf22 rfl rfl dX5_readsPart_45 ?_
    refine lv_iload_n hx hb dX5_readsPart_48 rfl (lv_at hl 0 rfl) ?_
    refine lv_iconst (v := 2) hx hb dX5_readsPart_49 (by decide) ?_
    refine lv_iadd hx hb dX5_readsPart_50 ?_
    refine lv_toN (k := (4 * q) + 2) (nI_add (4 * q) 2) ?_
    refine lv_iconst (v := 0) hx hb dX5_readsPart_51 (by decide) ?_
    refine g_iast hx hb hK hG hS i167 mW_a167 (k := (4 * q) + 2) rfl (by omega) (by decide) dX5_readsPart_52 (fun H locs hG hS => ?_)
    have hG := hG.to mW_ur
    refine lv_aload_n hx hb dX5_readsPart_53 rfl (lv_at hl 1 rfl) ?_
    refine g_get (ci := 5) (C := RX5) (T := TX5) (M := 12) hx hb hts hinX5 hown hK hG i162 mW_o rfl 9 (by decide) hf22 rfl rfl dX5_readsPart_54 ?_
    refine lv_iload_n hx hb dX5_readsPart_57 rfl (lv_at hl 0 rfl) ?_
    refine lv_iconst (v := 3) hx hb dX5_readsPart_58 (by decide) ?_
    refine lv_iadd hx hb dX5_readsPart_59 ?_
    refine lv_toN (k := (4 * q) + 3) (nI_add (4 * q) 3) ?_
    refine lv_iconst (v := 0) hx hb dX5_readsPart_60 (by decide) ?_
    refine g_iast hx hb hK hG hS i167 mW_a167 (k := (4 * q) + 3) rfl (by omega) (by decide) dX5_readsPart_61 (fun H locs hG hS => ?_)
    have hG := hG.to mW_ur
    have hG : GW D N L _ (mW cy L F mt ms ma mv mn mb (nI n) (nI (q_p3 mb n a).1) (q_p2w mb n a) (q_pr mb n a q mr) (nI q) mh) _ := hG.to (rfl)
    refine lv_goto (tgt := 191) hx hb dX5_readsPart_62 (by decide) ?_
    refine lv_aload_n hx hb dX5_readsPart_191 rfl (lv_at hl 1 rfl) ?_
    refine lv_dup hx hb dX5_readsPart_192 rfl ?_
    refine g_get (ci := 5) (C := RX5) (T := TX5) (M := 12) hx hb hts hinX5 hown hK hG i162 mW_o rfl 10 (by decide) hf137 rfl rfl dX5_readsPart_193 ?_
    refine lv_aload_n hx hb dX5_readsPart_196 rfl (lv_at hl 1 rfl) ?_
    refine g_get (ci := 5) (C := RX5) (T := TX5) (M := 12) hx hb hts hinX5 hown hK hG i162 mW_o rfl 8 (by decide) hf127 rfl rfl dX5_readsPart_197 ?_
    refine lv_if_eq (tgt := 207) hx hb dX5_readsPart_200 (by decide) (fun c_200 => ?_) (fun c_200 => ?_)
    · skip
      refine lv_iconst (v := 0) hx hb dX5_readsPart_207 (by decide) ?_
      refine lv_iadd hx hb dX5_readsPart_208 ?_
      refine lv_toN (k := q + 0) (nI_add q 0) ?_
      refine g_put (ci := 5) (C := RX5) (T := TX5) (M := 12) (ty := .int) hx hb hts hinX5 tyX5 tyX5_ok nmX5 hown hK hG hS i162 mW_o rfl 10 (by decide) hf137 rfl rfl rfl rfl rfl (Nat.le_of_ble_eq_true rfl) dX5_readsPart_209 rfl (fun H locs hG hS => ?_)
      have hG := hG.to mW_uo
      exact g_vret hx hb hr hlocks hK hG hS dX5_readsPart_212 ⟨rfl, (by simp only [q_W, q_A, q_R, q_Q, eq_true c_13, eq_true c_200, if_true, if_false])⟩
    · skip
      refine lv_iconst (v := 1) hx hb dX5_readsPart_203 (by decide) ?_
      refine lv_goto (tgt := 208) hx hb dX5_readsPart_204 (by decide) ?_
      refine lv_iadd hx hb dX5_readsPart_208 ?_
      refine lv_toN (k := q + 1) (nI_add q 1) ?_
      refine g_put (ci := 5) (C := RX5) (T := TX5) (M := 12) (ty := .int) hx hb hts hinX5 tyX5 tyX5_ok nmX5 hown hK hG hS i162 mW_o rfl 10 (by decide) hf137 rfl rfl rfl rfl rfl (Nat.le_of_ble_eq_true rfl) dX5_readsPart_209 rfl (fun H locs hG hS => ?_)
      have hG := hG.to mW_uo
      exact g_vret hx hb hr hlocks hK hG hS dX5_readsPart_212 ⟨rfl, (by simp only [q_W, q_A, q_R, q_Q, eq_true c_13, c_200, if_true, if_false])⟩
