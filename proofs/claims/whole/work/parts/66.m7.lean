set_option maxHeartbeats 4000000 in
set_option maxRecDepth 100000 in
theorem k_X5_readsAll (l : Launch) (D : va_G) (cy : Nat → ClassId) (N : Nat) (L : Nat → Nat) (F : Nat → va_E) (hN : 168 ≤ N) (mt : Int32) (ms ma mv : Nat → Int32) (mn : Int32) (mb : Nat → Int32) (ml mp mw : Int32) (mr : Nat → Int32) (mq : Int32) (mh : Int64) (n : Nat) (hn : n ≤ 60) : GM l D cy N L yX5_readsAll wsX5_readsAll ({ frames := 4, cells := 0, slots := 0, locals := 88 }) [.ref (L 162)] (mW cy L F mt ms ma mv mn mb (nI n) mp mw mr mq mh) (none) (mW cy L F mt ms ma mv mn mb (nI n) (nI (q_all mb n mr).2.1) ((q_all mb n mr).1) ((q_all mb n mr).2.2.2) (nI (q_all mb n mr).2.2.1) mh) := by
  refine GM.ofW (cc := cX5_readsAll) (maxL := 1) (ret := none) (by decide) rfl (Nat.le_of_ble_eq_true rfl) ?_
  intro p e s m below meth c ls hx hb hr hts hown hlocks hml hK hA hG hS hl
  have hl : lv_has ls 1 [(0, .ref (L 162))] := hl
  have i162 : 162 < N := by omega
  have i163 : 163 < N := by omega
  have i164 : 164 < N := by omega
  have i165 : 165 < N := by omega
  have i166 : 166 < N := by omega
  have i167 : 167 < N := by omega
  have hf124 := hts (.fieldLink RX5 124 "SiloPadsModel" "at" "I") (by decide +kernel)
  have hinX5 : ∀ w ∈ u_ws RX5 TX5 12, w ∈ wsX5_readsAll := by decide +kernel
  have hf127 := hts (.fieldLink RX5 127 "SiloPadsModel" "isWell" "Z") (by decide +kernel)
  have hf137 := hts (.fieldLink RX5 137 "SiloPadsModel" "readMany" "I") (by decide +kernel)
  have hf121 := hts (.fieldLink RX5 121 "SiloPadsModel" "length" "I") (by decide +kernel)
  refine lv_aload_n hx hb dX5_readsAll_0 rfl (lv_at hl 0 rfl) ?_
  refine lv_iconst (v := 0) hx hb dX5_readsAll_1 (by decide) ?_
  refine lv_toN (k := 0) (rfl) ?_
  refine g_put (ci := 5) (C := RX5) (T := TX5) (M := 12) (ty := .int) hx hb hts hinX5 tyX5 tyX5_ok nmX5 hown hK hG hS i162 mW_o rfl 7 (by decide) hf124 rfl rfl rfl rfl rfl (Nat.le_of_ble_eq_true rfl) dX5_readsAll_2 rfl (fun H locs hG hS => ?_)
  have hG := hG.to mW_uo
  refine lv_aload_n hx hb dX5_readsAll_5 rfl (lv_at hl 0 rfl) ?_
  refine lv_iconst (v := 1) hx hb dX5_readsAll_6 (by decide) ?_
  refine g_put (ci := 5) (C := RX5) (T := TX5) (M := 12) (ty := .boolean) hx hb hts hinX5 tyX5 tyX5_ok nmX5 hown hK hG hS i162 mW_o rfl 8 (by decide) hf127 rfl rfl rfl rfl rfl (Nat.le_of_ble_eq_true rfl) dX5_readsAll_7 rfl (fun H locs hG hS => ?_)
  have hG := hG.to mW_uo
  refine lv_aload_n hx hb dX5_readsAll_10 rfl (lv_at hl 0 rfl) ?_
  refine lv_iconst (v := 0) hx hb dX5_readsAll_11 (by decide) ?_
  refine lv_toN (k := 0) (rfl) ?_
  refine g_put (ci := 5) (C := RX5) (T := TX5) (M := 12) (ty := .int) hx hb hts hinX5 tyX5 tyX5_ok nmX5 hown hK hG hS i162 mW_o rfl 10 (by decide) hf137 rfl rfl rfl rfl rfl (Nat.le_of_ble_eq_true rfl) dX5_readsAll_12 rfl (fun H locs hG hS => ?_)
  have hG := hG.to mW_uo
  refine lv_aload_n hx hb dX5_readsAll_15 rfl (lv_at hl 0 rfl) ?_
  refine g_cVv (As := []) (rest := []) hx hb hml hown hts hK hA hG hS (k_X5_readsPart l D cy N L F hN mt ms ma mv mn mb (nI n) (nI 0) 1 mr (nI 0) mh 0 n 0 (by omega) (by omega) (by omega)) (cwV 0 hts gX5_readsAll_X5_readsPart rfl rfl rfl (by decide +kernel) ⟨Nat.le_of_ble_eq_true rfl, Nat.le_of_ble_eq_true rfl⟩) i162 mW_o (ci := 5) rfl rfl rfl rfl hl.1 (Nat.le_of_ble_eq_true rfl) dX5_readsAll_16 ⟨Nat.zero_le _, Nat.zero_le _⟩ (fun H locs hG hS => ?_)
  refine W.loop (σ := Nat × Int32 × Nat × Nat × (Nat → Int32)) (fun (f9, w9, a9, q9, r9) H locs ls => (a9 ≤ 60 ∧ 1 ≤ f9 ∧ (¬ w9 = 0 → 62 ≤ f9 + a9) ∧ (¬ w9 = 0 → 3 * q9 ≤ a9 + 1) ∧ q_lp mb n f9 (w9, a9, q9, r9) = (q_all mb n mr)) ∧ GW D N L (gA N L s.heap.size) (mW cy L F mt ms ma mv mn mb (nI n) (nI a9) w9 r9 (nI q9) mh) H ∧ va_S (gA N L s.heap.size) s.heap H locs ∧ lv_has ls 1 [(0, .ref (L 162))]) (fun (f9, w9, a9, q9, r9) => f9) (62, q_W mb n 0, q_A mb n 0 0 mr, q_Q mb n 0 0, q_R mb n 0 0 mr) ⟨⟨q_A_le hn (by omega), by omega, fun _ => by omega, fun h9 => by rw [q_Q_le h9]; have := q_A_2 (q := 0) (r := mr) h9; omega, rfl⟩, hG.to (rfl), hS, lv_to (lv_sub hl [0] rfl) (rfl)⟩ ?_
  intro (f9, w9, a9, q9, r9) H locs ls hP9 ih19
  obtain ⟨⟨ha9, hf9, hb9, hq9, he9⟩, hG, hS, hl⟩ := hP9
  refine lv_aload_n hx hb dX5_readsAll_19 rfl (lv_at hl 0 rfl) ?_
  refine g_get (ci := 5) (C := RX5) (T := TX5) (M := 12) hx hb hts hinX5 hown hK hG i162 mW_o rfl 8 (by decide) hf127 rfl rfl dX5_readsAll_20 ?_
  refine lv_if_eq (tgt := 60) hx hb dX5_readsAll_23 (by decide) (fun c_23 => ?_) (fun c_23 => ?_)
  · skip
    exact g_vret hx hb hr hlocks hK hG hS dX5_readsAll_60 ⟨rfl, (by rw [← he9]; first | (rw [q_lp_w c_23]; done) | (rw [q_lp_n c_23 c_34]; done))⟩
  · skip
    refine lv_aload_n hx hb dX5_readsAll_26 rfl (lv_at hl 0 rfl) ?_
    refine g_get (ci := 5) (C := RX5) (T := TX5) (M := 12) hx hb hts hinX5 hown hK hG i162 mW_o rfl 7 (by decide) hf124 rfl rfl dX5_readsAll_27 ?_
    refine lv_aload_n hx hb dX5_readsAll_30 rfl (lv_at hl 0 rfl) ?_
    refine g_get (ci := 5) (C := RX5) (T := TX5) (M := 12) hx hb hts hinX5 hown hK hG i162 mW_o rfl 6 (by decide) hf121 rfl rfl dX5_readsAll_31 ?_
    refine lv_icmp_ge (tgt := 60) hx hb dX5_readsAll_34 (by decide) (fun c_34 => ?_) (fun c_34 => ?_)
    · skip
      have c_34 : n ≤ a9 := (nI_leI (a := n) (b := a9) (by omega) (by omega)).mp c_34
      exact g_vret hx hb hr hlocks hK hG hS dX5_readsAll_60 ⟨rfl, (by rw [← he9]; first | (rw [q_lp_w c_23]; done) | (rw [q_lp_n c_23 c_34]; done))⟩
    · skip
      have c_34 : ¬ n ≤ a9 := fun h9 => c_34 ((nI_leI (a := n) (b := a9) (by omega) (by omega)).mpr h9)
      refine lv_aload_n hx hb dX5_readsAll_37 rfl (lv_at hl 0 rfl) ?_
      refine lv_bipush (v := 59) hx hb dX5_readsAll_38 (by decide) ?_
      refine lv_bipush (v := 59) hx hb dX5_readsAll_40 (by decide) ?_
      refine g_cVi (As := [.int 59, .int 59]) (rest := []) hx hb hml hown hts hK hA hG hS (k_X5_takes l D cy N L F hN mt ms ma mv mn mb (nI n) (nI a9) w9 r9 (nI q9) mh a9 n 59 59 (by omega) (by omega)) (cwV 2 hts gX5_readsAll_X5_takes rfl rfl rfl (by decide +kernel) ⟨Nat.le_of_ble_eq_true rfl, Nat.le_of_ble_eq_true rfl⟩) i162 mW_o (ci := 5) rfl rfl rfl rfl hl.1 (Nat.le_of_ble_eq_true rfl) dX5_readsAll_42 ⟨Nat.zero_le _, Nat.zero_le _⟩ (fun H locs hG hS => ?_)
      refine lv_pop hx hb dX5_readsAll_45 rfl ?_
      refine lv_aload_n hx hb dX5_readsAll_46 rfl (lv_at hl 0 rfl) ?_
      refine g_get (ci := 5) (C := RX5) (T := TX5) (M := 12) hx hb hts hinX5 hown hK hG i162 mW_o rfl 8 (by decide) hf127 rfl rfl dX5_readsAll_47 ?_
      refine lv_if_eq (tgt := 19) hx hb dX5_readsAll_50 (by decide) (fun c_50 => ?_) (fun c_50 => ?_)
      · skip
        have hl : lv_has ls 1 [(0, .ref (L 162))] := lv_sub hl [0] rfl
        exact ih19 (f9 - 1, (q_wl w9 (q_sign mb a9 n) 59 59), (q_at w9 (q_sign mb a9 n) 59 59 a9), q9, r9) _ _ _ (by show f9 - 1 < f9; omega) ⟨⟨by rw [q_at_0 c_50]; exact ha9, by have := hb9 c_23; omega, fun h9 => absurd c_50 h9, fun h9 => absurd c_50 h9, by rw [← q_lp_b hf9 c_23 c_34 c_50]; exact he9⟩, hG.to (rfl), hS, lv_to hl (rfl)⟩
      · skip
        have hA2 := q_at_1 (a := a9) c_50
        have hA1 : (q_at w9 (q_sign mb a9 n) 59 59 a9) ≤ 60 := by omega
        have hq22 : q9 < 22 := by have := hq9 c_23; omega
        refine lv_aload_n hx hb dX5_readsAll_53 rfl (lv_at hl 0 rfl) ?_
        have hG : GW D N L _ (mW cy L F mt ms ma mv mn mb (nI n) (nI (q_at w9 (q_sign mb a9 n) 59 59 a9)) 1 r9 (nI q9) mh) _ := hG.to (by rw [q_wl_1 c_50])
        refine g_cVv (As := []) (rest := []) hx hb hml hown hts hK hA hG hS (k_X5_readsPart l D cy N L F hN mt ms ma mv mn mb (nI n) (nI (q_at w9 (q_sign mb a9 n) 59 59 a9)) 1 r9 (nI q9) mh (q_at w9 (q_sign mb a9 n) 59 59 a9) n q9 (by omega) (by omega) (by omega)) (cwV 0 hts gX5_readsAll_X5_readsPart rfl rfl rfl (by decide +kernel) ⟨Nat.le_of_ble_eq_true rfl, Nat.le_of_ble_eq_true rfl⟩) i162 mW_o (ci := 5) rfl rfl rfl rfl hl.1 (Nat.le_of_ble_eq_true rfl) dX5_readsAll_54 ⟨Nat.zero_le _, Nat.zero_le _⟩ (fun H locs hG hS => ?_)
        refine lv_goto (tgt := 19) hx hb dX5_readsAll_57 (by decide) ?_
        have hl : lv_has ls 1 [(0, .ref (L 162))] := lv_sub hl [0] rfl
        exact ih19 (f9 - 1, q_W mb n (q_at w9 (q_sign mb a9 n) 59 59 a9), q_A mb n (q_at w9 (q_sign mb a9 n) 59 59 a9) q9 r9, q_Q mb n (q_at w9 (q_sign mb a9 n) 59 59 a9) q9, q_R mb n (q_at w9 (q_sign mb a9 n) 59 59 a9) q9 r9) _ _ _ (by show f9 - 1 < f9; omega) ⟨⟨q_A_le hn hA1, by have := hb9 c_23; omega, fun h9 => by have := q_A_2 (q := q9) (r := r9) h9; have := hb9 c_23; omega, fun h9 => by have := q_A_2 (q := q9) (r := r9) h9; have := hq9 c_23; rw [q_Q_le h9]; omega, by rw [← q_lp_g hf9 c_23 c_34 c_50]; exact he9⟩, hG.to (rfl), hS, lv_to hl (rfl)⟩
set_option maxHeartbeats 4000000 in
set_option maxRecDepth 100000 in
theorem k_X5_firstError (l : Launch) (D : va_G) (cy : Nat → ClassId) (N : Nat) (L : Nat → Nat) (F : Nat → va_E) (hN : 168 ≤ N) (mt : Int32) (ms ma mv : Nat → Int32) (mn : Int32) (mb : Nat → Int32) (ml mp mw : Int32) (mr : Nat → Int32) (mq : Int32) (mh : Int64) (n : Nat) (hn : n ≤ 60) : GM l D cy N L yX5_firstError wsX5_firstError ({ frames := 5, cells := 0, slots := 0, locals := 108 }) [.ref (L 162)] (mW cy L F mt ms ma mv mn mb (nI n) mp mw mr mq mh) (some (.int (nI (q_all mb n mr).2.1))) (mW cy L F 0 ms ma mv mn mb (nI n) (nI (q_all mb n mr).2.1) ((q_all mb n mr).1) ((q_all mb n mr).2.2.2) (nI (q_all mb n mr).2.2.1) mh) := by
  refine GM.ofW (cc := cX5_firstError) (maxL := 1) (ret := (some .int)) (by decide) rfl (Nat.le_of_ble_eq_true rfl) ?_
  intro p e s m below meth c ls hx hb hr hts hown hlocks hml hK hA hG hS hl
  have hl : lv_has ls 1 [(0, .ref (L 162))] := hl
  have i162 : 162 < N := by omega
  have i163 : 163 < N := by omega
  have i164 : 164 < N := by omega
  have i165 : 165 < N := by omega
  have i166 : 166 < N := by omega
  have i167 : 167 < N := by omega
  have hf25 := hts (.fieldLink RX5 25 "SiloPadsModel" "thrown" "I") (by decide +kernel)
  have hinX5 : ∀ w ∈ u_ws RX5 TX5 12, w ∈ wsX5_firstError := by decide +kernel
  have hf124 := hts (.fieldLink RX5 124 "SiloPadsModel" "at" "I") (by decide +kernel)
  refine lv_aload_n hx hb dX5_firstError_0 rfl (lv_at hl 0 rfl) ?_
  refine lv_iconst (v := 0) hx hb dX5_firstError_1 (by decide) ?_
  refine g_put (ci := 5) (C := RX5) (T := TX5) (M := 12) (ty := .int) hx hb hts hinX5 tyX5 tyX5_ok nmX5 hown hK hG hS i162 mW_o rfl 0 (by decide) hf25 rfl rfl rfl rfl rfl (Nat.le_of_ble_eq_true rfl) dX5_firstError_2 rfl (fun H locs hG hS => ?_)
  have hG := hG.to mW_uo
  refine lv_aload_n hx hb dX5_firstError_5 rfl (lv_at hl 0 rfl) ?_
  refine g_cVv (As := []) (rest := []) hx hb hml hown hts hK hA hG hS (k_X5_readsAll l D cy N L F hN 0 ms ma mv mn mb (nI n) mp mw mr mq mh n (by omega)) (cwV 0 hts gX5_firstError_X5_readsAll rfl rfl rfl (by decide +kernel) ⟨Nat.le_of_ble_eq_true rfl, Nat.le_of_ble_eq_true rfl⟩) i162 mW_o (ci := 5) rfl rfl rfl rfl hl.1 (Nat.le_of_ble_eq_true rfl) dX5_firstError_6 ⟨Nat.zero_le _, Nat.zero_le _⟩ (fun H locs hG hS => ?_)
  refine lv_aload_n hx hb dX5_firstError_9 rfl (lv_at hl 0 rfl) ?_
  refine g_get (ci := 5) (C := RX5) (T := TX5) (M := 12) hx hb hts hinX5 hown hK hG i162 mW_o rfl 7 (by decide) hf124 rfl rfl dX5_firstError_10 ?_
  exact g_iret hx hb hr hlocks hK hG hS rfl dX5_firstError_13 ⟨rfl, rfl⟩
set_option maxHeartbeats 4000000 in
set_option maxRecDepth 100000 in
theorem k_X5_plays (l : Launch) (D : va_G) (cy : Nat → ClassId) (N : Nat) (L : Nat → Nat) (F : Nat → va_E) (hN : 168 ≤ N) (mt : Int32) (ms ma mv : Nat → Int32) (mn : Int32) (mb : Nat → Int32) (ml mp mw : Int32) (mr : Nat → Int32) (mq : Int32) (mh : Int64) (i : Nat) (hw : wfM ms) (hi : i + 3 < 88) (ho : qOK mr i) : GM l D cy N L yX5_plays wsX5_plays ({ frames := 6, cells := 0, slots := 0, locals := 139 }) [.ref (L 162), .int (nI i)] (mW cy L F mt ms ma mv mn mb ml mp mw mr mq mh) (some (.int (q_plR ms mr i))) (mW cy L F mt (q_plS ms mr i) ma mv mn mb ml mp mw mr mq mh) := by
  refine GM.ofW (cc := cX5_plays) (maxL := 2) (ret := (some .int)) (by decide) rfl (Nat.le_of_ble_eq_true rfl) ?_
  intro p e s m below meth c ls hx hb hr hts hown hlocks hml hK hA hG hS hl
  have hl : lv_has ls 2 [(0, .ref (L 162)), (1, .int (nI i))] := hl
  have i162 : 162 < N := by omega
  have i163 : 163 < N := by omega
  have i164 : 164 < N := by omega
  have i165 : 165 < N := by omega
  have i166 : 166 < N := by omega
  have i167 : 167 < N := by omega
  have hf22 := hts (.fieldLink RX5 22 "SiloPadsModel" "read" "[I") (by decide +kernel)
  have hinX5 : ∀ w ∈ u_ws RX5 TX5 12, w ∈ wsX5_plays := by decide +kernel
  refine lv_aload_n hx hb dX5_plays_0 rfl (lv_at hl 0 rfl) ?_
  refine g_get (ci := 5) (C := RX5) (T := TX5) (M := 12) hx hb hts hinX5 hown hK hG i162 mW_o rfl 9 (by decide) hf22 rfl rfl dX5_plays_1 ?_
  refine lv_iload_n hx hb dX5_plays_4 rfl (lv_at hl 1 rfl) ?_
  refine g_iald hx hb hK hG i167 mW_a167 (k := i) rfl (by omega) (by decide) dX5_plays_5 ?_
  refine lv_toI (y := mr i) rfl ?_
  by_cases c_6_60 : mr i = 60
  · skip
    refine lv_lookup (off := 26) (tgt := 32) hx hb dX5_plays_6 (by decide) (by rw [c_6_60]; decide) (by decide) ?_
    have hs1 := ho.2.1 (Or.inl c_6_60)
    have hs2 := hw.1 _ hs1.1.2
    have hk4 := hs1.1.2
    have hj6 := hs1.2.2
    refine lv_aload_n hx hb dX5_plays_32 rfl (lv_at hl 0 rfl) ?_
    refine lv_aload_n hx hb dX5_plays_33 rfl (lv_at hl 0 rfl) ?_
    refine g_get (ci := 5) (C := RX5) (T := TX5) (M := 12) hx hb hts hinX5 hown hK hG i162 mW_o rfl 9 (by decide) hf22 rfl rfl dX5_plays_34 ?_
    refine lv_iload_n hx hb dX5_plays_37 rfl (lv_at hl 1 rfl) ?_
    refine lv_iconst (v := 1) hx hb dX5_plays_38 (by decide) ?_
    refine lv_iadd hx hb dX5_plays_39 ?_
    refine lv_toN (k := i + 1) (nI_add i 1) ?_
    refine g_iald hx hb hK hG i167 mW_a167 (k := i + 1) rfl (by omega) (by decide) dX5_plays_40 ?_
    refine lv_toN (k := t_n (mr (i + 1))) (hs1.1.1) ?_
    refine lv_aload_n hx hb dX5_plays_41 rfl (lv_at hl 0 rfl) ?_
    refine g_get (ci := 5) (C := RX5) (T := TX5) (M := 12) hx hb hts hinX5 hown hK hG i162 mW_o rfl 9 (by decide) hf22 rfl rfl dX5_plays_42 ?_
    refine lv_iload_n hx hb dX5_plays_45 rfl (lv_at hl 1 rfl) ?_
    refine lv_iconst (v := 2) hx hb dX5_plays_46 (by decide) ?_
    refine lv_iadd hx hb dX5_plays_47 ?_
    refine lv_toN (k := i + 2) (nI_add i 2) ?_
    refine g_iald hx hb hK hG i167 mW_a167 (k := i + 2) rfl (by omega) (by decide) dX5_plays_48 ?_
    refine lv_toN (k := t_n (mr (i + 2))) (hs1.2.1) ?_
    refine lv_aload_n hx hb dX5_plays_49 rfl (lv_at hl 0 rfl) ?_
    refine g_get (ci := 5) (C := RX5) (T := TX5) (M := 12) hx hb hts hinX5 hown hK hG i162 mW_o rfl 9 (by decide) hf22 rfl rfl dX5_plays_50 ?_
    refine lv_iload_n hx hb dX5_plays_53 rfl (lv_at hl 1 rfl) ?_
    refine lv_iconst (v := 3) hx hb dX5_plays_54 (by decide) ?_
    refine lv_iadd hx hb dX5_plays_55 ?_
    refine lv_toN (k := i + 3) (nI_add i 3) ?_
    refine g_iald hx hb hK hG i167 mW_a167 (k := i + 3) rfl (by omega) (by decide) dX5_plays_56 ?_
    refine g_cVi (As := [.int (nI (t_n (mr (i + 1)))), .int (nI (t_n (mr (i + 2)))), .int (mr (i + 3))]) (rest := []) hx hb hml hown hts hK hA hG hS (k_X5_unloads l D cy N L F hN mt ms ma mv mn mb ml mp mw mr mq mh (t_n (mr (i + 1))) (t_n (mr (i + 2))) (Nn ms (t_n (mr (i + 1)))) (mr (i + 3)) (by omega) (hs2.1) (hs2.2) (by omega)) (cwV 3 hts gX5_plays_X5_unloads rfl rfl rfl (by decide +kernel) ⟨Nat.le_of_ble_eq_true rfl, Nat.le_of_ble_eq_true rfl⟩) i162 mW_o (ci := 5) rfl rfl rfl rfl hl.1 (Nat.le_of_ble_eq_true rfl) dX5_plays_57 ⟨Nat.zero_le _, Nat.zero_le _⟩ (fun H locs hG hS => ?_)
    exact g_iret hx hb hr hlocks hK hG hS rfl dX5_plays_60 ⟨(congrArg (fun z9 => some (Value.int z9)) (by unfold q_plR; rw [if_pos c_6_60])), (by unfold q_plS; rw [if_pos c_6_60])⟩
  by_cases c_6_62 : mr i = 62
  · skip
    refine lv_lookup (off := 55) (tgt := 61) hx hb dX5_plays_6 (by decide) (by rw [c_6_62]; decide) (by decide) ?_
    have hs1 := ho.2.1 (Or.inr c_6_62)
    have hs3 := ho.2.2 c_6_62
    have hk4 := hs1.1.2
    have hj6 := hs1.2.2
    have hq100 := hs3.2
    refine lv_aload_n hx hb dX5_plays_61 rfl (lv_at hl 0 rfl) ?_
    refine lv_aload_n hx hb dX5_plays_62 rfl (lv_at hl 0 rfl) ?_
    refine g_get (ci := 5) (C := RX5) (T := TX5) (M := 12) hx hb hts hinX5 hown hK hG i162 mW_o rfl 9 (by decide) hf22 rfl rfl dX5_plays_63 ?_
    refine lv_iload_n hx hb dX5_plays_66 rfl (lv_at hl 1 rfl) ?_
    refine lv_iconst (v := 1) hx hb dX5_plays_67 (by decide) ?_
    refine lv_iadd hx hb dX5_plays_68 ?_
    refine lv_toN (k := i + 1) (nI_add i 1) ?_
    refine g_iald hx hb hK hG i167 mW_a167 (k := i + 1) rfl (by omega) (by decide) dX5_plays_69 ?_
    refine lv_toN (k := t_n (mr (i + 1))) (hs1.1.1) ?_
    refine lv_aload_n hx hb dX5_plays_70 rfl (lv_at hl 0 rfl) ?_
    refine g_get (ci := 5) (C := RX5) (T := TX5) (M := 12) hx hb hts hinX5 hown hK hG i162 mW_o rfl 9 (by decide) hf22 rfl rfl dX5_plays_71 ?_
    refine lv_iload_n hx hb dX5_plays_74 rfl (lv_at hl 1 rfl) ?_
    refine lv_iconst (v := 2) hx hb dX5_plays_75 (by decide) ?_
    refine lv_iadd hx hb dX5_plays_76 ?_
    refine lv_toN (k := i + 2) (nI_add i 2) ?_
    refine g_iald hx hb hK hG i167 mW_a167 (k := i + 2) rfl (by omega) (by decide) dX5_plays_77 ?_
    refine lv_toN (k := t_n (mr (i + 2))) (hs1.2.1) ?_
    refine lv_aload_n hx hb dX5_plays_78 rfl (lv_at hl 0 rfl) ?_
    refine g_get (ci := 5) (C := RX5) (T := TX5) (M := 12) hx hb hts hinX5 hown hK hG i162 mW_o rfl 9 (by decide) hf22 rfl rfl dX5_plays_79 ?_
    refine lv_iload_n hx hb dX5_plays_82 rfl (lv_at hl 1 rfl) ?_
    refine lv_iconst (v := 3) hx hb dX5_plays_83 (by decide) ?_
    refine lv_iadd hx hb dX5_plays_84 ?_
    refine lv_toN (k := i + 3) (nI_add i 3) ?_
    refine g_iald hx hb hK hG i167 mW_a167 (k := i + 3) rfl (by omega) (by decide) dX5_plays_85 ?_
    refine lv_toN (k := t_n (mr (i + 3))) (hs3.1) ?_
    refine g_cVi (As := [.int (nI (t_n (mr (i + 1)))), .int (nI (t_n (mr (i + 2)))), .int (nI (t_n (mr (i + 3))))]) (rest := []) hx hb hml hown hts hK hA hG hS (k_X5_flowsAll l D cy N L F hN mt ms ma mv mn mb ml mp mw mr mq mh (t_n (mr (i + 1))) (t_n (mr (i + 2))) (t_n (mr (i + 3))) (by omega) (by omega) (by omega) (hw)) (cwV 3 hts gX5_plays_X5_flowsAll rfl rfl rfl (by decide +kernel) ⟨Nat.le_of_ble_eq_true rfl, Nat.le_of_ble_eq_true rfl⟩) i162 mW_o (ci := 5) rfl rfl rfl rfl hl.1 (Nat.le_of_ble_eq_true rfl) dX5_plays_86 ⟨Nat.zero_le _, Nat.zero_le _⟩ (fun H locs hG hS => ?_)
    exact g_iret hx hb hr hlocks hK hG hS rfl dX5_plays_89 ⟨(congrArg (fun z9 => some (Value.int z9)) (by unfold q_plR; rw [if_neg c_6_60, if_pos c_6_62])), (by unfold q_plS; rw [if_neg c_6_60, if_pos c_6_62])⟩
  refine lv_lookup (off := 84) (tgt := 90) hx hb dX5_plays_6 (by decide) (lk_out2 (k0 := 60) c_6_60 (k1 := 62) c_6_62) (by decide) ?_
  have hs4 := ho.1 c_6_60 c_6_62
  have hd9 := hs4.2
  refine lv_aload_n hx hb dX5_plays_90 rfl (lv_at hl 0 rfl) ?_
  refine lv_aload_n hx hb dX5_plays_91 rfl (lv_at hl 0 rfl) ?_
  refine g_get (ci := 5) (C := RX5) (T := TX5) (M := 12) hx hb hts hinX5 hown hK hG i162 mW_o rfl 9 (by decide) hf22 rfl rfl dX5_plays_92 ?_
  refine lv_iload_n hx hb dX5_plays_95 rfl (lv_at hl 1 rfl) ?_
  refine lv_iconst (v := 1) hx hb dX5_plays_96 (by decide) ?_
  refine lv_iadd hx hb dX5_plays_97 ?_
  refine lv_toN (k := i + 1) (nI_add i 1) ?_
  refine g_iald hx hb hK hG i167 mW_a167 (k := i + 1) rfl (by omega) (by decide) dX5_plays_98 ?_
  refine lv_toN (k := t_n (mr (i + 1))) (hs4.1) ?_
  refine g_cVi (As := [.int (nI (t_n (mr (i + 1))))]) (rest := []) hx hb hml hown hts hK hA hG hS (k_X5_passes l D cy N L F hN mt ms ma mv mn mb ml mp mw mr mq mh (t_n (mr (i + 1))) (hw) (by omega)) (cwV 1 hts gX5_plays_X5_passes rfl rfl rfl (by decide +kernel) ⟨Nat.le_of_ble_eq_true rfl, Nat.le_of_ble_eq_true rfl⟩) i162 mW_o (ci := 5) rfl rfl rfl rfl hl.1 (Nat.le_of_ble_eq_true rfl) dX5_plays_99 ⟨Nat.zero_le _, Nat.zero_le _⟩ (fun H locs hG hS => ?_)
  refine lv_pop hx hb dX5_plays_102 rfl ?_
  refine lv_iconst (v := 0) hx hb dX5_plays_103 (by decide) ?_
  exact g_iret hx hb hr hlocks hK hG hS rfl dX5_plays_104 ⟨(congrArg (fun z9 => some (Value.int z9)) (by unfold q_plR; rw [if_neg c_6_60, if_neg c_6_62])), (by unfold q_plS; rw [if_neg c_6_60, if_neg c_6_62])⟩
set_option maxHeartbeats 4000000 in
set_option maxRecDepth 100000 in
theorem k_X5_play_ok (l : Launch) (D : va_G) (cy : Nat → ClassId) (N : Nat) (L : Nat → Nat) (F : Nat → va_E) (hN : 168 ≤ N) (mt : Int32) (ms ma mv : Nat → Int32) (mn : Int32) (mb : Nat → Int32) (ml mp mw : Int32) (mr : Nat → Int32) (mq : Int32) (mh : Int64) (n w : Nat) (hn : n ≤ 60) (hw6 : w ≤ 6) (hw : wfM ms) (hwell : ¬ (q_all mb n mr).1 = 0) (hQ : (q_all mb n mr).2.2.1 ≤ 22) (hrow : ∀ i, i < (q_all mb n mr).2.2.1 → qOK (q_all mb n mr).2.2.2 (4 * i)) : GM l D cy N L yX5_play wsX5_play ({ frames := 7, cells := 0, slots := 0, locals := 160 }) [.ref (L 162)] (mW cy L F mt ms ma mv (nI w) mb (nI n) mp mw mr mq mh) (some (.int (q_pyR ms (q_all mb n mr).2.2.2 (q_all mb n mr).2.2.1))) (mW cy L F 0 (q_pyS ms (q_all mb n mr).2.2.2 (q_all mb n mr).2.2.1) ma (g_saveV mv ms w) (nI (g_saveN w)) mb 0 (nI (q_all mb n mr).2.1) ((q_all mb n mr).1) ((q_all mb n mr).2.2.2) (nI (q_all mb n mr).2.2.1) mh) := by
  refine GM.ofW (cc := cX5_play) (maxL := 3) (ret := (some .int)) (by decide) rfl (Nat.le_of_ble_eq_true rfl) ?_
  intro p e s m below meth c ls hx hb hr hts hown hlocks hml hK hA hG hS hl
  have hl : lv_has ls 3 [(0, .ref (L 162))] := hl
  have i162 : 162 < N := by omega
  have i163 : 163 < N := by omega
  have i164 : 164 < N := by omega
  have i165 : 165 < N := by omega
  have i166 : 166 < N := by omega
  have i167 : 167 < N := by omega
  have hf25 := hts (.fieldLink RX5 25 "SiloPadsModel" "thrown" "I") (by decide +kernel)
  have hinX5 : ∀ w ∈ u_ws RX5 TX5 12, w ∈ wsX5_play := by decide +kernel
  have hf127 := hts (.fieldLink RX5 127 "SiloPadsModel" "isWell" "Z") (by decide +kernel)
  have hf121 := hts (.fieldLink RX5 121 "SiloPadsModel" "length" "I") (by decide +kernel)
  have hf137 := hts (.fieldLink RX5 137 "SiloPadsModel" "readMany" "I") (by decide +kernel)
  refine lv_aload_n hx hb dX5_play_0 rfl (lv_at hl 0 rfl) ?_
  refine lv_iconst (v := 0) hx hb dX5_play_1 (by decide) ?_
  refine g_put (ci := 5) (C := RX5) (T := TX5) (M := 12) (ty := .int) hx hb hts hinX5 tyX5 tyX5_ok nmX5 hown hK hG hS i162 mW_o rfl 0 (by decide) hf25 rfl rfl rfl rfl rfl (Nat.le_of_ble_eq_true rfl) dX5_play_2 rfl (fun H locs hG hS => ?_)
  have hG := hG.to mW_uo
  refine lv_aload_n hx hb dX5_play_5 rfl (lv_at hl 0 rfl) ?_
  refine g_cVv (As := []) (rest := []) hx hb hml hown hts hK hA hG hS (k_X5_readsAll l D cy N L F hN 0 ms ma mv (nI w) mb (nI n) mp mw mr mq mh n (hn)) (cwV 0 hts gX5_play_X5_readsAll rfl rfl rfl (by decide +kernel) ⟨Nat.le_of_ble_eq_true rfl, Nat.le_of_ble_eq_true rfl⟩) i162 mW_o (ci := 5) rfl rfl rfl rfl hl.1 (Nat.le_of_ble_eq_true rfl) dX5_play_6 ⟨Nat.zero_le _, Nat.zero_le _⟩ (fun H locs hG hS => ?_)
  refine lv_aload_n hx hb dX5_play_9 rfl (lv_at hl 0 rfl) ?_
  refine g_get (ci := 5) (C := RX5) (T := TX5) (M := 12) hx hb hts hinX5 hown hK hG i162 mW_o rfl 8 (by decide) hf127 rfl rfl dX5_play_10 ?_
  refine lv_if_ne (tgt := 22) hx hb dX5_play_13 (by decide) (fun c_13 => ?_) (fun c_13 => ?_)
  · skip
    refine lv_aload_n hx hb dX5_play_22 rfl (lv_at hl 0 rfl) ?_
    refine g_cVv (As := []) (rest := []) hx hb hml hown hts hK hA hG hS (k_X5_saves l D cy N L F hN 0 ms ma mv (nI w) mb (nI n) (nI (q_all mb n mr).2.1) ((q_all mb n mr).1) ((q_all mb n mr).2.2.2) (nI (q_all mb n mr).2.2.1) mh w (hw6)) (cwV 0 hts gX5_play_X5_saves rfl rfl rfl (by decide +kernel) ⟨Nat.le_of_ble_eq_true rfl, Nat.le_of_ble_eq_true rfl⟩) i162 mW_o (ci := 5) rfl rfl rfl rfl hl.1 (Nat.le_of_ble_eq_true rfl) dX5_play_23 ⟨Nat.zero_le _, Nat.zero_le _⟩ (fun H locs hG hS => ?_)
    refine lv_aload_n hx hb dX5_play_26 rfl (lv_at hl 0 rfl) ?_
    refine lv_iconst (v := 0) hx hb dX5_play_27 (by decide) ?_
    refine g_put (ci := 5) (C := RX5) (T := TX5) (M := 12) (ty := .int) hx hb hts hinX5 tyX5 tyX5_ok nmX5 hown hK hG hS i162 mW_o rfl 6 (by decide) hf121 rfl rfl rfl rfl rfl (Nat.le_of_ble_eq_true rfl) dX5_play_28 rfl (fun H locs hG hS => ?_)
    have hG := hG.to mW_uo
    refine lv_iconst (v := 0) hx hb dX5_play_31 (by decide) ?_
    refine lv_istore_n (lv' := [(1, .int 0), (0, .ref (L 162))]) hx hb dX5_play_32 rfl hl (by decide) rfl (fun ls hl => ?_)
    refine lv_iconst (v := 0) hx hb dX5_play_33 (by decide) ?_
    refine lv_istore_n (lv' := [(2, .int 0), (1, .int 0), (0, .ref (L 162))]) hx hb dX5_play_34 rfl hl (by decide) rfl (fun ls hl => ?_)
    refine W.loop (σ := Nat) (fun i9 H locs ls => (i9 ≤ (q_all mb n mr).2.2.1) ∧ GW D N L (gA N L s.heap.size) (mW cy L F 0 (q_pyS ms (q_all mb n mr).2.2.2 i9) ma (g_saveV mv ms w) (nI (g_saveN w)) mb 0 (nI (q_all mb n mr).2.1) ((q_all mb n mr).1) ((q_all mb n mr).2.2.2) (nI (q_all mb n mr).2.2.1) mh) H ∧ va_S (gA N L s.heap.size) s.heap H locs ∧ lv_has ls 3 [(1, .int (q_pyR ms (q_all mb n mr).2.2.2 i9)), (2, .int (nI i9)), (0, .ref (L 162))]) (fun i9 => (q_all mb n mr).2.2.1 - i9) 0 ⟨by omega, hG.to (rfl), hS, lv_to (lv_sub hl [1, 0, 2] rfl) (rfl)⟩ ?_
    intro i9 H locs ls hP9 ih35
    obtain ⟨hi9, hG, hS, hl⟩ := hP9
    refine lv_iload_n hx hb dX5_play_35 rfl (lv_at hl 1 rfl) ?_
    refine lv_aload_n hx hb dX5_play_36 rfl (lv_at hl 2 rfl) ?_
    refine g_get (ci := 5) (C := RX5) (T := TX5) (M := 12) hx hb hts hinX5 hown hK hG i162 mW_o rfl 10 (by decide) hf137 rfl rfl dX5_play_37 ?_
    refine lv_icmp_ge (tgt := 59) hx hb dX5_play_40 (by decide) (fun c_40 => ?_) (fun c_40 => ?_)
    · skip
      have c_40 : ((q_all mb n mr).2.2.1) ≤ i9 := (nI_leI (a := (q_all mb n mr).2.2.1) (b := i9) (by omega) (by omega)).mp c_40
      refine lv_iload_n hx hb dX5_play_59 rfl (lv_at hl 0 rfl) ?_
      exact g_iret hx hb hr hlocks hK hG hS rfl dX5_play_60 ⟨(congrArg (fun z9 => some (Value.int z9)) (by rw [show i9 = (q_all mb n mr).2.2.1 by omega])), (by rw [show i9 = (q_all mb n mr).2.2.1 by omega])⟩
    · skip
      have c_40 : ¬ ((q_all mb n mr).2.2.1) ≤ i9 := fun h9 => c_40 ((nI_leI (a := (q_all mb n mr).2.2.1) (b := i9) (by omega) (by omega)).mpr h9)
      refine lv_iload_n hx hb dX5_play_43 rfl (lv_at hl 0 rfl) ?_
      refine lv_aload_n hx hb dX5_play_44 rfl (lv_at hl 2 rfl) ?_
      refine lv_iconst (v := 4) hx hb dX5_play_45 (by decide) ?_
      refine lv_iload_n hx hb dX5_play_46 rfl (lv_at hl 1 rfl) ?_
      refine lv_imul hx hb dX5_play_47 ?_
      refine lv_toN (k := 4 * i9) (pk_mul 4 i9) ?_
      refine g_cVi (As := [.int (nI (4 * i9))]) (rest := [.int (q_pyR ms (q_all mb n mr).2.2.2 i9)]) hx hb hml hown hts hK hA hG hS (k_X5_plays l D cy N L F hN 0 (q_pyS ms (q_all mb n mr).2.2.2 i9) ma (g_saveV mv ms w) (nI (g_saveN w)) mb 0 (nI (q_all mb n mr).2.1) ((q_all mb n mr).1) ((q_all mb n mr).2.2.2) (nI (q_all mb n mr).2.2.1) mh (4 * i9) (wfM_pyS hw hrow i9 (by omega)) (by omega) (hrow i9 (by omega))) (cwV 1 hts gX5_play_X5_plays rfl rfl rfl (by decide +kernel) ⟨Nat.le_of_ble_eq_true rfl, Nat.le_of_ble_eq_true rfl⟩) i162 mW_o (ci := 5) rfl rfl rfl rfl hl.1 (Nat.le_of_ble_eq_true rfl) dX5_play_48 ⟨Nat.zero_le _, Nat.zero_le _⟩ (fun H locs hG hS => ?_)
      refine lv_iadd hx hb dX5_play_51 ?_
      refine lv_istore_n (lv' := [(1, .int ((q_pyR ms (q_all mb n mr).2.2.2 i9) + (q_plR (q_pyS ms (q_all mb n mr).2.2.2 i9) ((q_all mb n mr).2.2.2) (4 * i9)))), (2, .int (nI i9)), (0, .ref (L 162))]) hx hb dX5_play_52 rfl hl (by decide) rfl (fun ls hl => ?_)
      refine lv_iinc (v := nI (i9 + 1)) (lv' := [(2, .int (nI (i9 + 1))), (1, .int ((q_pyR ms (q_all mb n mr).2.2.2 i9) + (q_plR (q_pyS ms (q_all mb n mr).2.2.2 i9) ((q_all mb n mr).2.2.2) (4 * i9)))), (0, .ref (L 162))]) hx hb dX5_play_53 hl (k := 1) rfl (nI_add i9 1) (by decide) rfl (fun ls hl => ?_)
      refine lv_goto (tgt := 35) hx hb dX5_play_56 (by decide) ?_
      have hl : lv_has ls 3 [(1, .int ((q_pyR ms (q_all mb n mr).2.2.2 i9) + (q_plR (q_pyS ms (q_all mb n mr).2.2.2 i9) ((q_all mb n mr).2.2.2) (4 * i9)))), (2, .int (nI (i9 + 1))), (0, .ref (L 162))] := lv_sub hl [1, 0, 2] rfl
      exact ih35 (i9 + 1) _ _ _ (by omega) ⟨by omega, hG.to (rfl), hS, lv_to hl (rfl)⟩
  · skip
    exact absurd c_13 hwell
set_option maxHeartbeats 4000000 in
set_option maxRecDepth 100000 in
theorem k_X5_play_t1 (l : Launch) (D : va_G) (cy : Nat → ClassId) (N : Nat) (L : Nat → Nat) (F : Nat → va_E) (hN : 168 ≤ N) (mt : Int32) (ms ma mv : Nat → Int32) (mn : Int32) (mb : Nat → Int32) (ml mp mw : Int32) (mr : Nat → Int32) (mq : Int32) (mh : Int64) (n : Nat) (hn : n ≤ 60) (hwell : (q_all mb n mr).1 = 0) : GM l D cy N L yX5_play wsX5_play ({ frames := 7, cells := 0, slots := 0, locals := 160 }) [.ref (L 162)] (mW cy L F mt ms ma mv mn mb (nI n) mp mw mr mq mh) (some (.int 0)) (mW cy L F 1 ms ma mv mn mb (nI n) (nI (q_all mb n mr).2.1) ((q_all mb n mr).1) ((q_all mb n mr).2.2.2) (nI (q_all mb n mr).2.2.1) mh) := by
  refine GM.ofW (cc := cX5_play) (maxL := 3) (ret := (some .int)) (by decide) rfl (Nat.le_of_ble_eq_true rfl) ?_
  intro p e s m below meth c ls hx hb hr hts hown hlocks hml hK hA hG hS hl
  have hl : lv_has ls 3 [(0, .ref (L 162))] := hl
  have i162 : 162 < N := by omega
  have i163 : 163 < N := by omega
  have i164 : 164 < N := by omega
  have i165 : 165 < N := by omega
  have i166 : 166 < N := by omega
  have i167 : 167 < N := by omega
  have hf25 := hts (.fieldLink RX5 25 "SiloPadsModel" "thrown" "I") (by decide +kernel)
  have hinX5 : ∀ w ∈ u_ws RX5 TX5 12, w ∈ wsX5_play := by decide +kernel
  have hf127 := hts (.fieldLink RX5 127 "SiloPadsModel" "isWell" "Z") (by decide +kernel)
  refine lv_aload_n hx hb dX5_play_0 rfl (lv_at hl 0 rfl) ?_
  refine lv_iconst (v := 0) hx hb dX5_play_1 (by decide) ?_
  refine g_put (ci := 5) (C := RX5) (T := TX5) (M := 12) (ty := .int) hx hb hts hinX5 tyX5 tyX5_ok nmX5 hown hK hG hS i162 mW_o rfl 0 (by decide) hf25 rfl rfl rfl rfl rfl (Nat.le_of_ble_eq_true rfl) dX5_play_2 rfl (fun H locs hG hS => ?_)
  have hG := hG.to mW_uo
  refine lv_aload_n hx hb dX5_play_5 rfl (lv_at hl 0 rfl) ?_
  refine g_cVv (As := []) (rest := []) hx hb hml hown hts hK hA hG hS (k_X5_readsAll l D cy N L F hN 0 ms ma mv mn mb (nI n) mp mw mr mq mh n (by omega)) (cwV 0 hts gX5_play_X5_readsAll rfl rfl rfl (by decide +kernel) ⟨Nat.le_of_ble_eq_true rfl, Nat.le_of_ble_eq_true rfl⟩) i162 mW_o (ci := 5) rfl rfl rfl rfl hl.1 (Nat.le_of_ble_eq_true rfl) dX5_play_6 ⟨Nat.zero_le _, Nat.zero_le _⟩ (fun H locs hG hS => ?_)
  refine lv_aload_n hx hb dX5_play_9 rfl (lv_at hl 0 rfl) ?_
  refine g_get (ci := 5) (C := RX5) (T := TX5) (M := 12) hx hb hts hinX5 hown hK hG i162 mW_o rfl 8 (by decide) hf127 rfl rfl dX5_play_10 ?_
  refine lv_if_ne (tgt := 22) hx hb dX5_play_13 (by decide) (fun c_13 => ?_) (fun c_13 => ?_)
  · skip
    exact absurd hwell c_13
  · skip
    refine lv_aload_n hx hb dX5_play_16 rfl (lv_at hl 0 rfl) ?_
    refine lv_iconst (v := 1) hx hb dX5_play_17 (by decide) ?_
    refine g_cVi (As := [.int 1]) (rest := []) hx hb hml hown hts hK hA hG hS (k_X5_fails l D cy N L F hN 0 ms ma mv mn mb (nI n) (nI (q_all mb n mr).2.1) ((q_all mb n mr).1) ((q_all mb n mr).2.2.2) (nI (q_all mb n mr).2.2.1) mh 1 ) (cwV 1 hts gX5_play_X5_fails rfl rfl rfl (by decide +kernel) ⟨Nat.le_of_ble_eq_true rfl, Nat.le_of_ble_eq_true rfl⟩) i162 mW_o (ci := 5) rfl rfl rfl rfl hl.1 (Nat.le_of_ble_eq_true rfl) dX5_play_18 ⟨Nat.zero_le _, Nat.zero_le _⟩ (fun H locs hG hS => ?_)
    exact g_iret hx hb hr hlocks hK hG hS rfl dX5_play_21 ⟨rfl, rfl⟩
