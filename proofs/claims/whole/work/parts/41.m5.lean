set_option maxHeartbeats 4000000 in
set_option maxRecDepth 100000 in
theorem k_X5_leastOf (l : Launch) (D : va_G) (cy : Nat → ClassId) (N : Nat) (L : Nat → Nat) (F : Nat → va_E) (i : Int32)  : GM l D cy N L yX5_leastOf wsX5_leastOf ({ frames := 0, cells := 0, slots := 0, locals := 0 }) [.int i] (F) (some (.int (g_least i))) (F) := by
  refine GM.ofW (cc := cX5_leastOf) (maxL := 1) (ret := (some .int)) (by decide) rfl (Nat.le_of_ble_eq_true rfl) ?_
  intro p e s m below meth c ls hx hb hr hts hown hlocks hml hK hA hG hS hl
  have hl : lv_has ls 1 [(0, .int i)] := hl
  refine lv_iload_n hx hb dX5_leastOf_0 rfl (lv_at hl 0 rfl) ?_
  refine lv_iconst (v := 1) hx hb dX5_leastOf_1 (by decide) ?_
  refine lv_icmp_ne (tgt := 9) hx hb dX5_leastOf_2 (by decide) (fun c_2 => ?_) (fun c_2 => ?_)
  · skip
    refine lv_iload_n hx hb dX5_leastOf_9 rfl (lv_at hl 0 rfl) ?_
    refine lv_iconst (v := 2) hx hb dX5_leastOf_10 (by decide) ?_
    refine lv_icmp_ne (tgt := 18) hx hb dX5_leastOf_11 (by decide) (fun c_11 => ?_) (fun c_11 => ?_)
    · skip
      refine lv_iconst (v := 0) hx hb dX5_leastOf_18 (by decide) ?_
      exact g_iret hx hb hr hlocks hK hG hS rfl dX5_leastOf_19 ⟨(congrArg (fun z9 => some (Value.int z9)) (by first | (simp only [g_least, c_2, c_11, if_true, if_false, not_true_eq_false, not_false_eq_true]; done) | (simp [g_least, c_2, c_11]; done) | rfl)), rfl⟩
    · skip
      refine lv_iconst (v := 5) hx hb dX5_leastOf_14 (by decide) ?_
      refine lv_goto (tgt := 19) hx hb dX5_leastOf_15 (by decide) ?_
      exact g_iret hx hb hr hlocks hK hG hS rfl dX5_leastOf_19 ⟨(congrArg (fun z9 => some (Value.int z9)) (by first | (simp only [g_least, c_2, eq_true c_11, if_true, if_false, not_true_eq_false, not_false_eq_true]; done) | (simp [g_least, c_2, eq_true c_11]; done) | rfl)), rfl⟩
  · skip
    refine lv_iconst (v := 1) hx hb dX5_leastOf_5 (by decide) ?_
    refine lv_goto (tgt := 19) hx hb dX5_leastOf_6 (by decide) ?_
    exact g_iret hx hb hr hlocks hK hG hS rfl dX5_leastOf_19 ⟨(congrArg (fun z9 => some (Value.int z9)) (by first | (simp only [g_least, eq_true c_2, if_true, if_false, not_true_eq_false, not_false_eq_true]; done) | (simp [g_least, eq_true c_2]; done) | rfl)), rfl⟩
set_option maxHeartbeats 4000000 in
set_option maxRecDepth 100000 in
theorem k_X5_mostOf (l : Launch) (D : va_G) (cy : Nat → ClassId) (N : Nat) (L : Nat → Nat) (F : Nat → va_E) (i : Int32)  : GM l D cy N L yX5_mostOf wsX5_mostOf ({ frames := 0, cells := 0, slots := 0, locals := 0 }) [.int i] (F) (some (.int (g_most i))) (F) := by
  refine GM.ofW (cc := cX5_mostOf) (maxL := 1) (ret := (some .int)) (by decide) rfl (Nat.le_of_ble_eq_true rfl) ?_
  intro p e s m below meth c ls hx hb hr hts hown hlocks hml hK hA hG hS hl
  have hl : lv_has ls 1 [(0, .int i)] := hl
  refine lv_iload_n hx hb dX5_mostOf_0 rfl (lv_at hl 0 rfl) ?_
  refine lv_toI (y := i) rfl ?_
  by_cases c_1_0 : i = 0
  · skip
    refine lv_tableIn (off := 27) (tgt := 28) hx hb dX5_mostOf_1 (by rw [c_1_0]; decide) (by rw [c_1_0]; decide) (by rw [c_1_0]; decide) (by decide) ?_
    refine lv_bipush (v := 16) hx hb dX5_mostOf_28 (by decide) ?_
    exact g_iret hx hb hr hlocks hK hG hS rfl dX5_mostOf_30 ⟨(congrArg (fun z9 => some (Value.int z9)) (by first | (simp only [g_most, eq_true c_1_0, if_true, if_false, not_true_eq_false, not_false_eq_true]; done) | (simp [g_most, eq_true c_1_0]; done) | rfl)), rfl⟩
  by_cases c_1_1 : i = 1
  · skip
    refine lv_tableIn (off := 30) (tgt := 31) hx hb dX5_mostOf_1 (by rw [c_1_1]; decide) (by rw [c_1_1]; decide) (by rw [c_1_1]; decide) (by decide) ?_
    refine lv_bipush (v := 20) hx hb dX5_mostOf_31 (by decide) ?_
    exact g_iret hx hb hr hlocks hK hG hS rfl dX5_mostOf_33 ⟨(congrArg (fun z9 => some (Value.int z9)) (by first | (simp only [g_most, c_1_0, eq_true c_1_1, if_true, if_false, not_true_eq_false, not_false_eq_true]; done) | (simp [g_most, c_1_0, eq_true c_1_1]; done) | rfl)), rfl⟩
  by_cases c_1_2 : i = 2
  · skip
    refine lv_tableIn (off := 33) (tgt := 34) hx hb dX5_mostOf_1 (by rw [c_1_2]; decide) (by rw [c_1_2]; decide) (by rw [c_1_2]; decide) (by decide) ?_
    refine lv_bipush (v := 100) hx hb dX5_mostOf_34 (by decide) ?_
    exact g_iret hx hb hr hlocks hK hG hS rfl dX5_mostOf_36 ⟨(congrArg (fun z9 => some (Value.int z9)) (by first | (simp only [g_most, c_1_0, c_1_1, eq_true c_1_2, if_true, if_false, not_true_eq_false, not_false_eq_true]; done) | (simp [g_most, c_1_0, c_1_1, eq_true c_1_2]; done) | rfl)), rfl⟩
  refine lv_tableOut (tgt := 37) hx hb dX5_mostOf_1 (by have q0 := sw_ne (n := 0) (by decide) c_1_0; have q1 := sw_ne (n := 1) (by decide) c_1_1; have q2 := sw_ne (n := 2) (by decide) c_1_2; omega) (by decide) ?_
  refine lv_sipush (v := 900) hx hb dX5_mostOf_37 (by decide) ?_
  exact g_iret hx hb hr hlocks hK hG hS rfl dX5_mostOf_40 ⟨(congrArg (fun z9 => some (Value.int z9)) (by first | (simp only [g_most, c_1_0, c_1_1, c_1_2, if_true, if_false, not_true_eq_false, not_false_eq_true]; done) | (simp [g_most, c_1_0, c_1_1, c_1_2]; done) | rfl)), rfl⟩
set_option maxHeartbeats 4000000 in
set_option maxRecDepth 100000 in
theorem k_X5_unload_t1 (l : Launch) (D : va_G) (cy : Nat → ClassId) (N : Nat) (L : Nat → Nat) (F : Nat → va_E) (hN : 168 ≤ N) (mt : Int32) (ms ma mv : Nat → Int32) (mn : Int32) (mb : Nat → Int32) (ml mp mw : Int32) (mr : Nat → Int32) (mq : Int32) (mh : Int64) (a b t : Int32) (h : g_in a 0 3 = 0 ∨ g_in b 0 5 = 0) : GM l D cy N L yX5_unload wsX5_unload ({ frames := 5, cells := 0, slots := 0, locals := 118 }) [.ref (L 162), .int a, .int b, .int t] (mW cy L F mt ms ma mv mn mb ml mp mw mr mq mh) (some (.int 0)) (mW cy L F 1 ms ma mv mn mb ml mp mw mr mq mh) := by
  refine GM.ofW (cc := cX5_unload) (maxL := 4) (ret := (some .int)) (by decide) rfl (Nat.le_of_ble_eq_true rfl) ?_
  intro p e s m below meth c ls hx hb hr hts hown hlocks hml hK hA hG hS hl
  have hl : lv_has ls 4 [(0, .ref (L 162)), (1, .int a), (2, .int b), (3, .int t)] := hl
  have i162 : 162 < N := by omega
  have i163 : 163 < N := by omega
  have i164 : 164 < N := by omega
  have i165 : 165 < N := by omega
  have i166 : 166 < N := by omega
  have i167 : 167 < N := by omega
  have hf25 := hts (.fieldLink RX5 25 "SiloPadsModel" "thrown" "I") (by decide +kernel)
  have hinX5 : ∀ w ∈ u_ws RX5 TX5 12, w ∈ wsX5_unload := by decide +kernel
  refine lv_aload_n hx hb dX5_unload_0 rfl (lv_at hl 0 rfl) ?_
  refine lv_iconst (v := 0) hx hb dX5_unload_1 (by decide) ?_
  refine g_put (ci := 5) (C := RX5) (T := TX5) (M := 12) (ty := .int) hx hb hts hinX5 tyX5 tyX5_ok nmX5 hown hK hG hS i162 mW_o rfl 0 (by decide) hf25 rfl rfl rfl rfl rfl (Nat.le_of_ble_eq_true rfl) dX5_unload_2 rfl (fun H locs hG hS => ?_)
  have hG := hG.to mW_uo
  refine lv_iload_n hx hb dX5_unload_5 rfl (lv_at hl 1 rfl) ?_
  refine g_cSi (As := [.int a]) (rest := []) hx hb hml hown hts hK hA hG hS (k_X5_isSilo l D cy N L (mW cy L F 0 ms ma mv mn mb ml mp mw mr mq mh) a ) (g_cwS 1 hts gX5_unload_X5_isSilo rfl rfl rfl (by decide +kernel) ⟨Nat.le_of_ble_eq_true rfl, Nat.le_of_ble_eq_true rfl⟩) rfl rfl hl.1 (Nat.le_of_ble_eq_true rfl) dX5_unload_6 ⟨Nat.zero_le _, Nat.zero_le _⟩ (fun H locs hG hS => ?_)
  refine lv_if_eq (tgt := 19) hx hb dX5_unload_9 (by decide) (fun c_9 => ?_) (fun c_9 => ?_)
  · skip
    refine lv_aload_n hx hb dX5_unload_19 rfl (lv_at hl 0 rfl) ?_
    refine lv_iconst (v := 1) hx hb dX5_unload_20 (by decide) ?_
    refine g_cVi (As := [.int 1]) (rest := []) hx hb hml hown hts hK hA hG hS (k_X5_fails l D cy N L F hN 0 ms ma mv mn mb ml mp mw mr mq mh 1 ) (cwV 1 hts gX5_unload_X5_fails rfl rfl rfl (by decide +kernel) ⟨Nat.le_of_ble_eq_true rfl, Nat.le_of_ble_eq_true rfl⟩) i162 mW_o (ci := 5) rfl rfl rfl rfl hl.1 (Nat.le_of_ble_eq_true rfl) dX5_unload_21 ⟨Nat.zero_le _, Nat.zero_le _⟩ (fun H locs hG hS => ?_)
    exact g_iret hx hb hr hlocks hK hG hS rfl dX5_unload_24 ⟨rfl, rfl⟩
  · skip
    refine lv_iload_n hx hb dX5_unload_12 rfl (lv_at hl 2 rfl) ?_
    refine g_cSi (As := [.int b]) (rest := []) hx hb hml hown hts hK hA hG hS (k_X5_isShip l D cy N L (mW cy L F 0 ms ma mv mn mb ml mp mw mr mq mh) b ) (g_cwS 1 hts gX5_unload_X5_isShip rfl rfl rfl (by decide +kernel) ⟨Nat.le_of_ble_eq_true rfl, Nat.le_of_ble_eq_true rfl⟩) rfl rfl hl.1 (Nat.le_of_ble_eq_true rfl) dX5_unload_13 ⟨Nat.zero_le _, Nat.zero_le _⟩ (fun H locs hG hS => ?_)
    refine lv_if_ne (tgt := 25) hx hb dX5_unload_16 (by decide) (fun c_16 => ?_) (fun c_16 => ?_)
    · skip
      exact h.elim (fun h9 => absurd h9 c_9) (fun h9 => absurd h9 c_16)
    · skip
      refine lv_aload_n hx hb dX5_unload_19 rfl (lv_at hl 0 rfl) ?_
      refine lv_iconst (v := 1) hx hb dX5_unload_20 (by decide) ?_
      refine g_cVi (As := [.int 1]) (rest := []) hx hb hml hown hts hK hA hG hS (k_X5_fails l D cy N L F hN 0 ms ma mv mn mb ml mp mw mr mq mh 1 ) (cwV 1 hts gX5_unload_X5_fails rfl rfl rfl (by decide +kernel) ⟨Nat.le_of_ble_eq_true rfl, Nat.le_of_ble_eq_true rfl⟩) i162 mW_o (ci := 5) rfl rfl rfl rfl hl.1 (Nat.le_of_ble_eq_true rfl) dX5_unload_21 ⟨Nat.zero_le _, Nat.zero_le _⟩ (fun H locs hG hS => ?_)
      exact g_iret hx hb hr hlocks hK hG hS rfl dX5_unload_24 ⟨rfl, rfl⟩
set_option maxHeartbeats 4000000 in
set_option maxRecDepth 100000 in
theorem k_X5_flow_t1 (l : Launch) (D : va_G) (cy : Nat → ClassId) (N : Nat) (L : Nat → Nat) (F : Nat → va_E) (hN : 168 ≤ N) (mt : Int32) (ms ma mv : Nat → Int32) (mn : Int32) (mb : Nat → Int32) (ml mp mw : Int32) (mr : Nat → Int32) (mq : Int32) (mh : Int64) (a b t : Int32) (h : g_in a 0 3 = 0 ∨ g_in b 0 5 = 0) : GM l D cy N L yX5_flow wsX5_flow ({ frames := 6, cells := 0, slots := 0, locals := 139 }) [.ref (L 162), .int a, .int b, .int t] (mW cy L F mt ms ma mv mn mb ml mp mw mr mq mh) (some (.int 0)) (mW cy L F 1 ms ma mv mn mb ml mp mw mr mq mh) := by
  refine GM.ofW (cc := cX5_flow) (maxL := 4) (ret := (some .int)) (by decide) rfl (Nat.le_of_ble_eq_true rfl) ?_
  intro p e s m below meth c ls hx hb hr hts hown hlocks hml hK hA hG hS hl
  have hl : lv_has ls 4 [(0, .ref (L 162)), (1, .int a), (2, .int b), (3, .int t)] := hl
  have i162 : 162 < N := by omega
  have i163 : 163 < N := by omega
  have i164 : 164 < N := by omega
  have i165 : 165 < N := by omega
  have i166 : 166 < N := by omega
  have i167 : 167 < N := by omega
  have hf25 := hts (.fieldLink RX5 25 "SiloPadsModel" "thrown" "I") (by decide +kernel)
  have hinX5 : ∀ w ∈ u_ws RX5 TX5 12, w ∈ wsX5_flow := by decide +kernel
  refine lv_aload_n hx hb dX5_flow_0 rfl (lv_at hl 0 rfl) ?_
  refine lv_iconst (v := 0) hx hb dX5_flow_1 (by decide) ?_
  refine g_put (ci := 5) (C := RX5) (T := TX5) (M := 12) (ty := .int) hx hb hts hinX5 tyX5 tyX5_ok nmX5 hown hK hG hS i162 mW_o rfl 0 (by decide) hf25 rfl rfl rfl rfl rfl (Nat.le_of_ble_eq_true rfl) dX5_flow_2 rfl (fun H locs hG hS => ?_)
  have hG := hG.to mW_uo
  refine lv_iload_n hx hb dX5_flow_5 rfl (lv_at hl 1 rfl) ?_
  refine g_cSi (As := [.int a]) (rest := []) hx hb hml hown hts hK hA hG hS (k_X5_isSilo l D cy N L (mW cy L F 0 ms ma mv mn mb ml mp mw mr mq mh) a ) (g_cwS 1 hts gX5_flow_X5_isSilo rfl rfl rfl (by decide +kernel) ⟨Nat.le_of_ble_eq_true rfl, Nat.le_of_ble_eq_true rfl⟩) rfl rfl hl.1 (Nat.le_of_ble_eq_true rfl) dX5_flow_6 ⟨Nat.zero_le _, Nat.zero_le _⟩ (fun H locs hG hS => ?_)
  refine lv_if_eq (tgt := 19) hx hb dX5_flow_9 (by decide) (fun c_9 => ?_) (fun c_9 => ?_)
  · skip
    refine lv_aload_n hx hb dX5_flow_19 rfl (lv_at hl 0 rfl) ?_
    refine lv_iconst (v := 1) hx hb dX5_flow_20 (by decide) ?_
    refine g_cVi (As := [.int 1]) (rest := []) hx hb hml hown hts hK hA hG hS (k_X5_fails l D cy N L F hN 0 ms ma mv mn mb ml mp mw mr mq mh 1 ) (cwV 1 hts gX5_flow_X5_fails rfl rfl rfl (by decide +kernel) ⟨Nat.le_of_ble_eq_true rfl, Nat.le_of_ble_eq_true rfl⟩) i162 mW_o (ci := 5) rfl rfl rfl rfl hl.1 (Nat.le_of_ble_eq_true rfl) dX5_flow_21 ⟨Nat.zero_le _, Nat.zero_le _⟩ (fun H locs hG hS => ?_)
    exact g_iret hx hb hr hlocks hK hG hS rfl dX5_flow_24 ⟨rfl, rfl⟩
  · skip
    refine lv_iload_n hx hb dX5_flow_12 rfl (lv_at hl 2 rfl) ?_
    refine g_cSi (As := [.int b]) (rest := []) hx hb hml hown hts hK hA hG hS (k_X5_isShip l D cy N L (mW cy L F 0 ms ma mv mn mb ml mp mw mr mq mh) b ) (g_cwS 1 hts gX5_flow_X5_isShip rfl rfl rfl (by decide +kernel) ⟨Nat.le_of_ble_eq_true rfl, Nat.le_of_ble_eq_true rfl⟩) rfl rfl hl.1 (Nat.le_of_ble_eq_true rfl) dX5_flow_13 ⟨Nat.zero_le _, Nat.zero_le _⟩ (fun H locs hG hS => ?_)
    refine lv_if_ne (tgt := 25) hx hb dX5_flow_16 (by decide) (fun c_16 => ?_) (fun c_16 => ?_)
    · skip
      exact h.elim (fun h9 => absurd h9 c_9) (fun h9 => absurd h9 c_16)
    · skip
      refine lv_aload_n hx hb dX5_flow_19 rfl (lv_at hl 0 rfl) ?_
      refine lv_iconst (v := 1) hx hb dX5_flow_20 (by decide) ?_
      refine g_cVi (As := [.int 1]) (rest := []) hx hb hml hown hts hK hA hG hS (k_X5_fails l D cy N L F hN 0 ms ma mv mn mb ml mp mw mr mq mh 1 ) (cwV 1 hts gX5_flow_X5_fails rfl rfl rfl (by decide +kernel) ⟨Nat.le_of_ble_eq_true rfl, Nat.le_of_ble_eq_true rfl⟩) i162 mW_o (ci := 5) rfl rfl rfl rfl hl.1 (Nat.le_of_ble_eq_true rfl) dX5_flow_21 ⟨Nat.zero_le _, Nat.zero_le _⟩ (fun H locs hG hS => ?_)
      exact g_iret hx hb hr hlocks hK hG hS rfl dX5_flow_24 ⟨rfl, rfl⟩
set_option maxHeartbeats 4000000 in
set_option maxRecDepth 100000 in
theorem k_X5_unload_t2 (l : Launch) (D : va_G) (cy : Nat → ClassId) (N : Nat) (L : Nat → Nat) (F : Nat → va_E) (hN : 168 ≤ N) (mt : Int32) (ms ma mv : Nat → Int32) (mn : Int32) (mb : Nat → Int32) (ml mp mw : Int32) (mr : Nat → Int32) (mq : Int32) (mh : Int64) (k j : Nat) (t : Int32) (hk : k < 4) (hj : j < 6) (h : g_in t 1 500 = 0) : GM l D cy N L yX5_unload wsX5_unload ({ frames := 5, cells := 0, slots := 0, locals := 118 }) [.ref (L 162), .int (nI k), .int (nI j), .int t] (mW cy L F mt ms ma mv mn mb ml mp mw mr mq mh) (some (.int 0)) (mW cy L F 2 ms ma mv mn mb ml mp mw mr mq mh) := by
  refine GM.ofW (cc := cX5_unload) (maxL := 4) (ret := (some .int)) (by decide) rfl (Nat.le_of_ble_eq_true rfl) ?_
  intro p e s m below meth c ls hx hb hr hts hown hlocks hml hK hA hG hS hl
  have hl : lv_has ls 4 [(0, .ref (L 162)), (1, .int (nI k)), (2, .int (nI j)), (3, .int t)] := hl
  have i162 : 162 < N := by omega
  have i163 : 163 < N := by omega
  have i164 : 164 < N := by omega
  have i165 : 165 < N := by omega
  have i166 : 166 < N := by omega
  have i167 : 167 < N := by omega
  have hf25 := hts (.fieldLink RX5 25 "SiloPadsModel" "thrown" "I") (by decide +kernel)
  have hinX5 : ∀ w ∈ u_ws RX5 TX5 12, w ∈ wsX5_unload := by decide +kernel
  refine lv_aload_n hx hb dX5_unload_0 rfl (lv_at hl 0 rfl) ?_
  refine lv_iconst (v := 0) hx hb dX5_unload_1 (by decide) ?_
  refine g_put (ci := 5) (C := RX5) (T := TX5) (M := 12) (ty := .int) hx hb hts hinX5 tyX5 tyX5_ok nmX5 hown hK hG hS i162 mW_o rfl 0 (by decide) hf25 rfl rfl rfl rfl rfl (Nat.le_of_ble_eq_true rfl) dX5_unload_2 rfl (fun H locs hG hS => ?_)
  have hG := hG.to mW_uo
  refine lv_iload_n hx hb dX5_unload_5 rfl (lv_at hl 1 rfl) ?_
  refine g_cSi (As := [.int (nI k)]) (rest := []) hx hb hml hown hts hK hA hG hS (k_X5_isSilo l D cy N L (mW cy L F 0 ms ma mv mn mb ml mp mw mr mq mh) (nI k) ) (g_cwS 1 hts gX5_unload_X5_isSilo rfl rfl rfl (by decide +kernel) ⟨Nat.le_of_ble_eq_true rfl, Nat.le_of_ble_eq_true rfl⟩) rfl rfl hl.1 (Nat.le_of_ble_eq_true rfl) dX5_unload_6 ⟨Nat.zero_le _, Nat.zero_le _⟩ (fun H locs hG hS => ?_)
  refine lv_toI (y := 1) (g_in_silo hk) ?_
  refine lv_if_eq (tgt := 19) hx hb dX5_unload_9 (by decide) (fun c_9 => ?_) (fun c_9 => ?_)
  · skip
    exact absurd c_9 (by decide)
  · skip
    refine lv_iload_n hx hb dX5_unload_12 rfl (lv_at hl 2 rfl) ?_
    refine g_cSi (As := [.int (nI j)]) (rest := []) hx hb hml hown hts hK hA hG hS (k_X5_isShip l D cy N L (mW cy L F 0 ms ma mv mn mb ml mp mw mr mq mh) (nI j) ) (g_cwS 1 hts gX5_unload_X5_isShip rfl rfl rfl (by decide +kernel) ⟨Nat.le_of_ble_eq_true rfl, Nat.le_of_ble_eq_true rfl⟩) rfl rfl hl.1 (Nat.le_of_ble_eq_true rfl) dX5_unload_13 ⟨Nat.zero_le _, Nat.zero_le _⟩ (fun H locs hG hS => ?_)
    refine lv_toI (y := 1) (g_in_ship hj) ?_
    refine lv_if_ne (tgt := 25) hx hb dX5_unload_16 (by decide) (fun c_16 => ?_) (fun c_16 => ?_)
    · skip
      refine lv_iload_n hx hb dX5_unload_25 rfl (lv_at hl 3 rfl) ?_
      refine lv_iconst (v := 1) hx hb dX5_unload_26 (by decide) ?_
      refine lv_sipush (v := 500) hx hb dX5_unload_27 (by decide) ?_
      refine g_cSi (As := [.int t, .int 1, .int 500]) (rest := []) hx hb hml hown hts hK hA hG hS (k_X5_in l D cy N L (mW cy L F 0 ms ma mv mn mb ml mp mw mr mq mh) t 1 500 ) (g_cwS 3 hts gX5_unload_X5_in rfl rfl rfl (by decide +kernel) ⟨Nat.le_of_ble_eq_true rfl, Nat.le_of_ble_eq_true rfl⟩) rfl rfl hl.1 (Nat.le_of_ble_eq_true rfl) dX5_unload_30 ⟨Nat.zero_le _, Nat.zero_le _⟩ (fun H locs hG hS => ?_)
      refine lv_toI (y := 0) (h) ?_
      refine lv_if_ne (tgt := 42) hx hb dX5_unload_33 (by decide) (fun c_33 => ?_) (fun c_33 => ?_)
      · skip
        exact absurd c_33 (by decide)
      · skip
        refine lv_aload_n hx hb dX5_unload_36 rfl (lv_at hl 0 rfl) ?_
        refine lv_iconst (v := 2) hx hb dX5_unload_37 (by decide) ?_
        refine g_cVi (As := [.int 2]) (rest := []) hx hb hml hown hts hK hA hG hS (k_X5_fails l D cy N L F hN 0 ms ma mv mn mb ml mp mw mr mq mh 2 ) (cwV 1 hts gX5_unload_X5_fails rfl rfl rfl (by decide +kernel) ⟨Nat.le_of_ble_eq_true rfl, Nat.le_of_ble_eq_true rfl⟩) i162 mW_o (ci := 5) rfl rfl rfl rfl hl.1 (Nat.le_of_ble_eq_true rfl) dX5_unload_38 ⟨Nat.zero_le _, Nat.zero_le _⟩ (fun H locs hG hS => ?_)
        exact g_iret hx hb hr hlocks hK hG hS rfl dX5_unload_41 ⟨rfl, rfl⟩
    · skip
      exact absurd c_16 (by decide)
set_option maxHeartbeats 4000000 in
set_option maxRecDepth 100000 in
theorem k_X5_flow_t2 (l : Launch) (D : va_G) (cy : Nat → ClassId) (N : Nat) (L : Nat → Nat) (F : Nat → va_E) (hN : 168 ≤ N) (mt : Int32) (ms ma mv : Nat → Int32) (mn : Int32) (mb : Nat → Int32) (ml mp mw : Int32) (mr : Nat → Int32) (mq : Int32) (mh : Int64) (k j : Nat) (t : Int32) (hk : k < 4) (hj : j < 6) (h : g_in t 1 24 = 0) : GM l D cy N L yX5_flow wsX5_flow ({ frames := 6, cells := 0, slots := 0, locals := 139 }) [.ref (L 162), .int (nI k), .int (nI j), .int t] (mW cy L F mt ms ma mv mn mb ml mp mw mr mq mh) (some (.int 0)) (mW cy L F 2 ms ma mv mn mb ml mp mw mr mq mh) := by
  refine GM.ofW (cc := cX5_flow) (maxL := 4) (ret := (some .int)) (by decide) rfl (Nat.le_of_ble_eq_true rfl) ?_
  intro p e s m below meth c ls hx hb hr hts hown hlocks hml hK hA hG hS hl
  have hl : lv_has ls 4 [(0, .ref (L 162)), (1, .int (nI k)), (2, .int (nI j)), (3, .int t)] := hl
  have i162 : 162 < N := by omega
  have i163 : 163 < N := by omega
  have i164 : 164 < N := by omega
  have i165 : 165 < N := by omega
  have i166 : 166 < N := by omega
  have i167 : 167 < N := by omega
  have hf25 := hts (.fieldLink RX5 25 "SiloPadsModel" "thrown" "I") (by decide +kernel)
  have hinX5 : ∀ w ∈ u_ws RX5 TX5 12, w ∈ wsX5_flow := by decide +kernel
  refine lv_aload_n hx hb dX5_flow_0 rfl (lv_at hl 0 rfl) ?_
  refine lv_iconst (v := 0) hx hb dX5_flow_1 (by decide) ?_
  refine g_put (ci := 5) (C := RX5) (T := TX5) (M := 12) (ty := .int) hx hb hts hinX5 tyX5 tyX5_ok nmX5 hown hK hG hS i162 mW_o rfl 0 (by decide) hf25 rfl rfl rfl rfl rfl (Nat.le_of_ble_eq_true rfl) dX5_flow_2 rfl (fun H locs hG hS => ?_)
  have hG := hG.to mW_uo
  refine lv_iload_n hx hb dX5_flow_5 rfl (lv_at hl 1 rfl) ?_
  refine g_cSi (As := [.int (nI k)]) (rest := []) hx hb hml hown hts hK hA hG hS (k_X5_isSilo l D cy N L (mW cy L F 0 ms ma mv mn mb ml mp mw mr mq mh) (nI k) ) (g_cwS 1 hts gX5_flow_X5_isSilo rfl rfl rfl (by decide +kernel) ⟨Nat.le_of_ble_eq_true rfl, Nat.le_of_ble_eq_true rfl⟩) rfl rfl hl.1 (Nat.le_of_ble_eq_true rfl) dX5_flow_6 ⟨Nat.zero_le _, Nat.zero_le _⟩ (fun H locs hG hS => ?_)
  refine lv_toI (y := 1) (g_in_silo hk) ?_
  refine lv_if_eq (tgt := 19) hx hb dX5_flow_9 (by decide) (fun c_9 => ?_) (fun c_9 => ?_)
  · skip
    exact absurd c_9 (by decide)
  · skip
    refine lv_iload_n hx hb dX5_flow_12 rfl (lv_at hl 2 rfl) ?_
    refine g_cSi (As := [.int (nI j)]) (rest := []) hx hb hml hown hts hK hA hG hS (k_X5_isShip l D cy N L (mW cy L F 0 ms ma mv mn mb ml mp mw mr mq mh) (nI j) ) (g_cwS 1 hts gX5_flow_X5_isShip rfl rfl rfl (by decide +kernel) ⟨Nat.le_of_ble_eq_true rfl, Nat.le_of_ble_eq_true rfl⟩) rfl rfl hl.1 (Nat.le_of_ble_eq_true rfl) dX5_flow_13 ⟨Nat.zero_le _, Nat.zero_le _⟩ (fun H locs hG hS => ?_)
    refine lv_toI (y := 1) (g_in_ship hj) ?_
    refine lv_if_ne (tgt := 25) hx hb dX5_flow_16 (by decide) (fun c_16 => ?_) (fun c_16 => ?_)
    · skip
      refine lv_iload_n hx hb dX5_flow_25 rfl (lv_at hl 3 rfl) ?_
      refine lv_iconst (v := 1) hx hb dX5_flow_26 (by decide) ?_
      refine lv_bipush (v := 24) hx hb dX5_flow_27 (by decide) ?_
      refine g_cSi (As := [.int t, .int 1, .int 24]) (rest := []) hx hb hml hown hts hK hA hG hS (k_X5_in l D cy N L (mW cy L F 0 ms ma mv mn mb ml mp mw mr mq mh) t 1 24 ) (g_cwS 3 hts gX5_flow_X5_in rfl rfl rfl (by decide +kernel) ⟨Nat.le_of_ble_eq_true rfl, Nat.le_of_ble_eq_true rfl⟩) rfl rfl hl.1 (Nat.le_of_ble_eq_true rfl) dX5_flow_29 ⟨Nat.zero_le _, Nat.zero_le _⟩ (fun H locs hG hS => ?_)
      refine lv_toI (y := 0) (h) ?_
      refine lv_if_ne (tgt := 41) hx hb dX5_flow_32 (by decide) (fun c_32 => ?_) (fun c_32 => ?_)
      · skip
        exact absurd c_32 (by decide)
      · skip
        refine lv_aload_n hx hb dX5_flow_35 rfl (lv_at hl 0 rfl) ?_
        refine lv_iconst (v := 2) hx hb dX5_flow_36 (by decide) ?_
        refine g_cVi (As := [.int 2]) (rest := []) hx hb hml hown hts hK hA hG hS (k_X5_fails l D cy N L F hN 0 ms ma mv mn mb ml mp mw mr mq mh 2 ) (cwV 1 hts gX5_flow_X5_fails rfl rfl rfl (by decide +kernel) ⟨Nat.le_of_ble_eq_true rfl, Nat.le_of_ble_eq_true rfl⟩) i162 mW_o (ci := 5) rfl rfl rfl rfl hl.1 (Nat.le_of_ble_eq_true rfl) dX5_flow_37 ⟨Nat.zero_le _, Nat.zero_le _⟩ (fun H locs hG hS => ?_)
        exact g_iret hx hb hr hlocks hK hG hS rfl dX5_flow_40 ⟨rfl, rfl⟩
    · skip
      exact absurd c_16 (by decide)
set_option maxHeartbeats 4000000 in
set_option maxRecDepth 100000 in
theorem k_X5_ship_t1 (l : Launch) (D : va_G) (cy : Nat → ClassId) (N : Nat) (L : Nat → Nat) (F : Nat → va_E) (hN : 168 ≤ N) (mt : Int32) (ms ma mv : Nat → Int32) (mn : Int32) (mb : Nat → Int32) (ml mp mw : Int32) (mr : Nat → Int32) (mq : Int32) (mh : Int64) (a b t : Int32) (h : g_in a 0 5 = 0) : GM l D cy N L yX5_ship wsX5_ship ({ frames := 2, cells := 0, slots := 0, locals := 42 }) [.ref (L 162), .int a, .int b, .int t] (mW cy L F mt ms ma mv mn mb ml mp mw mr mq mh) (some (.int 0)) (mW cy L F 1 ms ma mv mn mb ml mp mw mr mq mh) := by
  refine GM.ofW (cc := cX5_ship) (maxL := 5) (ret := (some .int)) (by decide) rfl (Nat.le_of_ble_eq_true rfl) ?_
  intro p e s m below meth c ls hx hb hr hts hown hlocks hml hK hA hG hS hl
  have hl : lv_has ls 5 [(0, .ref (L 162)), (1, .int a), (2, .int b), (3, .int t)] := hl
  have i162 : 162 < N := by omega
  have i163 : 163 < N := by omega
  have i164 : 164 < N := by omega
  have i165 : 165 < N := by omega
  have i166 : 166 < N := by omega
  have i167 : 167 < N := by omega
  have hf25 := hts (.fieldLink RX5 25 "SiloPadsModel" "thrown" "I") (by decide +kernel)
  have hinX5 : ∀ w ∈ u_ws RX5 TX5 12, w ∈ wsX5_ship := by decide +kernel
  refine lv_aload_n hx hb dX5_ship_0 rfl (lv_at hl 0 rfl) ?_
  refine lv_iconst (v := 0) hx hb dX5_ship_1 (by decide) ?_
  refine g_put (ci := 5) (C := RX5) (T := TX5) (M := 12) (ty := .int) hx hb hts hinX5 tyX5 tyX5_ok nmX5 hown hK hG hS i162 mW_o rfl 0 (by decide) hf25 rfl rfl rfl rfl rfl (Nat.le_of_ble_eq_true rfl) dX5_ship_2 rfl (fun H locs hG hS => ?_)
  have hG := hG.to mW_uo
  refine lv_iload_n hx hb dX5_ship_5 rfl (lv_at hl 1 rfl) ?_
  refine g_cSi (As := [.int a]) (rest := []) hx hb hml hown hts hK hA hG hS (k_X5_isShip l D cy N L (mW cy L F 0 ms ma mv mn mb ml mp mw mr mq mh) a ) (g_cwS 1 hts gX5_ship_X5_isShip rfl rfl rfl (by decide +kernel) ⟨Nat.le_of_ble_eq_true rfl, Nat.le_of_ble_eq_true rfl⟩) rfl rfl hl.1 (Nat.le_of_ble_eq_true rfl) dX5_ship_6 ⟨Nat.zero_le _, Nat.zero_le _⟩ (fun H locs hG hS => ?_)
  refine lv_toI (y := 0) (h) ?_
  refine lv_if_ne (tgt := 18) hx hb dX5_ship_9 (by decide) (fun c_9 => ?_) (fun c_9 => ?_)
  · skip
    exact absurd c_9 (by decide)
  · skip
    refine lv_aload_n hx hb dX5_ship_12 rfl (lv_at hl 0 rfl) ?_
    refine lv_iconst (v := 1) hx hb dX5_ship_13 (by decide) ?_
    refine g_cVi (As := [.int 1]) (rest := []) hx hb hml hown hts hK hA hG hS (k_X5_fails l D cy N L F hN 0 ms ma mv mn mb ml mp mw mr mq mh 1 ) (cwV 1 hts gX5_ship_X5_fails rfl rfl rfl (by decide +kernel) ⟨Nat.le_of_ble_eq_true rfl, Nat.le_of_ble_eq_true rfl⟩) i162 mW_o (ci := 5) rfl rfl rfl rfl hl.1 (Nat.le_of_ble_eq_true rfl) dX5_ship_14 ⟨Nat.zero_le _, Nat.zero_le _⟩ (fun H locs hG hS => ?_)
    exact g_iret hx hb hr hlocks hK hG hS rfl dX5_ship_17 ⟨rfl, rfl⟩
set_option maxHeartbeats 4000000 in
set_option maxRecDepth 100000 in
theorem k_X5_ship_t2 (l : Launch) (D : va_G) (cy : Nat → ClassId) (N : Nat) (L : Nat → Nat) (F : Nat → va_E) (hN : 168 ≤ N) (mt : Int32) (ms ma mv : Nat → Int32) (mn : Int32) (mb : Nat → Int32) (ml mp mw : Int32) (mr : Nat → Int32) (mq : Int32) (mh : Int64) (j : Nat) (u t : Int32) (hj : j < 6) (h : g_in u 0 900 = 0 ∨ g_in t 0 u = 0) : GM l D cy N L yX5_ship wsX5_ship ({ frames := 2, cells := 0, slots := 0, locals := 42 }) [.ref (L 162), .int (nI j), .int u, .int t] (mW cy L F mt ms ma mv mn mb ml mp mw mr mq mh) (some (.int 0)) (mW cy L F 2 ms ma mv mn mb ml mp mw mr mq mh) := by
  refine GM.ofW (cc := cX5_ship) (maxL := 5) (ret := (some .int)) (by decide) rfl (Nat.le_of_ble_eq_true rfl) ?_
  intro p e s m below meth c ls hx hb hr hts hown hlocks hml hK hA hG hS hl
  have hl : lv_has ls 5 [(0, .ref (L 162)), (1, .int (nI j)), (2, .int u), (3, .int t)] := hl
  have i162 : 162 < N := by omega
  have i163 : 163 < N := by omega
  have i164 : 164 < N := by omega
  have i165 : 165 < N := by omega
  have i166 : 166 < N := by omega
  have i167 : 167 < N := by omega
  have hf25 := hts (.fieldLink RX5 25 "SiloPadsModel" "thrown" "I") (by decide +kernel)
  have hinX5 : ∀ w ∈ u_ws RX5 TX5 12, w ∈ wsX5_ship := by decide +kernel
  refine lv_aload_n hx hb dX5_ship_0 rfl (lv_at hl 0 rfl) ?_
  refine lv_iconst (v := 0) hx hb dX5_ship_1 (by decide) ?_
  refine g_put (ci := 5) (C := RX5) (T := TX5) (M := 12) (ty := .int) hx hb hts hinX5 tyX5 tyX5_ok nmX5 hown hK hG hS i162 mW_o rfl 0 (by decide) hf25 rfl rfl rfl rfl rfl (Nat.le_of_ble_eq_true rfl) dX5_ship_2 rfl (fun H locs hG hS => ?_)
  have hG := hG.to mW_uo
  refine lv_iload_n hx hb dX5_ship_5 rfl (lv_at hl 1 rfl) ?_
  refine g_cSi (As := [.int (nI j)]) (rest := []) hx hb hml hown hts hK hA hG hS (k_X5_isShip l D cy N L (mW cy L F 0 ms ma mv mn mb ml mp mw mr mq mh) (nI j) ) (g_cwS 1 hts gX5_ship_X5_isShip rfl rfl rfl (by decide +kernel) ⟨Nat.le_of_ble_eq_true rfl, Nat.le_of_ble_eq_true rfl⟩) rfl rfl hl.1 (Nat.le_of_ble_eq_true rfl) dX5_ship_6 ⟨Nat.zero_le _, Nat.zero_le _⟩ (fun H locs hG hS => ?_)
  refine lv_toI (y := 1) (g_in_ship hj) ?_
  refine lv_if_ne (tgt := 18) hx hb dX5_ship_9 (by decide) (fun c_9 => ?_) (fun c_9 => ?_)
  · skip
    refine lv_iload_n hx hb dX5_ship_18 rfl (lv_at hl 2 rfl) ?_
    refine lv_iconst (v := 0) hx hb dX5_ship_19 (by decide) ?_
    refine lv_sipush (v := 900) hx hb dX5_ship_20 (by decide) ?_
    refine g_cSi (As := [.int u, .int 0, .int 900]) (rest := []) hx hb hml hown hts hK hA hG hS (k_X5_in l D cy N L (mW cy L F 0 ms ma mv mn mb ml mp mw mr mq mh) u 0 900 ) (g_cwS 3 hts gX5_ship_X5_in rfl rfl rfl (by decide +kernel) ⟨Nat.le_of_ble_eq_true rfl, Nat.le_of_ble_eq_true rfl⟩) rfl rfl hl.1 (Nat.le_of_ble_eq_true rfl) dX5_ship_23 ⟨Nat.zero_le _, Nat.zero_le _⟩ (fun H locs hG hS => ?_)
    refine lv_if_eq (tgt := 38) hx hb dX5_ship_26 (by decide) (fun c_26 => ?_) (fun c_26 => ?_)
    · skip
      refine lv_aload_n hx hb dX5_ship_38 rfl (lv_at hl 0 rfl) ?_
      refine lv_iconst (v := 2) hx hb dX5_ship_39 (by decide) ?_
      refine g_cVi (As := [.int 2]) (rest := []) hx hb hml hown hts hK hA hG hS (k_X5_fails l D cy N L F hN 0 ms ma mv mn mb ml mp mw mr mq mh 2 ) (cwV 1 hts gX5_ship_X5_fails rfl rfl rfl (by decide +kernel) ⟨Nat.le_of_ble_eq_true rfl, Nat.le_of_ble_eq_true rfl⟩) i162 mW_o (ci := 5) rfl rfl rfl rfl hl.1 (Nat.le_of_ble_eq_true rfl) dX5_ship_40 ⟨Nat.zero_le _, Nat.zero_le _⟩ (fun H locs hG hS => ?_)
      exact g_iret hx hb hr hlocks hK hG hS rfl dX5_ship_43 ⟨rfl, rfl⟩
    · skip
      refine lv_iload_n hx hb dX5_ship_29 rfl (lv_at hl 3 rfl) ?_
      refine lv_iconst (v := 0) hx hb dX5_ship_30 (by decide) ?_
      refine lv_iload_n hx hb dX5_ship_31 rfl (lv_at hl 2 rfl) ?_
      refine g_cSi (As := [.int t, .int 0, .int u]) (rest := []) hx hb hml hown hts hK hA hG hS (k_X5_in l D cy N L (mW cy L F 0 ms ma mv mn mb ml mp mw mr mq mh) t 0 u ) (g_cwS 3 hts gX5_ship_X5_in rfl rfl rfl (by decide +kernel) ⟨Nat.le_of_ble_eq_true rfl, Nat.le_of_ble_eq_true rfl⟩) rfl rfl hl.1 (Nat.le_of_ble_eq_true rfl) dX5_ship_32 ⟨Nat.zero_le _, Nat.zero_le _⟩ (fun H locs hG hS => ?_)
      refine lv_if_ne (tgt := 44) hx hb dX5_ship_35 (by decide) (fun c_35 => ?_) (fun c_35 => ?_)
      · skip
        exact h.elim (fun h9 => absurd h9 c_26) (fun h9 => absurd h9 c_35)
      · skip
        refine lv_aload_n hx hb dX5_ship_38 rfl (lv_at hl 0 rfl) ?_
        refine lv_iconst (v := 2) hx hb dX5_ship_39 (by decide) ?_
        refine g_cVi (As := [.int 2]) (rest := []) hx hb hml hown hts hK hA hG hS (k_X5_fails l D cy N L F hN 0 ms ma mv mn mb ml mp mw mr mq mh 2 ) (cwV 1 hts gX5_ship_X5_fails rfl rfl rfl (by decide +kernel) ⟨Nat.le_of_ble_eq_true rfl, Nat.le_of_ble_eq_true rfl⟩) i162 mW_o (ci := 5) rfl rfl rfl rfl hl.1 (Nat.le_of_ble_eq_true rfl) dX5_ship_40 ⟨Nat.zero_le _, Nat.zero_le _⟩ (fun H locs hG hS => ?_)
        exact g_iret hx hb hr hlocks hK hG hS rfl dX5_ship_43 ⟨rfl, rfl⟩
  · skip
    exact absurd c_9 (by decide)
set_option maxHeartbeats 4000000 in
set_option maxRecDepth 100000 in
theorem k_X5_pads_t1 (l : Launch) (D : va_G) (cy : Nat → ClassId) (N : Nat) (L : Nat → Nat) (F : Nat → va_E) (hN : 168 ≤ N) (mt : Int32) (ms ma mv : Nat → Int32) (mn : Int32) (mb : Nat → Int32) (ml mp mw : Int32) (mr : Nat → Int32) (mq : Int32) (mh : Int64) (a b : Int32) (h : g_in a 0 3 = 0) : GM l D cy N L yX5_pads wsX5_pads ({ frames := 2, cells := 0, slots := 0, locals := 44 }) [.ref (L 162), .int a, .int b] (mW cy L F mt ms ma mv mn mb ml mp mw mr mq mh) (some (.int 0)) (mW cy L F 1 ms ma mv mn mb ml mp mw mr mq mh) := by
  refine GM.ofW (cc := cX5_pads) (maxL := 4) (ret := (some .int)) (by decide) rfl (Nat.le_of_ble_eq_true rfl) ?_
  intro p e s m below meth c ls hx hb hr hts hown hlocks hml hK hA hG hS hl
  have hl : lv_has ls 4 [(0, .ref (L 162)), (1, .int a), (2, .int b)] := hl
  have i162 : 162 < N := by omega
  have i163 : 163 < N := by omega
  have i164 : 164 < N := by omega
  have i165 : 165 < N := by omega
  have i166 : 166 < N := by omega
  have i167 : 167 < N := by omega
  have hf25 := hts (.fieldLink RX5 25 "SiloPadsModel" "thrown" "I") (by decide +kernel)
  have hinX5 : ∀ w ∈ u_ws RX5 TX5 12, w ∈ wsX5_pads := by decide +kernel
  refine lv_aload_n hx hb dX5_pads_0 rfl (lv_at hl 0 rfl) ?_
  refine lv_iconst (v := 0) hx hb dX5_pads_1 (by decide) ?_
  refine g_put (ci := 5) (C := RX5) (T := TX5) (M := 12) (ty := .int) hx hb hts hinX5 tyX5 tyX5_ok nmX5 hown hK hG hS i162 mW_o rfl 0 (by decide) hf25 rfl rfl rfl rfl rfl (Nat.le_of_ble_eq_true rfl) dX5_pads_2 rfl (fun H locs hG hS => ?_)
  have hG := hG.to mW_uo
  refine lv_iload_n hx hb dX5_pads_5 rfl (lv_at hl 1 rfl) ?_
  refine g_cSi (As := [.int a]) (rest := []) hx hb hml hown hts hK hA hG hS (k_X5_isSilo l D cy N L (mW cy L F 0 ms ma mv mn mb ml mp mw mr mq mh) a ) (g_cwS 1 hts gX5_pads_X5_isSilo rfl rfl rfl (by decide +kernel) ⟨Nat.le_of_ble_eq_true rfl, Nat.le_of_ble_eq_true rfl⟩) rfl rfl hl.1 (Nat.le_of_ble_eq_true rfl) dX5_pads_6 ⟨Nat.zero_le _, Nat.zero_le _⟩ (fun H locs hG hS => ?_)
  refine lv_toI (y := 0) (h) ?_
  refine lv_if_ne (tgt := 18) hx hb dX5_pads_9 (by decide) (fun c_9 => ?_) (fun c_9 => ?_)
  · skip
    exact absurd c_9 (by decide)
  · skip
    refine lv_aload_n hx hb dX5_pads_12 rfl (lv_at hl 0 rfl) ?_
    refine lv_iconst (v := 1) hx hb dX5_pads_13 (by decide) ?_
    refine g_cVi (As := [.int 1]) (rest := []) hx hb hml hown hts hK hA hG hS (k_X5_fails l D cy N L F hN 0 ms ma mv mn mb ml mp mw mr mq mh 1 ) (cwV 1 hts gX5_pads_X5_fails rfl rfl rfl (by decide +kernel) ⟨Nat.le_of_ble_eq_true rfl, Nat.le_of_ble_eq_true rfl⟩) i162 mW_o (ci := 5) rfl rfl rfl rfl hl.1 (Nat.le_of_ble_eq_true rfl) dX5_pads_14 ⟨Nat.zero_le _, Nat.zero_le _⟩ (fun H locs hG hS => ?_)
    exact g_iret hx hb hr hlocks hK hG hS rfl dX5_pads_17 ⟨rfl, rfl⟩
set_option maxHeartbeats 4000000 in
set_option maxRecDepth 100000 in
theorem k_X5_pads_t2 (l : Launch) (D : va_G) (cy : Nat → ClassId) (N : Nat) (L : Nat → Nat) (F : Nat → va_E) (hN : 168 ≤ N) (mt : Int32) (ms ma mv : Nat → Int32) (mn : Int32) (mb : Nat → Int32) (ml mp mw : Int32) (mr : Nat → Int32) (mq : Int32) (mh : Int64) (k : Nat) (b : Int32) (hk : k < 4) (h : g_in b 0 4 = 0) : GM l D cy N L yX5_pads wsX5_pads ({ frames := 2, cells := 0, slots := 0, locals := 44 }) [.ref (L 162), .int (nI k), .int b] (mW cy L F mt ms ma mv mn mb ml mp mw mr mq mh) (some (.int 0)) (mW cy L F 2 ms ma mv mn mb ml mp mw mr mq mh) := by
  refine GM.ofW (cc := cX5_pads) (maxL := 4) (ret := (some .int)) (by decide) rfl (Nat.le_of_ble_eq_true rfl) ?_
  intro p e s m below meth c ls hx hb hr hts hown hlocks hml hK hA hG hS hl
  have hl : lv_has ls 4 [(0, .ref (L 162)), (1, .int (nI k)), (2, .int b)] := hl
  have i162 : 162 < N := by omega
  have i163 : 163 < N := by omega
  have i164 : 164 < N := by omega
  have i165 : 165 < N := by omega
  have i166 : 166 < N := by omega
  have i167 : 167 < N := by omega
  have hf25 := hts (.fieldLink RX5 25 "SiloPadsModel" "thrown" "I") (by decide +kernel)
  have hinX5 : ∀ w ∈ u_ws RX5 TX5 12, w ∈ wsX5_pads := by decide +kernel
  refine lv_aload_n hx hb dX5_pads_0 rfl (lv_at hl 0 rfl) ?_
  refine lv_iconst (v := 0) hx hb dX5_pads_1 (by decide) ?_
  refine g_put (ci := 5) (C := RX5) (T := TX5) (M := 12) (ty := .int) hx hb hts hinX5 tyX5 tyX5_ok nmX5 hown hK hG hS i162 mW_o rfl 0 (by decide) hf25 rfl rfl rfl rfl rfl (Nat.le_of_ble_eq_true rfl) dX5_pads_2 rfl (fun H locs hG hS => ?_)
  have hG := hG.to mW_uo
  refine lv_iload_n hx hb dX5_pads_5 rfl (lv_at hl 1 rfl) ?_
  refine g_cSi (As := [.int (nI k)]) (rest := []) hx hb hml hown hts hK hA hG hS (k_X5_isSilo l D cy N L (mW cy L F 0 ms ma mv mn mb ml mp mw mr mq mh) (nI k) ) (g_cwS 1 hts gX5_pads_X5_isSilo rfl rfl rfl (by decide +kernel) ⟨Nat.le_of_ble_eq_true rfl, Nat.le_of_ble_eq_true rfl⟩) rfl rfl hl.1 (Nat.le_of_ble_eq_true rfl) dX5_pads_6 ⟨Nat.zero_le _, Nat.zero_le _⟩ (fun H locs hG hS => ?_)
  refine lv_toI (y := 1) (g_in_silo hk) ?_
  refine lv_if_ne (tgt := 18) hx hb dX5_pads_9 (by decide) (fun c_9 => ?_) (fun c_9 => ?_)
  · skip
    refine lv_iload_n hx hb dX5_pads_18 rfl (lv_at hl 2 rfl) ?_
    refine lv_iconst (v := 0) hx hb dX5_pads_19 (by decide) ?_
    refine lv_iconst (v := 4) hx hb dX5_pads_20 (by decide) ?_
    refine g_cSi (As := [.int b, .int 0, .int 4]) (rest := []) hx hb hml hown hts hK hA hG hS (k_X5_in l D cy N L (mW cy L F 0 ms ma mv mn mb ml mp mw mr mq mh) b 0 4 ) (g_cwS 3 hts gX5_pads_X5_in rfl rfl rfl (by decide +kernel) ⟨Nat.le_of_ble_eq_true rfl, Nat.le_of_ble_eq_true rfl⟩) rfl rfl hl.1 (Nat.le_of_ble_eq_true rfl) dX5_pads_21 ⟨Nat.zero_le _, Nat.zero_le _⟩ (fun H locs hG hS => ?_)
    refine lv_toI (y := 0) (h) ?_
    refine lv_if_ne (tgt := 33) hx hb dX5_pads_24 (by decide) (fun c_24 => ?_) (fun c_24 => ?_)
    · skip
      exact absurd c_24 (by decide)
    · skip
      refine lv_aload_n hx hb dX5_pads_27 rfl (lv_at hl 0 rfl) ?_
      refine lv_iconst (v := 2) hx hb dX5_pads_28 (by decide) ?_
      refine g_cVi (As := [.int 2]) (rest := []) hx hb hml hown hts hK hA hG hS (k_X5_fails l D cy N L F hN 0 ms ma mv mn mb ml mp mw mr mq mh 2 ) (cwV 1 hts gX5_pads_X5_fails rfl rfl rfl (by decide +kernel) ⟨Nat.le_of_ble_eq_true rfl, Nat.le_of_ble_eq_true rfl⟩) i162 mW_o (ci := 5) rfl rfl rfl rfl hl.1 (Nat.le_of_ble_eq_true rfl) dX5_pads_29 ⟨Nat.zero_le _, Nat.zero_le _⟩ (fun H locs hG hS => ?_)
      exact g_iret hx hb hr hlocks hK hG hS rfl dX5_pads_32 ⟨rfl, rfl⟩
  · skip
    exact absurd c_9 (by decide)
set_option maxHeartbeats 4000000 in
set_option maxRecDepth 100000 in
theorem k_X5_pads_t3 (l : Launch) (D : va_G) (cy : Nat → ClassId) (N : Nat) (L : Nat → Nat) (F : Nat → va_E) (hN : 168 ≤ N) (mt : Int32) (ms ma mv : Nat → Int32) (mn : Int32) (mb : Nat → Int32) (ml mp mw : Int32) (mr : Nat → Int32) (mq : Int32) (mh : Int64) (k : Nat) (b : Int32) (hk : k < 4) (h : g_in b 0 4 = 1) (hbl : ¬ g_padsOn ms 4 - ms (10 + 24 * k + 0) + b ≤ ms 6) : GM l D cy N L yX5_pads wsX5_pads ({ frames := 2, cells := 0, slots := 0, locals := 44 }) [.ref (L 162), .int (nI k), .int b] (mW cy L F mt ms ma mv mn mb ml mp mw mr mq mh) (some (.int 0)) (mW cy L F 3 ms ma mv mn mb ml mp mw mr mq mh) := by
  refine GM.ofW (cc := cX5_pads) (maxL := 4) (ret := (some .int)) (by decide) rfl (Nat.le_of_ble_eq_true rfl) ?_
  intro p e s m below meth c ls hx hb hr hts hown hlocks hml hK hA hG hS hl
  have hl : lv_has ls 4 [(0, .ref (L 162)), (1, .int (nI k)), (2, .int b)] := hl
  have i162 : 162 < N := by omega
  have i163 : 163 < N := by omega
  have i164 : 164 < N := by omega
  have i165 : 165 < N := by omega
  have i166 : 166 < N := by omega
  have i167 : 167 < N := by omega
  have hf25 := hts (.fieldLink RX5 25 "SiloPadsModel" "thrown" "I") (by decide +kernel)
  have hinX5 : ∀ w ∈ u_ws RX5 TX5 12, w ∈ wsX5_pads := by decide +kernel
  have hf7 := hts (.fieldLink RX5 7 "SiloPadsModel" "s" "[I") (by decide +kernel)
  refine lv_aload_n hx hb dX5_pads_0 rfl (lv_at hl 0 rfl) ?_
  refine lv_iconst (v := 0) hx hb dX5_pads_1 (by decide) ?_
  refine g_put (ci := 5) (C := RX5) (T := TX5) (M := 12) (ty := .int) hx hb hts hinX5 tyX5 tyX5_ok nmX5 hown hK hG hS i162 mW_o rfl 0 (by decide) hf25 rfl rfl rfl rfl rfl (Nat.le_of_ble_eq_true rfl) dX5_pads_2 rfl (fun H locs hG hS => ?_)
  have hG := hG.to mW_uo
  refine lv_iload_n hx hb dX5_pads_5 rfl (lv_at hl 1 rfl) ?_
  refine g_cSi (As := [.int (nI k)]) (rest := []) hx hb hml hown hts hK hA hG hS (k_X5_isSilo l D cy N L (mW cy L F 0 ms ma mv mn mb ml mp mw mr mq mh) (nI k) ) (g_cwS 1 hts gX5_pads_X5_isSilo rfl rfl rfl (by decide +kernel) ⟨Nat.le_of_ble_eq_true rfl, Nat.le_of_ble_eq_true rfl⟩) rfl rfl hl.1 (Nat.le_of_ble_eq_true rfl) dX5_pads_6 ⟨Nat.zero_le _, Nat.zero_le _⟩ (fun H locs hG hS => ?_)
  refine lv_toI (y := 1) (g_in_silo hk) ?_
  refine lv_if_ne (tgt := 18) hx hb dX5_pads_9 (by decide) (fun c_9 => ?_) (fun c_9 => ?_)
  · skip
    refine lv_iload_n hx hb dX5_pads_18 rfl (lv_at hl 2 rfl) ?_
    refine lv_iconst (v := 0) hx hb dX5_pads_19 (by decide) ?_
    refine lv_iconst (v := 4) hx hb dX5_pads_20 (by decide) ?_
    refine g_cSi (As := [.int b, .int 0, .int 4]) (rest := []) hx hb hml hown hts hK hA hG hS (k_X5_in l D cy N L (mW cy L F 0 ms ma mv mn mb ml mp mw mr mq mh) b 0 4 ) (g_cwS 3 hts gX5_pads_X5_in rfl rfl rfl (by decide +kernel) ⟨Nat.le_of_ble_eq_true rfl, Nat.le_of_ble_eq_true rfl⟩) rfl rfl hl.1 (Nat.le_of_ble_eq_true rfl) dX5_pads_21 ⟨Nat.zero_le _, Nat.zero_le _⟩ (fun H locs hG hS => ?_)
    refine lv_toI (y := 1) (h) ?_
    refine lv_if_ne (tgt := 33) hx hb dX5_pads_24 (by decide) (fun c_24 => ?_) (fun c_24 => ?_)
    · skip
      refine lv_aload_n hx hb dX5_pads_33 rfl (lv_at hl 0 rfl) ?_
      refine lv_iload_n hx hb dX5_pads_34 rfl (lv_at hl 1 rfl) ?_
      refine lv_iconst (v := 0) hx hb dX5_pads_35 (by decide) ?_
      refine g_cVi (As := [.int (nI k), .int 0]) (rest := []) hx hb hml hown hts hK hA hG hS (k_X5_of l D cy N L F hN 0 ms ma mv mn mb ml mp mw mr mq mh k 0 (by omega)) (cwV 2 hts gX5_pads_X5_of rfl rfl rfl (by decide +kernel) ⟨Nat.le_of_ble_eq_true rfl, Nat.le_of_ble_eq_true rfl⟩) i162 mW_o (ci := 5) rfl rfl rfl rfl hl.1 (Nat.le_of_ble_eq_true rfl) dX5_pads_36 ⟨Nat.zero_le _, Nat.zero_le _⟩ (fun H locs hG hS => ?_)
      refine lv_istore_n (lv' := [(3, .int (ms (10 + 24 * k + 0))), (0, .ref (L 162)), (1, .int (nI k)), (2, .int b)]) hx hb dX5_pads_39 rfl hl (by decide) rfl (fun ls hl => ?_)
      refine lv_aload_n hx hb dX5_pads_40 rfl (lv_at hl 1 rfl) ?_
      refine g_cVi (As := []) (rest := []) hx hb hml hown hts hK hA hG hS (k_X5_padsOn l D cy N L F hN 0 ms ma mv mn mb ml mp mw mr mq mh  ) (cwV 0 hts gX5_pads_X5_padsOn rfl rfl rfl (by decide +kernel) ⟨Nat.le_of_ble_eq_true rfl, Nat.le_of_ble_eq_true rfl⟩) i162 mW_o (ci := 5) rfl rfl rfl rfl hl.1 (Nat.le_of_ble_eq_true rfl) dX5_pads_41 ⟨Nat.zero_le _, Nat.zero_le _⟩ (fun H locs hG hS => ?_)
      refine lv_iload_n hx hb dX5_pads_44 rfl (lv_at hl 0 rfl) ?_
      refine lv_isub hx hb dX5_pads_45 ?_
      refine lv_iload_n hx hb dX5_pads_46 rfl (lv_at hl 3 rfl) ?_
      refine lv_iadd hx hb dX5_pads_47 ?_
      refine lv_aload_n hx hb dX5_pads_48 rfl (lv_at hl 1 rfl) ?_
      refine g_get (ci := 5) (C := RX5) (T := TX5) (M := 12) hx hb hts hinX5 hown hK hG i162 mW_o rfl 1 (by decide) hf7 rfl rfl dX5_pads_49 ?_
      refine lv_bipush (v := 6) hx hb dX5_pads_52 (by decide) ?_
      refine g_iald hx hb hK hG i163 mW_a163 (k := 6) rfl (by omega) (by decide) dX5_pads_54 ?_
      refine lv_icmp_le (tgt := 64) hx hb dX5_pads_55 (by decide) (fun c_55 => ?_) (fun c_55 => ?_)
      · skip
        exact absurd c_55 hbl
      · skip
        refine lv_aload_n hx hb dX5_pads_58 rfl (lv_at hl 1 rfl) ?_
        refine lv_iconst (v := 3) hx hb dX5_pads_59 (by decide) ?_
        refine g_cVi (As := [.int 3]) (rest := []) hx hb hml hown hts hK hA hG hS (k_X5_fails l D cy N L F hN 0 ms ma mv mn mb ml mp mw mr mq mh 3 ) (cwV 1 hts gX5_pads_X5_fails rfl rfl rfl (by decide +kernel) ⟨Nat.le_of_ble_eq_true rfl, Nat.le_of_ble_eq_true rfl⟩) i162 mW_o (ci := 5) rfl rfl rfl rfl hl.1 (Nat.le_of_ble_eq_true rfl) dX5_pads_60 ⟨Nat.zero_le _, Nat.zero_le _⟩ (fun H locs hG hS => ?_)
        exact g_iret hx hb hr hlocks hK hG hS rfl dX5_pads_63 ⟨rfl, rfl⟩
    · skip
      exact absurd c_24 (by decide)
  · skip
    exact absurd c_9 (by decide)
set_option maxHeartbeats 4000000 in
set_option maxRecDepth 100000 in
theorem k_X5_shake_t1 (l : Launch) (D : va_G) (cy : Nat → ClassId) (N : Nat) (L : Nat → Nat) (F : Nat → va_E) (hN : 168 ≤ N) (mt : Int32) (ms ma mv : Nat → Int32) (mn : Int32) (mb : Nat → Int32) (ml mp mw : Int32) (mr : Nat → Int32) (mq : Int32) (mh : Int64) (a : Int32) (h : g_in a 0 3 = 0) : GM l D cy N L yX5_shake wsX5_shake ({ frames := 5, cells := 0, slots := 0, locals := 112 }) [.ref (L 162), .int a] (mW cy L F mt ms ma mv mn mb ml mp mw mr mq mh) (some (.int 0)) (mW cy L F 1 ms ma mv mn mb ml mp mw mr mq mh) := by
  refine GM.ofW (cc := cX5_shake) (maxL := 2) (ret := (some .int)) (by decide) rfl (Nat.le_of_ble_eq_true rfl) ?_
  intro p e s m below meth c ls hx hb hr hts hown hlocks hml hK hA hG hS hl
  have hl : lv_has ls 2 [(0, .ref (L 162)), (1, .int a)] := hl
  have i162 : 162 < N := by omega
  have i163 : 163 < N := by omega
  have i164 : 164 < N := by omega
  have i165 : 165 < N := by omega
  have i166 : 166 < N := by omega
  have i167 : 167 < N := by omega
  have hf25 := hts (.fieldLink RX5 25 "SiloPadsModel" "thrown" "I") (by decide +kernel)
  have hinX5 : ∀ w ∈ u_ws RX5 TX5 12, w ∈ wsX5_shake := by decide +kernel
  refine lv_aload_n hx hb dX5_shake_0 rfl (lv_at hl 0 rfl) ?_
  refine lv_iconst (v := 0) hx hb dX5_shake_1 (by decide) ?_
  refine g_put (ci := 5) (C := RX5) (T := TX5) (M := 12) (ty := .int) hx hb hts hinX5 tyX5 tyX5_ok nmX5 hown hK hG hS i162 mW_o rfl 0 (by decide) hf25 rfl rfl rfl rfl rfl (Nat.le_of_ble_eq_true rfl) dX5_shake_2 rfl (fun H locs hG hS => ?_)
  have hG := hG.to mW_uo
  refine lv_iload_n hx hb dX5_shake_5 rfl (lv_at hl 1 rfl) ?_
  refine g_cSi (As := [.int a]) (rest := []) hx hb hml hown hts hK hA hG hS (k_X5_isSilo l D cy N L (mW cy L F 0 ms ma mv mn mb ml mp mw mr mq mh) a ) (g_cwS 1 hts gX5_shake_X5_isSilo rfl rfl rfl (by decide +kernel) ⟨Nat.le_of_ble_eq_true rfl, Nat.le_of_ble_eq_true rfl⟩) rfl rfl hl.1 (Nat.le_of_ble_eq_true rfl) dX5_shake_6 ⟨Nat.zero_le _, Nat.zero_le _⟩ (fun H locs hG hS => ?_)
  refine lv_toI (y := 0) (h) ?_
  refine lv_if_ne (tgt := 18) hx hb dX5_shake_9 (by decide) (fun c_9 => ?_) (fun c_9 => ?_)
  · skip
    exact absurd c_9 (by decide)
  · skip
    refine lv_aload_n hx hb dX5_shake_12 rfl (lv_at hl 0 rfl) ?_
    refine lv_iconst (v := 1) hx hb dX5_shake_13 (by decide) ?_
    refine g_cVi (As := [.int 1]) (rest := []) hx hb hml hown hts hK hA hG hS (k_X5_fails l D cy N L F hN 0 ms ma mv mn mb ml mp mw mr mq mh 1 ) (cwV 1 hts gX5_shake_X5_fails rfl rfl rfl (by decide +kernel) ⟨Nat.le_of_ble_eq_true rfl, Nat.le_of_ble_eq_true rfl⟩) i162 mW_o (ci := 5) rfl rfl rfl rfl hl.1 (Nat.le_of_ble_eq_true rfl) dX5_shake_14 ⟨Nat.zero_le _, Nat.zero_le _⟩ (fun H locs hG hS => ?_)
    exact g_iret hx hb hr hlocks hK hG hS rfl dX5_shake_17 ⟨rfl, rfl⟩
set_option maxHeartbeats 4000000 in
set_option maxRecDepth 100000 in
theorem k_X5_shake_t2 (l : Launch) (D : va_G) (cy : Nat → ClassId) (N : Nat) (L : Nat → Nat) (F : Nat → va_E) (hN : 168 ≤ N) (mt : Int32) (ms ma mv : Nat → Int32) (mn : Int32) (mb : Nat → Int32) (ml mp mw : Int32) (mr : Nat → Int32) (mq : Int32) (mh : Int64) (k : Nat) (hk : k < 4) (h : ms (10 + 24 * k + 3) = 0) : GM l D cy N L yX5_shake wsX5_shake ({ frames := 5, cells := 0, slots := 0, locals := 112 }) [.ref (L 162), .int (nI k)] (mW cy L F mt ms ma mv mn mb ml mp mw mr mq mh) (some (.int 0)) (mW cy L F 2 ms ma mv mn mb ml mp mw mr mq mh) := by
  refine GM.ofW (cc := cX5_shake) (maxL := 2) (ret := (some .int)) (by decide) rfl (Nat.le_of_ble_eq_true rfl) ?_
  intro p e s m below meth c ls hx hb hr hts hown hlocks hml hK hA hG hS hl
  have hl : lv_has ls 2 [(0, .ref (L 162)), (1, .int (nI k))] := hl
  have i162 : 162 < N := by omega
  have i163 : 163 < N := by omega
  have i164 : 164 < N := by omega
  have i165 : 165 < N := by omega
  have i166 : 166 < N := by omega
  have i167 : 167 < N := by omega
  have hf25 := hts (.fieldLink RX5 25 "SiloPadsModel" "thrown" "I") (by decide +kernel)
  have hinX5 : ∀ w ∈ u_ws RX5 TX5 12, w ∈ wsX5_shake := by decide +kernel
  refine lv_aload_n hx hb dX5_shake_0 rfl (lv_at hl 0 rfl) ?_
  refine lv_iconst (v := 0) hx hb dX5_shake_1 (by decide) ?_
  refine g_put (ci := 5) (C := RX5) (T := TX5) (M := 12) (ty := .int) hx hb hts hinX5 tyX5 tyX5_ok nmX5 hown hK hG hS i162 mW_o rfl 0 (by decide) hf25 rfl rfl rfl rfl rfl (Nat.le_of_ble_eq_true rfl) dX5_shake_2 rfl (fun H locs hG hS => ?_)
  have hG := hG.to mW_uo
  refine lv_iload_n hx hb dX5_shake_5 rfl (lv_at hl 1 rfl) ?_
  refine g_cSi (As := [.int (nI k)]) (rest := []) hx hb hml hown hts hK hA hG hS (k_X5_isSilo l D cy N L (mW cy L F 0 ms ma mv mn mb ml mp mw mr mq mh) (nI k) ) (g_cwS 1 hts gX5_shake_X5_isSilo rfl rfl rfl (by decide +kernel) ⟨Nat.le_of_ble_eq_true rfl, Nat.le_of_ble_eq_true rfl⟩) rfl rfl hl.1 (Nat.le_of_ble_eq_true rfl) dX5_shake_6 ⟨Nat.zero_le _, Nat.zero_le _⟩ (fun H locs hG hS => ?_)
  refine lv_toI (y := 1) (g_in_silo hk) ?_
  refine lv_if_ne (tgt := 18) hx hb dX5_shake_9 (by decide) (fun c_9 => ?_) (fun c_9 => ?_)
  · skip
    refine lv_aload_n hx hb dX5_shake_18 rfl (lv_at hl 0 rfl) ?_
    refine lv_iload_n hx hb dX5_shake_19 rfl (lv_at hl 1 rfl) ?_
    refine lv_iconst (v := 3) hx hb dX5_shake_20 (by decide) ?_
    refine g_cVi (As := [.int (nI k), .int 3]) (rest := []) hx hb hml hown hts hK hA hG hS (k_X5_of l D cy N L F hN 0 ms ma mv mn mb ml mp mw mr mq mh k 3 (by omega)) (cwV 2 hts gX5_shake_X5_of rfl rfl rfl (by decide +kernel) ⟨Nat.le_of_ble_eq_true rfl, Nat.le_of_ble_eq_true rfl⟩) i162 mW_o (ci := 5) rfl rfl rfl rfl hl.1 (Nat.le_of_ble_eq_true rfl) dX5_shake_21 ⟨Nat.zero_le _, Nat.zero_le _⟩ (fun H locs hG hS => ?_)
    refine lv_toI (y := 0) (h) ?_
    refine lv_if_ne (tgt := 33) hx hb dX5_shake_24 (by decide) (fun c_24 => ?_) (fun c_24 => ?_)
    · skip
      exact absurd c_24 (by decide)
    · skip
      refine lv_aload_n hx hb dX5_shake_27 rfl (lv_at hl 0 rfl) ?_
      refine lv_iconst (v := 2) hx hb dX5_shake_28 (by decide) ?_
      refine g_cVi (As := [.int 2]) (rest := []) hx hb hml hown hts hK hA hG hS (k_X5_fails l D cy N L F hN 0 ms ma mv mn mb ml mp mw mr mq mh 2 ) (cwV 1 hts gX5_shake_X5_fails rfl rfl rfl (by decide +kernel) ⟨Nat.le_of_ble_eq_true rfl, Nat.le_of_ble_eq_true rfl⟩) i162 mW_o (ci := 5) rfl rfl rfl rfl hl.1 (Nat.le_of_ble_eq_true rfl) dX5_shake_29 ⟨Nat.zero_le _, Nat.zero_le _⟩ (fun H locs hG hS => ?_)
      exact g_iret hx hb hr hlocks hK hG hS rfl dX5_shake_32 ⟨rfl, rfl⟩
  · skip
    exact absurd c_9 (by decide)
set_option maxHeartbeats 4000000 in
set_option maxRecDepth 100000 in
theorem k_X5_pass_t1 (l : Launch) (D : va_G) (cy : Nat → ClassId) (N : Nat) (L : Nat → Nat) (F : Nat → va_E) (hN : 168 ≤ N) (mt : Int32) (ms ma mv : Nat → Int32) (mn : Int32) (mb : Nat → Int32) (ml mp mw : Int32) (mr : Nat → Int32) (mq : Int32) (mh : Int64) (a : Int32) (h : g_in a 1 30 = 0) : GM l D cy N L yX5_pass wsX5_pass ({ frames := 6, cells := 0, slots := 0, locals := 134 }) [.ref (L 162), .int a] (mW cy L F mt ms ma mv mn mb ml mp mw mr mq mh) (some (.int 0)) (mW cy L F 1 ms ma mv mn mb ml mp mw mr mq mh) := by
  refine GM.ofW (cc := cX5_pass) (maxL := 2) (ret := (some .int)) (by decide) rfl (Nat.le_of_ble_eq_true rfl) ?_
  intro p e s m below meth c ls hx hb hr hts hown hlocks hml hK hA hG hS hl
  have hl : lv_has ls 2 [(0, .ref (L 162)), (1, .int a)] := hl
  have i162 : 162 < N := by omega
  have i163 : 163 < N := by omega
  have i164 : 164 < N := by omega
  have i165 : 165 < N := by omega
  have i166 : 166 < N := by omega
  have i167 : 167 < N := by omega
  have hf25 := hts (.fieldLink RX5 25 "SiloPadsModel" "thrown" "I") (by decide +kernel)
  have hinX5 : ∀ w ∈ u_ws RX5 TX5 12, w ∈ wsX5_pass := by decide +kernel
  refine lv_aload_n hx hb dX5_pass_0 rfl (lv_at hl 0 rfl) ?_
  refine lv_iconst (v := 0) hx hb dX5_pass_1 (by decide) ?_
  refine g_put (ci := 5) (C := RX5) (T := TX5) (M := 12) (ty := .int) hx hb hts hinX5 tyX5 tyX5_ok nmX5 hown hK hG hS i162 mW_o rfl 0 (by decide) hf25 rfl rfl rfl rfl rfl (Nat.le_of_ble_eq_true rfl) dX5_pass_2 rfl (fun H locs hG hS => ?_)
  have hG := hG.to mW_uo
  refine lv_iload_n hx hb dX5_pass_5 rfl (lv_at hl 1 rfl) ?_
  refine lv_iconst (v := 1) hx hb dX5_pass_6 (by decide) ?_
  refine lv_bipush (v := 30) hx hb dX5_pass_7 (by decide) ?_
  refine g_cSi (As := [.int a, .int 1, .int 30]) (rest := []) hx hb hml hown hts hK hA hG hS (k_X5_in l D cy N L (mW cy L F 0 ms ma mv mn mb ml mp mw mr mq mh) a 1 30 ) (g_cwS 3 hts gX5_pass_X5_in rfl rfl rfl (by decide +kernel) ⟨Nat.le_of_ble_eq_true rfl, Nat.le_of_ble_eq_true rfl⟩) rfl rfl hl.1 (Nat.le_of_ble_eq_true rfl) dX5_pass_9 ⟨Nat.zero_le _, Nat.zero_le _⟩ (fun H locs hG hS => ?_)
  refine lv_toI (y := 0) (h) ?_
  refine lv_if_ne (tgt := 21) hx hb dX5_pass_12 (by decide) (fun c_12 => ?_) (fun c_12 => ?_)
  · skip
    exact absurd c_12 (by decide)
  · skip
    refine lv_aload_n hx hb dX5_pass_15 rfl (lv_at hl 0 rfl) ?_
    refine lv_iconst (v := 1) hx hb dX5_pass_16 (by decide) ?_
    refine g_cVi (As := [.int 1]) (rest := []) hx hb hml hown hts hK hA hG hS (k_X5_fails l D cy N L F hN 0 ms ma mv mn mb ml mp mw mr mq mh 1 ) (cwV 1 hts gX5_pass_X5_fails rfl rfl rfl (by decide +kernel) ⟨Nat.le_of_ble_eq_true rfl, Nat.le_of_ble_eq_true rfl⟩) i162 mW_o (ci := 5) rfl rfl rfl rfl hl.1 (Nat.le_of_ble_eq_true rfl) dX5_pass_17 ⟨Nat.zero_le _, Nat.zero_le _⟩ (fun H locs hG hS => ?_)
    exact g_iret hx hb hr hlocks hK hG hS rfl dX5_pass_20 ⟨rfl, rfl⟩
set_option maxHeartbeats 4000000 in
set_option maxRecDepth 100000 in
theorem k_X5_set_t1 (l : Launch) (D : va_G) (cy : Nat → ClassId) (N : Nat) (L : Nat → Nat) (F : Nat → va_E) (hN : 168 ≤ N) (mt : Int32) (ms ma mv : Nat → Int32) (mn : Int32) (mb : Nat → Int32) (ml mp mw : Int32) (mr : Nat → Int32) (mq : Int32) (mh : Int64) (a b : Int32) (h : g_in a 0 3 = 0) : GM l D cy N L yX5_set wsX5_set ({ frames := 2, cells := 0, slots := 0, locals := 44 }) [.ref (L 162), .int a, .int b] (mW cy L F mt ms ma mv mn mb ml mp mw mr mq mh) (some (.int 0)) (mW cy L F 1 ms ma mv mn mb ml mp mw mr mq mh) := by
  refine GM.ofW (cc := cX5_set) (maxL := 4) (ret := (some .int)) (by decide) rfl (Nat.le_of_ble_eq_true rfl) ?_
  intro p e s m below meth c ls hx hb hr hts hown hlocks hml hK hA hG hS hl
  have hl : lv_has ls 4 [(0, .ref (L 162)), (1, .int a), (2, .int b)] := hl
  have i162 : 162 < N := by omega
  have i163 : 163 < N := by omega
  have i164 : 164 < N := by omega
  have i165 : 165 < N := by omega
  have i166 : 166 < N := by omega
  have i167 : 167 < N := by omega
  have hf25 := hts (.fieldLink RX5 25 "SiloPadsModel" "thrown" "I") (by decide +kernel)
  have hinX5 : ∀ w ∈ u_ws RX5 TX5 12, w ∈ wsX5_set := by decide +kernel
  refine lv_aload_n hx hb dX5_set_0 rfl (lv_at hl 0 rfl) ?_
  refine lv_iconst (v := 0) hx hb dX5_set_1 (by decide) ?_
  refine g_put (ci := 5) (C := RX5) (T := TX5) (M := 12) (ty := .int) hx hb hts hinX5 tyX5 tyX5_ok nmX5 hown hK hG hS i162 mW_o rfl 0 (by decide) hf25 rfl rfl rfl rfl rfl (Nat.le_of_ble_eq_true rfl) dX5_set_2 rfl (fun H locs hG hS => ?_)
  have hG := hG.to mW_uo
  refine lv_iload_n hx hb dX5_set_5 rfl (lv_at hl 1 rfl) ?_
  refine lv_iconst (v := 0) hx hb dX5_set_6 (by decide) ?_
  refine lv_iconst (v := 3) hx hb dX5_set_7 (by decide) ?_
  refine g_cSi (As := [.int a, .int 0, .int 3]) (rest := []) hx hb hml hown hts hK hA hG hS (k_X5_in l D cy N L (mW cy L F 0 ms ma mv mn mb ml mp mw mr mq mh) a 0 3 ) (g_cwS 3 hts gX5_set_X5_in rfl rfl rfl (by decide +kernel) ⟨Nat.le_of_ble_eq_true rfl, Nat.le_of_ble_eq_true rfl⟩) rfl rfl hl.1 (Nat.le_of_ble_eq_true rfl) dX5_set_8 ⟨Nat.zero_le _, Nat.zero_le _⟩ (fun H locs hG hS => ?_)
  refine lv_toI (y := 0) (h) ?_
  refine lv_if_ne (tgt := 20) hx hb dX5_set_11 (by decide) (fun c_11 => ?_) (fun c_11 => ?_)
  · skip
    exact absurd c_11 (by decide)
  · skip
    refine lv_aload_n hx hb dX5_set_14 rfl (lv_at hl 0 rfl) ?_
    refine lv_iconst (v := 1) hx hb dX5_set_15 (by decide) ?_
    refine g_cVi (As := [.int 1]) (rest := []) hx hb hml hown hts hK hA hG hS (k_X5_fails l D cy N L F hN 0 ms ma mv mn mb ml mp mw mr mq mh 1 ) (cwV 1 hts gX5_set_X5_fails rfl rfl rfl (by decide +kernel) ⟨Nat.le_of_ble_eq_true rfl, Nat.le_of_ble_eq_true rfl⟩) i162 mW_o (ci := 5) rfl rfl rfl rfl hl.1 (Nat.le_of_ble_eq_true rfl) dX5_set_16 ⟨Nat.zero_le _, Nat.zero_le _⟩ (fun H locs hG hS => ?_)
    exact g_iret hx hb hr hlocks hK hG hS rfl dX5_set_19 ⟨rfl, rfl⟩
set_option maxHeartbeats 4000000 in
set_option maxRecDepth 100000 in
theorem k_X5_set_t2 (l : Launch) (D : va_G) (cy : Nat → ClassId) (N : Nat) (L : Nat → Nat) (F : Nat → va_E) (hN : 168 ≤ N) (mt : Int32) (ms ma mv : Nat → Int32) (mn : Int32) (mb : Nat → Int32) (ml mp mw : Int32) (mr : Nat → Int32) (mq : Int32) (mh : Int64) (a b : Int32) (h0 : g_in a 0 3 = 1) (h : g_in b (g_least a) (g_most a) = 0) : GM l D cy N L yX5_set wsX5_set ({ frames := 2, cells := 0, slots := 0, locals := 44 }) [.ref (L 162), .int a, .int b] (mW cy L F mt ms ma mv mn mb ml mp mw mr mq mh) (some (.int 0)) (mW cy L F 2 ms ma mv mn mb ml mp mw mr mq mh) := by
  refine GM.ofW (cc := cX5_set) (maxL := 4) (ret := (some .int)) (by decide) rfl (Nat.le_of_ble_eq_true rfl) ?_
  intro p e s m below meth c ls hx hb hr hts hown hlocks hml hK hA hG hS hl
  have hl : lv_has ls 4 [(0, .ref (L 162)), (1, .int a), (2, .int b)] := hl
  have i162 : 162 < N := by omega
  have i163 : 163 < N := by omega
  have i164 : 164 < N := by omega
  have i165 : 165 < N := by omega
  have i166 : 166 < N := by omega
  have i167 : 167 < N := by omega
  have hf25 := hts (.fieldLink RX5 25 "SiloPadsModel" "thrown" "I") (by decide +kernel)
  have hinX5 : ∀ w ∈ u_ws RX5 TX5 12, w ∈ wsX5_set := by decide +kernel
  refine lv_aload_n hx hb dX5_set_0 rfl (lv_at hl 0 rfl) ?_
  refine lv_iconst (v := 0) hx hb dX5_set_1 (by decide) ?_
  refine g_put (ci := 5) (C := RX5) (T := TX5) (M := 12) (ty := .int) hx hb hts hinX5 tyX5 tyX5_ok nmX5 hown hK hG hS i162 mW_o rfl 0 (by decide) hf25 rfl rfl rfl rfl rfl (Nat.le_of_ble_eq_true rfl) dX5_set_2 rfl (fun H locs hG hS => ?_)
  have hG := hG.to mW_uo
  refine lv_iload_n hx hb dX5_set_5 rfl (lv_at hl 1 rfl) ?_
  refine lv_iconst (v := 0) hx hb dX5_set_6 (by decide) ?_
  refine lv_iconst (v := 3) hx hb dX5_set_7 (by decide) ?_
  refine g_cSi (As := [.int a, .int 0, .int 3]) (rest := []) hx hb hml hown hts hK hA hG hS (k_X5_in l D cy N L (mW cy L F 0 ms ma mv mn mb ml mp mw mr mq mh) a 0 3 ) (g_cwS 3 hts gX5_set_X5_in rfl rfl rfl (by decide +kernel) ⟨Nat.le_of_ble_eq_true rfl, Nat.le_of_ble_eq_true rfl⟩) rfl rfl hl.1 (Nat.le_of_ble_eq_true rfl) dX5_set_8 ⟨Nat.zero_le _, Nat.zero_le _⟩ (fun H locs hG hS => ?_)
  refine lv_toI (y := 1) (h0) ?_
  refine lv_if_ne (tgt := 20) hx hb dX5_set_11 (by decide) (fun c_11 => ?_) (fun c_11 => ?_)
  · skip
    refine lv_iload_n hx hb dX5_set_20 rfl (lv_at hl 2 rfl) ?_
    refine lv_iload_n hx hb dX5_set_21 rfl (lv_at hl 1 rfl) ?_
    refine g_cSi (As := [.int a]) (rest := [.int b]) hx hb hml hown hts hK hA hG hS (k_X5_leastOf l D cy N L (mW cy L F 0 ms ma mv mn mb ml mp mw mr mq mh) a ) (g_cwS 1 hts gX5_set_X5_leastOf rfl rfl rfl (by decide +kernel) ⟨Nat.le_of_ble_eq_true rfl, Nat.le_of_ble_eq_true rfl⟩) rfl rfl hl.1 (Nat.le_of_ble_eq_true rfl) dX5_set_22 ⟨Nat.zero_le _, Nat.zero_le _⟩ (fun H locs hG hS => ?_)
    refine lv_iload_n hx hb dX5_set_25 rfl (lv_at hl 1 rfl) ?_
    refine g_cSi (As := [.int a]) (rest := [.int (g_least a), .int b]) hx hb hml hown hts hK hA hG hS (k_X5_mostOf l D cy N L (mW cy L F 0 ms ma mv mn mb ml mp mw mr mq mh) a ) (g_cwS 1 hts gX5_set_X5_mostOf rfl rfl rfl (by decide +kernel) ⟨Nat.le_of_ble_eq_true rfl, Nat.le_of_ble_eq_true rfl⟩) rfl rfl hl.1 (Nat.le_of_ble_eq_true rfl) dX5_set_26 ⟨Nat.zero_le _, Nat.zero_le _⟩ (fun H locs hG hS => ?_)
    refine g_cSi (As := [.int b, .int (g_least a), .int (g_most a)]) (rest := []) hx hb hml hown hts hK hA hG hS (k_X5_in l D cy N L (mW cy L F 0 ms ma mv mn mb ml mp mw mr mq mh) b (g_least a) (g_most a) ) (g_cwS 3 hts gX5_set_X5_in rfl rfl rfl (by decide +kernel) ⟨Nat.le_of_ble_eq_true rfl, Nat.le_of_ble_eq_true rfl⟩) rfl rfl hl.1 (Nat.le_of_ble_eq_true rfl) dX5_set_29 ⟨Nat.zero_le _, Nat.zero_le _⟩ (fun H locs hG hS => ?_)
    refine lv_toI (y := 0) (h) ?_
    refine lv_if_ne (tgt := 41) hx hb dX5_set_32 (by decide) (fun c_32 => ?_) (fun c_32 => ?_)
    · skip
      exact absurd c_32 (by decide)
    · skip
      refine lv_aload_n hx hb dX5_set_35 rfl (lv_at hl 0 rfl) ?_
      refine lv_iconst (v := 2) hx hb dX5_set_36 (by decide) ?_
      refine g_cVi (As := [.int 2]) (rest := []) hx hb hml hown hts hK hA hG hS (k_X5_fails l D cy N L F hN 0 ms ma mv mn mb ml mp mw mr mq mh 2 ) (cwV 1 hts gX5_set_X5_fails rfl rfl rfl (by decide +kernel) ⟨Nat.le_of_ble_eq_true rfl, Nat.le_of_ble_eq_true rfl⟩) i162 mW_o (ci := 5) rfl rfl rfl rfl hl.1 (Nat.le_of_ble_eq_true rfl) dX5_set_37 ⟨Nat.zero_le _, Nat.zero_le _⟩ (fun H locs hG hS => ?_)
      exact g_iret hx hb hr hlocks hK hG hS rfl dX5_set_40 ⟨rfl, rfl⟩
  · skip
    exact absurd c_11 (by decide)
set_option maxHeartbeats 4000000 in
set_option maxRecDepth 100000 in
theorem k_X5_append_t1 (l : Launch) (D : va_G) (cy : Nat → ClassId) (N : Nat) (L : Nat → Nat) (F : Nat → va_E) (hN : 168 ≤ N) (mt : Int32) (ms ma mv : Nat → Int32) (mn : Int32) (mb : Nat → Int32) (ml mp mw : Int32) (mr : Nat → Int32) (mq : Int32) (mh : Int64) (a : Int32) (h : g_in a 33 126 = 0) : GM l D cy N L yX5_append wsX5_append ({ frames := 1, cells := 0, slots := 0, locals := 22 }) [.ref (L 162), .int a] (mW cy L F mt ms ma mv mn mb ml mp mw mr mq mh) (some (.int 0)) (mW cy L F 1 ms ma mv mn mb ml mp mw mr mq mh) := by
  refine GM.ofW (cc := cX5_append) (maxL := 2) (ret := (some .int)) (by decide) rfl (Nat.le_of_ble_eq_true rfl) ?_
  intro p e s m below meth c ls hx hb hr hts hown hlocks hml hK hA hG hS hl
  have hl : lv_has ls 2 [(0, .ref (L 162)), (1, .int a)] := hl
  have i162 : 162 < N := by omega
  have i163 : 163 < N := by omega
  have i164 : 164 < N := by omega
  have i165 : 165 < N := by omega
  have i166 : 166 < N := by omega
  have i167 : 167 < N := by omega
  have hf25 := hts (.fieldLink RX5 25 "SiloPadsModel" "thrown" "I") (by decide +kernel)
  have hinX5 : ∀ w ∈ u_ws RX5 TX5 12, w ∈ wsX5_append := by decide +kernel
  refine lv_aload_n hx hb dX5_append_0 rfl (lv_at hl 0 rfl) ?_
  refine lv_iconst (v := 0) hx hb dX5_append_1 (by decide) ?_
  refine g_put (ci := 5) (C := RX5) (T := TX5) (M := 12) (ty := .int) hx hb hts hinX5 tyX5 tyX5_ok nmX5 hown hK hG hS i162 mW_o rfl 0 (by decide) hf25 rfl rfl rfl rfl rfl (Nat.le_of_ble_eq_true rfl) dX5_append_2 rfl (fun H locs hG hS => ?_)
  have hG := hG.to mW_uo
  refine lv_iload_n hx hb dX5_append_5 rfl (lv_at hl 1 rfl) ?_
  refine lv_bipush (v := 33) hx hb dX5_append_6 (by decide) ?_
  refine lv_bipush (v := 126) hx hb dX5_append_8 (by decide) ?_
  refine g_cSi (As := [.int a, .int 33, .int 126]) (rest := []) hx hb hml hown hts hK hA hG hS (k_X5_in l D cy N L (mW cy L F 0 ms ma mv mn mb ml mp mw mr mq mh) a 33 126 ) (g_cwS 3 hts gX5_append_X5_in rfl rfl rfl (by decide +kernel) ⟨Nat.le_of_ble_eq_true rfl, Nat.le_of_ble_eq_true rfl⟩) rfl rfl hl.1 (Nat.le_of_ble_eq_true rfl) dX5_append_10 ⟨Nat.zero_le _, Nat.zero_le _⟩ (fun H locs hG hS => ?_)
  refine lv_toI (y := 0) (h) ?_
  refine lv_if_ne (tgt := 22) hx hb dX5_append_13 (by decide) (fun c_13 => ?_) (fun c_13 => ?_)
  · skip
    exact absurd c_13 (by decide)
  · skip
    refine lv_aload_n hx hb dX5_append_16 rfl (lv_at hl 0 rfl) ?_
    refine lv_iconst (v := 1) hx hb dX5_append_17 (by decide) ?_
    refine g_cVi (As := [.int 1]) (rest := []) hx hb hml hown hts hK hA hG hS (k_X5_fails l D cy N L F hN 0 ms ma mv mn mb ml mp mw mr mq mh 1 ) (cwV 1 hts gX5_append_X5_fails rfl rfl rfl (by decide +kernel) ⟨Nat.le_of_ble_eq_true rfl, Nat.le_of_ble_eq_true rfl⟩) i162 mW_o (ci := 5) rfl rfl rfl rfl hl.1 (Nat.le_of_ble_eq_true rfl) dX5_append_18 ⟨Nat.zero_le _, Nat.zero_le _⟩ (fun H locs hG hS => ?_)
    exact g_iret hx hb hr hlocks hK hG hS rfl dX5_append_21 ⟨rfl, rfl⟩
set_option maxHeartbeats 4000000 in
set_option maxRecDepth 100000 in
theorem k_X5_append_t2 (l : Launch) (D : va_G) (cy : Nat → ClassId) (N : Nat) (L : Nat → Nat) (F : Nat → va_E) (hN : 168 ≤ N) (mt : Int32) (ms ma mv : Nat → Int32) (mn : Int32) (mb : Nat → Int32) (ml mp mw : Int32) (mr : Nat → Int32) (mq : Int32) (mh : Int64) (a : Int32) (h : g_in a 33 126 = 1) : GM l D cy N L yX5_append wsX5_append ({ frames := 1, cells := 0, slots := 0, locals := 22 }) [.ref (L 162), .int a] (mW cy L F mt ms ma mv mn mb (nI 60) mp mw mr mq mh) (some (.int 0)) (mW cy L F 2 ms ma mv mn mb (nI 60) mp mw mr mq mh) := by
  refine GM.ofW (cc := cX5_append) (maxL := 2) (ret := (some .int)) (by decide) rfl (Nat.le_of_ble_eq_true rfl) ?_
  intro p e s m below meth c ls hx hb hr hts hown hlocks hml hK hA hG hS hl
  have hl : lv_has ls 2 [(0, .ref (L 162)), (1, .int a)] := hl
  have i162 : 162 < N := by omega
  have i163 : 163 < N := by omega
  have i164 : 164 < N := by omega
  have i165 : 165 < N := by omega
  have i166 : 166 < N := by omega
  have i167 : 167 < N := by omega
  have hf25 := hts (.fieldLink RX5 25 "SiloPadsModel" "thrown" "I") (by decide +kernel)
  have hinX5 : ∀ w ∈ u_ws RX5 TX5 12, w ∈ wsX5_append := by decide +kernel
  have hf121 := hts (.fieldLink RX5 121 "SiloPadsModel" "length" "I") (by decide +kernel)
  refine lv_aload_n hx hb dX5_append_0 rfl (lv_at hl 0 rfl) ?_
  refine lv_iconst (v := 0) hx hb dX5_append_1 (by decide) ?_
  refine g_put (ci := 5) (C := RX5) (T := TX5) (M := 12) (ty := .int) hx hb hts hinX5 tyX5 tyX5_ok nmX5 hown hK hG hS i162 mW_o rfl 0 (by decide) hf25 rfl rfl rfl rfl rfl (Nat.le_of_ble_eq_true rfl) dX5_append_2 rfl (fun H locs hG hS => ?_)
  have hG := hG.to mW_uo
  refine lv_iload_n hx hb dX5_append_5 rfl (lv_at hl 1 rfl) ?_
  refine lv_bipush (v := 33) hx hb dX5_append_6 (by decide) ?_
  refine lv_bipush (v := 126) hx hb dX5_append_8 (by decide) ?_
  refine g_cSi (As := [.int a, .int 33, .int 126]) (rest := []) hx hb hml hown hts hK hA hG hS (k_X5_in l D cy N L (mW cy L F 0 ms ma mv mn mb (nI 60) mp mw mr mq mh) a 33 126 ) (g_cwS 3 hts gX5_append_X5_in rfl rfl rfl (by decide +kernel) ⟨Nat.le_of_ble_eq_true rfl, Nat.le_of_ble_eq_true rfl⟩) rfl rfl hl.1 (Nat.le_of_ble_eq_true rfl) dX5_append_10 ⟨Nat.zero_le _, Nat.zero_le _⟩ (fun H locs hG hS => ?_)
  refine lv_toI (y := 1) (h) ?_
  refine lv_if_ne (tgt := 22) hx hb dX5_append_13 (by decide) (fun c_13 => ?_) (fun c_13 => ?_)
  · skip
    refine lv_aload_n hx hb dX5_append_22 rfl (lv_at hl 0 rfl) ?_
    refine g_get (ci := 5) (C := RX5) (T := TX5) (M := 12) hx hb hts hinX5 hown hK hG i162 mW_o rfl 6 (by decide) hf121 rfl rfl dX5_append_23 ?_
    refine lv_bipush (v := 60) hx hb dX5_append_26 (by decide) ?_
    refine lv_icmp_ne (tgt := 37) hx hb dX5_append_28 (by decide) (fun c_28 => ?_) (fun c_28 => ?_)
    · skip
      have c_28 : ¬ 60 = 60 := fun h9 => c_28 ((nI_eq (a := 60) (b := 60) (by omega) (by omega)).mpr h9)
      exfalso; omega
    · skip
      have c_28 : 60 = 60 := (nI_eq (a := 60) (b := 60) (by omega) (by omega)).mp c_28
      refine lv_aload_n hx hb dX5_append_31 rfl (lv_at hl 0 rfl) ?_
      refine lv_iconst (v := 2) hx hb dX5_append_32 (by decide) ?_
      refine g_cVi (As := [.int 2]) (rest := []) hx hb hml hown hts hK hA hG hS (k_X5_fails l D cy N L F hN 0 ms ma mv mn mb (nI 60) mp mw mr mq mh 2 ) (cwV 1 hts gX5_append_X5_fails rfl rfl rfl (by decide +kernel) ⟨Nat.le_of_ble_eq_true rfl, Nat.le_of_ble_eq_true rfl⟩) i162 mW_o (ci := 5) rfl rfl rfl rfl hl.1 (Nat.le_of_ble_eq_true rfl) dX5_append_33 ⟨Nat.zero_le _, Nat.zero_le _⟩ (fun H locs hG hS => ?_)
      exact g_iret hx hb hr hlocks hK hG hS rfl dX5_append_36 ⟨rfl, rfl⟩
  · skip
    exact absurd c_13 (by decide)
set_option maxHeartbeats 4000000 in
set_option maxRecDepth 100000 in
theorem k_X5_silo_t1 (l : Launch) (D : va_G) (cy : Nat → ClassId) (N : Nat) (L : Nat → Nat) (F : Nat → va_E) (hN : 168 ≤ N) (mt : Int32) (ms ma mv : Nat → Int32) (mn : Int32) (mb : Nat → Int32) (ml mp mw : Int32) (mr : Nat → Int32) (mq : Int32) (mh : Int64) (a b : Int32) (h : g_in a 0 3 = 0) : GM l D cy N L yX5_silo wsX5_silo ({ frames := 5, cells := 0, slots := 0, locals := 111 }) [.ref (L 162), .int a, .int b] (mW cy L F mt ms ma mv mn mb ml mp mw mr mq mh) (some (.int 0)) (mW cy L F 1 ms ma mv mn mb ml mp mw mr mq mh) := by
  refine GM.ofW (cc := cX5_silo) (maxL := 3) (ret := (some .int)) (by decide) rfl (Nat.le_of_ble_eq_true rfl) ?_
  intro p e s m below meth c ls hx hb hr hts hown hlocks hml hK hA hG hS hl
  have hl : lv_has ls 3 [(0, .ref (L 162)), (1, .int a), (2, .int b)] := hl
  have i162 : 162 < N := by omega
  have i163 : 163 < N := by omega
  have i164 : 164 < N := by omega
  have i165 : 165 < N := by omega
  have i166 : 166 < N := by omega
  have i167 : 167 < N := by omega
  have hf25 := hts (.fieldLink RX5 25 "SiloPadsModel" "thrown" "I") (by decide +kernel)
  have hinX5 : ∀ w ∈ u_ws RX5 TX5 12, w ∈ wsX5_silo := by decide +kernel
  refine lv_aload_n hx hb dX5_silo_0 rfl (lv_at hl 0 rfl) ?_
  refine lv_iconst (v := 0) hx hb dX5_silo_1 (by decide) ?_
  refine g_put (ci := 5) (C := RX5) (T := TX5) (M := 12) (ty := .int) hx hb hts hinX5 tyX5 tyX5_ok nmX5 hown hK hG hS i162 mW_o rfl 0 (by decide) hf25 rfl rfl rfl rfl rfl (Nat.le_of_ble_eq_true rfl) dX5_silo_2 rfl (fun H locs hG hS => ?_)
  have hG := hG.to mW_uo
  refine lv_iload_n hx hb dX5_silo_5 rfl (lv_at hl 1 rfl) ?_
  refine g_cSi (As := [.int a]) (rest := []) hx hb hml hown hts hK hA hG hS (k_X5_isSilo l D cy N L (mW cy L F 0 ms ma mv mn mb ml mp mw mr mq mh) a ) (g_cwS 1 hts gX5_silo_X5_isSilo rfl rfl rfl (by decide +kernel) ⟨Nat.le_of_ble_eq_true rfl, Nat.le_of_ble_eq_true rfl⟩) rfl rfl hl.1 (Nat.le_of_ble_eq_true rfl) dX5_silo_6 ⟨Nat.zero_le _, Nat.zero_le _⟩ (fun H locs hG hS => ?_)
  refine lv_toI (y := 0) (h) ?_
  refine lv_if_ne (tgt := 18) hx hb dX5_silo_9 (by decide) (fun c_9 => ?_) (fun c_9 => ?_)
  · skip
    exact absurd c_9 (by decide)
  · skip
    refine lv_aload_n hx hb dX5_silo_12 rfl (lv_at hl 0 rfl) ?_
    refine lv_iconst (v := 1) hx hb dX5_silo_13 (by decide) ?_
    refine g_cVi (As := [.int 1]) (rest := []) hx hb hml hown hts hK hA hG hS (k_X5_fails l D cy N L F hN 0 ms ma mv mn mb ml mp mw mr mq mh 1 ) (cwV 1 hts gX5_silo_X5_fails rfl rfl rfl (by decide +kernel) ⟨Nat.le_of_ble_eq_true rfl, Nat.le_of_ble_eq_true rfl⟩) i162 mW_o (ci := 5) rfl rfl rfl rfl hl.1 (Nat.le_of_ble_eq_true rfl) dX5_silo_14 ⟨Nat.zero_le _, Nat.zero_le _⟩ (fun H locs hG hS => ?_)
    exact g_iret hx hb hr hlocks hK hG hS rfl dX5_silo_17 ⟨rfl, rfl⟩
set_option maxHeartbeats 4000000 in
set_option maxRecDepth 100000 in
theorem k_X5_silo_t2 (l : Launch) (D : va_G) (cy : Nat → ClassId) (N : Nat) (L : Nat → Nat) (F : Nat → va_E) (hN : 168 ≤ N) (mt : Int32) (ms ma mv : Nat → Int32) (mn : Int32) (mb : Nat → Int32) (ml mp mw : Int32) (mr : Nat → Int32) (mq : Int32) (mh : Int64) (k : Nat) (b : Int32) (hk : k < 4) (h : g_in b 0 5 = 0) : GM l D cy N L yX5_silo wsX5_silo ({ frames := 5, cells := 0, slots := 0, locals := 111 }) [.ref (L 162), .int (nI k), .int b] (mW cy L F mt ms ma mv mn mb ml mp mw mr mq mh) (some (.int 0)) (mW cy L F 2 ms ma mv mn mb ml mp mw mr mq mh) := by
  refine GM.ofW (cc := cX5_silo) (maxL := 3) (ret := (some .int)) (by decide) rfl (Nat.le_of_ble_eq_true rfl) ?_
  intro p e s m below meth c ls hx hb hr hts hown hlocks hml hK hA hG hS hl
  have hl : lv_has ls 3 [(0, .ref (L 162)), (1, .int (nI k)), (2, .int b)] := hl
  have i162 : 162 < N := by omega
  have i163 : 163 < N := by omega
  have i164 : 164 < N := by omega
  have i165 : 165 < N := by omega
  have i166 : 166 < N := by omega
  have i167 : 167 < N := by omega
  have hf25 := hts (.fieldLink RX5 25 "SiloPadsModel" "thrown" "I") (by decide +kernel)
  have hinX5 : ∀ w ∈ u_ws RX5 TX5 12, w ∈ wsX5_silo := by decide +kernel
  refine lv_aload_n hx hb dX5_silo_0 rfl (lv_at hl 0 rfl) ?_
  refine lv_iconst (v := 0) hx hb dX5_silo_1 (by decide) ?_
  refine g_put (ci := 5) (C := RX5) (T := TX5) (M := 12) (ty := .int) hx hb hts hinX5 tyX5 tyX5_ok nmX5 hown hK hG hS i162 mW_o rfl 0 (by decide) hf25 rfl rfl rfl rfl rfl (Nat.le_of_ble_eq_true rfl) dX5_silo_2 rfl (fun H locs hG hS => ?_)
  have hG := hG.to mW_uo
  refine lv_iload_n hx hb dX5_silo_5 rfl (lv_at hl 1 rfl) ?_
  refine g_cSi (As := [.int (nI k)]) (rest := []) hx hb hml hown hts hK hA hG hS (k_X5_isSilo l D cy N L (mW cy L F 0 ms ma mv mn mb ml mp mw mr mq mh) (nI k) ) (g_cwS 1 hts gX5_silo_X5_isSilo rfl rfl rfl (by decide +kernel) ⟨Nat.le_of_ble_eq_true rfl, Nat.le_of_ble_eq_true rfl⟩) rfl rfl hl.1 (Nat.le_of_ble_eq_true rfl) dX5_silo_6 ⟨Nat.zero_le _, Nat.zero_le _⟩ (fun H locs hG hS => ?_)
  refine lv_toI (y := 1) (g_in_silo hk) ?_
  refine lv_if_ne (tgt := 18) hx hb dX5_silo_9 (by decide) (fun c_9 => ?_) (fun c_9 => ?_)
  · skip
    refine lv_iload_n hx hb dX5_silo_18 rfl (lv_at hl 2 rfl) ?_
    refine lv_iconst (v := 0) hx hb dX5_silo_19 (by decide) ?_
    refine lv_iconst (v := 5) hx hb dX5_silo_20 (by decide) ?_
    refine g_cSi (As := [.int b, .int 0, .int 5]) (rest := []) hx hb hml hown hts hK hA hG hS (k_X5_in l D cy N L (mW cy L F 0 ms ma mv mn mb ml mp mw mr mq mh) b 0 5 ) (g_cwS 3 hts gX5_silo_X5_in rfl rfl rfl (by decide +kernel) ⟨Nat.le_of_ble_eq_true rfl, Nat.le_of_ble_eq_true rfl⟩) rfl rfl hl.1 (Nat.le_of_ble_eq_true rfl) dX5_silo_21 ⟨Nat.zero_le _, Nat.zero_le _⟩ (fun H locs hG hS => ?_)
    refine lv_toI (y := 0) (h) ?_
    refine lv_if_eq (tgt := 36) hx hb dX5_silo_24 (by decide) (fun c_24 => ?_) (fun c_24 => ?_)
    · skip
      refine lv_aload_n hx hb dX5_silo_36 rfl (lv_at hl 0 rfl) ?_
      refine lv_iconst (v := 2) hx hb dX5_silo_37 (by decide) ?_
      refine g_cVi (As := [.int 2]) (rest := []) hx hb hml hown hts hK hA hG hS (k_X5_fails l D cy N L F hN 0 ms ma mv mn mb ml mp mw mr mq mh 2 ) (cwV 1 hts gX5_silo_X5_fails rfl rfl rfl (by decide +kernel) ⟨Nat.le_of_ble_eq_true rfl, Nat.le_of_ble_eq_true rfl⟩) i162 mW_o (ci := 5) rfl rfl rfl rfl hl.1 (Nat.le_of_ble_eq_true rfl) dX5_silo_38 ⟨Nat.zero_le _, Nat.zero_le _⟩ (fun H locs hG hS => ?_)
      exact g_iret hx hb hr hlocks hK hG hS rfl dX5_silo_41 ⟨rfl, rfl⟩
    · skip
      exact absurd c_24 (by decide)
  · skip
    exact absurd c_9 (by decide)
set_option maxHeartbeats 4000000 in
set_option maxRecDepth 100000 in
theorem k_X5_layer_t1 (l : Launch) (D : va_G) (cy : Nat → ClassId) (N : Nat) (L : Nat → Nat) (F : Nat → va_E) (hN : 168 ≤ N) (mt : Int32) (ms ma mv : Nat → Int32) (mn : Int32) (mb : Nat → Int32) (ml mp mw : Int32) (mr : Nat → Int32) (mq : Int32) (mh : Int64) (a b t : Int32) (h : g_in a 0 3 = 0) : GM l D cy N L yX5_layer wsX5_layer ({ frames := 4, cells := 0, slots := 0, locals := 90 }) [.ref (L 162), .int a, .int b, .int t] (mW cy L F mt ms ma mv mn mb ml mp mw mr mq mh) (some (.int 0)) (mW cy L F 1 ms ma mv mn mb ml mp mw mr mq mh) := by
  refine GM.ofW (cc := cX5_layer) (maxL := 4) (ret := (some .int)) (by decide) rfl (Nat.le_of_ble_eq_true rfl) ?_
  intro p e s m below meth c ls hx hb hr hts hown hlocks hml hK hA hG hS hl
  have hl : lv_has ls 4 [(0, .ref (L 162)), (1, .int a), (2, .int b), (3, .int t)] := hl
  have i162 : 162 < N := by omega
  have i163 : 163 < N := by omega
  have i164 : 164 < N := by omega
  have i165 : 165 < N := by omega
  have i166 : 166 < N := by omega
  have i167 : 167 < N := by omega
  have hf25 := hts (.fieldLink RX5 25 "SiloPadsModel" "thrown" "I") (by decide +kernel)
  have hinX5 : ∀ w ∈ u_ws RX5 TX5 12, w ∈ wsX5_layer := by decide +kernel
  refine lv_aload_n hx hb dX5_layer_0 rfl (lv_at hl 0 rfl) ?_
  refine lv_iconst (v := 0) hx hb dX5_layer_1 (by decide) ?_
  refine g_put (ci := 5) (C := RX5) (T := TX5) (M := 12) (ty := .int) hx hb hts hinX5 tyX5 tyX5_ok nmX5 hown hK hG hS i162 mW_o rfl 0 (by decide) hf25 rfl rfl rfl rfl rfl (Nat.le_of_ble_eq_true rfl) dX5_layer_2 rfl (fun H locs hG hS => ?_)
  have hG := hG.to mW_uo
  refine lv_iload_n hx hb dX5_layer_5 rfl (lv_at hl 1 rfl) ?_
  refine g_cSi (As := [.int a]) (rest := []) hx hb hml hown hts hK hA hG hS (k_X5_isSilo l D cy N L (mW cy L F 0 ms ma mv mn mb ml mp mw mr mq mh) a ) (g_cwS 1 hts gX5_layer_X5_isSilo rfl rfl rfl (by decide +kernel) ⟨Nat.le_of_ble_eq_true rfl, Nat.le_of_ble_eq_true rfl⟩) rfl rfl hl.1 (Nat.le_of_ble_eq_true rfl) dX5_layer_6 ⟨Nat.zero_le _, Nat.zero_le _⟩ (fun H locs hG hS => ?_)
  refine lv_toI (y := 0) (h) ?_
  refine lv_if_eq (tgt := 28) hx hb dX5_layer_9 (by decide) (fun c_9 => ?_) (fun c_9 => ?_)
  · skip
    refine lv_aload_n hx hb dX5_layer_28 rfl (lv_at hl 0 rfl) ?_
    refine lv_iconst (v := 1) hx hb dX5_layer_29 (by decide) ?_
    refine g_cVi (As := [.int 1]) (rest := []) hx hb hml hown hts hK hA hG hS (k_X5_fails l D cy N L F hN 0 ms ma mv mn mb ml mp mw mr mq mh 1 ) (cwV 1 hts gX5_layer_X5_fails rfl rfl rfl (by decide +kernel) ⟨Nat.le_of_ble_eq_true rfl, Nat.le_of_ble_eq_true rfl⟩) i162 mW_o (ci := 5) rfl rfl rfl rfl hl.1 (Nat.le_of_ble_eq_true rfl) dX5_layer_30 ⟨Nat.zero_le _, Nat.zero_le _⟩ (fun H locs hG hS => ?_)
    exact g_iret hx hb hr hlocks hK hG hS rfl dX5_layer_33 ⟨rfl, rfl⟩
  · skip
    exact absurd c_9 (by decide)
set_option maxHeartbeats 4000000 in
set_option maxRecDepth 100000 in
theorem k_X5_layer_t1b (l : Launch) (D : va_G) (cy : Nat → ClassId) (N : Nat) (L : Nat → Nat) (F : Nat → va_E) (hN : 168 ≤ N) (mt : Int32) (ms ma mv : Nat → Int32) (mn : Int32) (mb : Nat → Int32) (ml mp mw : Int32) (mr : Nat → Int32) (mq : Int32) (mh : Int64) (k : Nat) (b t : Int32) (hk : k < 4) (h : g_in b 0 (ms (10 + 24 * k + 3) - 1) = 0) : GM l D cy N L yX5_layer wsX5_layer ({ frames := 4, cells := 0, slots := 0, locals := 90 }) [.ref (L 162), .int (nI k), .int b, .int t] (mW cy L F mt ms ma mv mn mb ml mp mw mr mq mh) (some (.int 0)) (mW cy L F 1 ms ma mv mn mb ml mp mw mr mq mh) := by
  refine GM.ofW (cc := cX5_layer) (maxL := 4) (ret := (some .int)) (by decide) rfl (Nat.le_of_ble_eq_true rfl) ?_
  intro p e s m below meth c ls hx hb hr hts hown hlocks hml hK hA hG hS hl
  have hl : lv_has ls 4 [(0, .ref (L 162)), (1, .int (nI k)), (2, .int b), (3, .int t)] := hl
  have i162 : 162 < N := by omega
  have i163 : 163 < N := by omega
  have i164 : 164 < N := by omega
  have i165 : 165 < N := by omega
  have i166 : 166 < N := by omega
  have i167 : 167 < N := by omega
  have hf25 := hts (.fieldLink RX5 25 "SiloPadsModel" "thrown" "I") (by decide +kernel)
  have hinX5 : ∀ w ∈ u_ws RX5 TX5 12, w ∈ wsX5_layer := by decide +kernel
  refine lv_aload_n hx hb dX5_layer_0 rfl (lv_at hl 0 rfl) ?_
  refine lv_iconst (v := 0) hx hb dX5_layer_1 (by decide) ?_
  refine g_put (ci := 5) (C := RX5) (T := TX5) (M := 12) (ty := .int) hx hb hts hinX5 tyX5 tyX5_ok nmX5 hown hK hG hS i162 mW_o rfl 0 (by decide) hf25 rfl rfl rfl rfl rfl (Nat.le_of_ble_eq_true rfl) dX5_layer_2 rfl (fun H locs hG hS => ?_)
  have hG := hG.to mW_uo
  refine lv_iload_n hx hb dX5_layer_5 rfl (lv_at hl 1 rfl) ?_
  refine g_cSi (As := [.int (nI k)]) (rest := []) hx hb hml hown hts hK hA hG hS (k_X5_isSilo l D cy N L (mW cy L F 0 ms ma mv mn mb ml mp mw mr mq mh) (nI k) ) (g_cwS 1 hts gX5_layer_X5_isSilo rfl rfl rfl (by decide +kernel) ⟨Nat.le_of_ble_eq_true rfl, Nat.le_of_ble_eq_true rfl⟩) rfl rfl hl.1 (Nat.le_of_ble_eq_true rfl) dX5_layer_6 ⟨Nat.zero_le _, Nat.zero_le _⟩ (fun H locs hG hS => ?_)
  refine lv_toI (y := 1) (g_in_silo hk) ?_
  refine lv_if_eq (tgt := 28) hx hb dX5_layer_9 (by decide) (fun c_9 => ?_) (fun c_9 => ?_)
  · skip
    exact absurd c_9 (by decide)
  · skip
    refine lv_iload_n hx hb dX5_layer_12 rfl (lv_at hl 2 rfl) ?_
    refine lv_iconst (v := 0) hx hb dX5_layer_13 (by decide) ?_
    refine lv_aload_n hx hb dX5_layer_14 rfl (lv_at hl 0 rfl) ?_
    refine lv_iload_n hx hb dX5_layer_15 rfl (lv_at hl 1 rfl) ?_
    refine lv_iconst (v := 3) hx hb dX5_layer_16 (by decide) ?_
    refine g_cVi (As := [.int (nI k), .int 3]) (rest := [.int 0, .int b]) hx hb hml hown hts hK hA hG hS (k_X5_of l D cy N L F hN 0 ms ma mv mn mb ml mp mw mr mq mh k 3 (by omega)) (cwV 2 hts gX5_layer_X5_of rfl rfl rfl (by decide +kernel) ⟨Nat.le_of_ble_eq_true rfl, Nat.le_of_ble_eq_true rfl⟩) i162 mW_o (ci := 5) rfl rfl rfl rfl hl.1 (Nat.le_of_ble_eq_true rfl) dX5_layer_17 ⟨Nat.zero_le _, Nat.zero_le _⟩ (fun H locs hG hS => ?_)
    refine lv_iconst (v := 1) hx hb dX5_layer_20 (by decide) ?_
    refine lv_isub hx hb dX5_layer_21 ?_
    refine g_cSi (As := [.int b, .int 0, .int ((ms (10 + 24 * k + 3)) - 1)]) (rest := []) hx hb hml hown hts hK hA hG hS (k_X5_in l D cy N L (mW cy L F 0 ms ma mv mn mb ml mp mw mr mq mh) b 0 ((ms (10 + 24 * k + 3)) - 1) ) (g_cwS 3 hts gX5_layer_X5_in rfl rfl rfl (by decide +kernel) ⟨Nat.le_of_ble_eq_true rfl, Nat.le_of_ble_eq_true rfl⟩) rfl rfl hl.1 (Nat.le_of_ble_eq_true rfl) dX5_layer_22 ⟨Nat.zero_le _, Nat.zero_le _⟩ (fun H locs hG hS => ?_)
    refine lv_toI (y := 0) (h) ?_
    refine lv_if_ne (tgt := 34) hx hb dX5_layer_25 (by decide) (fun c_25 => ?_) (fun c_25 => ?_)
    · skip
      exact absurd c_25 (by decide)
    · skip
      refine lv_aload_n hx hb dX5_layer_28 rfl (lv_at hl 0 rfl) ?_
      refine lv_iconst (v := 1) hx hb dX5_layer_29 (by decide) ?_
      refine g_cVi (As := [.int 1]) (rest := []) hx hb hml hown hts hK hA hG hS (k_X5_fails l D cy N L F hN 0 ms ma mv mn mb ml mp mw mr mq mh 1 ) (cwV 1 hts gX5_layer_X5_fails rfl rfl rfl (by decide +kernel) ⟨Nat.le_of_ble_eq_true rfl, Nat.le_of_ble_eq_true rfl⟩) i162 mW_o (ci := 5) rfl rfl rfl rfl hl.1 (Nat.le_of_ble_eq_true rfl) dX5_layer_30 ⟨Nat.zero_le _, Nat.zero_le _⟩ (fun H locs hG hS => ?_)
      exact g_iret hx hb hr hlocks hK hG hS rfl dX5_layer_33 ⟨rfl, rfl⟩
set_option maxHeartbeats 4000000 in
set_option maxRecDepth 100000 in
theorem k_X5_layer_t2 (l : Launch) (D : va_G) (cy : Nat → ClassId) (N : Nat) (L : Nat → Nat) (F : Nat → va_E) (hN : 168 ≤ N) (mt : Int32) (ms ma mv : Nat → Int32) (mn : Int32) (mb : Nat → Int32) (ml mp mw : Int32) (mr : Nat → Int32) (mq : Int32) (mh : Int64) (k : Nat) (b t : Int32) (hk : k < 4) (h0 : g_in b 0 (ms (10 + 24 * k + 3) - 1) = 1) (h : g_in t 0 2 = 0) : GM l D cy N L yX5_layer wsX5_layer ({ frames := 4, cells := 0, slots := 0, locals := 90 }) [.ref (L 162), .int (nI k), .int b, .int t] (mW cy L F mt ms ma mv mn mb ml mp mw mr mq mh) (some (.int 0)) (mW cy L F 2 ms ma mv mn mb ml mp mw mr mq mh) := by
  refine GM.ofW (cc := cX5_layer) (maxL := 4) (ret := (some .int)) (by decide) rfl (Nat.le_of_ble_eq_true rfl) ?_
  intro p e s m below meth c ls hx hb hr hts hown hlocks hml hK hA hG hS hl
  have hl : lv_has ls 4 [(0, .ref (L 162)), (1, .int (nI k)), (2, .int b), (3, .int t)] := hl
  have i162 : 162 < N := by omega
  have i163 : 163 < N := by omega
  have i164 : 164 < N := by omega
  have i165 : 165 < N := by omega
  have i166 : 166 < N := by omega
  have i167 : 167 < N := by omega
  have hf25 := hts (.fieldLink RX5 25 "SiloPadsModel" "thrown" "I") (by decide +kernel)
  have hinX5 : ∀ w ∈ u_ws RX5 TX5 12, w ∈ wsX5_layer := by decide +kernel
  refine lv_aload_n hx hb dX5_layer_0 rfl (lv_at hl 0 rfl) ?_
  refine lv_iconst (v := 0) hx hb dX5_layer_1 (by decide) ?_
  refine g_put (ci := 5) (C := RX5) (T := TX5) (M := 12) (ty := .int) hx hb hts hinX5 tyX5 tyX5_ok nmX5 hown hK hG hS i162 mW_o rfl 0 (by decide) hf25 rfl rfl rfl rfl rfl (Nat.le_of_ble_eq_true rfl) dX5_layer_2 rfl (fun H locs hG hS => ?_)
  have hG := hG.to mW_uo
  refine lv_iload_n hx hb dX5_layer_5 rfl (lv_at hl 1 rfl) ?_
  refine g_cSi (As := [.int (nI k)]) (rest := []) hx hb hml hown hts hK hA hG hS (k_X5_isSilo l D cy N L (mW cy L F 0 ms ma mv mn mb ml mp mw mr mq mh) (nI k) ) (g_cwS 1 hts gX5_layer_X5_isSilo rfl rfl rfl (by decide +kernel) ⟨Nat.le_of_ble_eq_true rfl, Nat.le_of_ble_eq_true rfl⟩) rfl rfl hl.1 (Nat.le_of_ble_eq_true rfl) dX5_layer_6 ⟨Nat.zero_le _, Nat.zero_le _⟩ (fun H locs hG hS => ?_)
  refine lv_toI (y := 1) (g_in_silo hk) ?_
  refine lv_if_eq (tgt := 28) hx hb dX5_layer_9 (by decide) (fun c_9 => ?_) (fun c_9 => ?_)
  · skip
    exact absurd c_9 (by decide)
  · skip
    refine lv_iload_n hx hb dX5_layer_12 rfl (lv_at hl 2 rfl) ?_
    refine lv_iconst (v := 0) hx hb dX5_layer_13 (by decide) ?_
    refine lv_aload_n hx hb dX5_layer_14 rfl (lv_at hl 0 rfl) ?_
    refine lv_iload_n hx hb dX5_layer_15 rfl (lv_at hl 1 rfl) ?_
    refine lv_iconst (v := 3) hx hb dX5_layer_16 (by decide) ?_
    refine g_cVi (As := [.int (nI k), .int 3]) (rest := [.int 0, .int b]) hx hb hml hown hts hK hA hG hS (k_X5_of l D cy N L F hN 0 ms ma mv mn mb ml mp mw mr mq mh k 3 (by omega)) (cwV 2 hts gX5_layer_X5_of rfl rfl rfl (by decide +kernel) ⟨Nat.le_of_ble_eq_true rfl, Nat.le_of_ble_eq_true rfl⟩) i162 mW_o (ci := 5) rfl rfl rfl rfl hl.1 (Nat.le_of_ble_eq_true rfl) dX5_layer_17 ⟨Nat.zero_le _, Nat.zero_le _⟩ (fun H locs hG hS => ?_)
    refine lv_iconst (v := 1) hx hb dX5_layer_20 (by decide) ?_
    refine lv_isub hx hb dX5_layer_21 ?_
    refine g_cSi (As := [.int b, .int 0, .int ((ms (10 + 24 * k + 3)) - 1)]) (rest := []) hx hb hml hown hts hK hA hG hS (k_X5_in l D cy N L (mW cy L F 0 ms ma mv mn mb ml mp mw mr mq mh) b 0 ((ms (10 + 24 * k + 3)) - 1) ) (g_cwS 3 hts gX5_layer_X5_in rfl rfl rfl (by decide +kernel) ⟨Nat.le_of_ble_eq_true rfl, Nat.le_of_ble_eq_true rfl⟩) rfl rfl hl.1 (Nat.le_of_ble_eq_true rfl) dX5_layer_22 ⟨Nat.zero_le _, Nat.zero_le _⟩ (fun H locs hG hS => ?_)
    refine lv_toI (y := 1) (h0) ?_
    refine lv_if_ne (tgt := 34) hx hb dX5_layer_25 (by decide) (fun c_25 => ?_) (fun c_25 => ?_)
    · skip
      refine lv_iload_n hx hb dX5_layer_34 rfl (lv_at hl 3 rfl) ?_
      refine lv_iconst (v := 0) hx hb dX5_layer_35 (by decide) ?_
      refine lv_iconst (v := 2) hx hb dX5_layer_36 (by decide) ?_
      refine g_cSi (As := [.int t, .int 0, .int 2]) (rest := []) hx hb hml hown hts hK hA hG hS (k_X5_in l D cy N L (mW cy L F 0 ms ma mv mn mb ml mp mw mr mq mh) t 0 2 ) (g_cwS 3 hts gX5_layer_X5_in rfl rfl rfl (by decide +kernel) ⟨Nat.le_of_ble_eq_true rfl, Nat.le_of_ble_eq_true rfl⟩) rfl rfl hl.1 (Nat.le_of_ble_eq_true rfl) dX5_layer_37 ⟨Nat.zero_le _, Nat.zero_le _⟩ (fun H locs hG hS => ?_)
      refine lv_toI (y := 0) (h) ?_
      refine lv_if_eq (tgt := 53) hx hb dX5_layer_40 (by decide) (fun c_40 => ?_) (fun c_40 => ?_)
      · skip
        refine lv_aload_n hx hb dX5_layer_53 rfl (lv_at hl 0 rfl) ?_
        refine lv_iconst (v := 2) hx hb dX5_layer_54 (by decide) ?_
        refine g_cVi (As := [.int 2]) (rest := []) hx hb hml hown hts hK hA hG hS (k_X5_fails l D cy N L F hN 0 ms ma mv mn mb ml mp mw mr mq mh 2 ) (cwV 1 hts gX5_layer_X5_fails rfl rfl rfl (by decide +kernel) ⟨Nat.le_of_ble_eq_true rfl, Nat.le_of_ble_eq_true rfl⟩) i162 mW_o (ci := 5) rfl rfl rfl rfl hl.1 (Nat.le_of_ble_eq_true rfl) dX5_layer_55 ⟨Nat.zero_le _, Nat.zero_le _⟩ (fun H locs hG hS => ?_)
        exact g_iret hx hb hr hlocks hK hG hS rfl dX5_layer_58 ⟨rfl, rfl⟩
      · skip
        exact absurd c_40 (by decide)
    · skip
      exact absurd c_25 (by decide)
set_option maxHeartbeats 4000000 in
set_option maxRecDepth 100000 in
theorem k_X5_shipOf_t1 (l : Launch) (D : va_G) (cy : Nat → ClassId) (N : Nat) (L : Nat → Nat) (F : Nat → va_E) (hN : 168 ≤ N) (mt : Int32) (ms ma mv : Nat → Int32) (mn : Int32) (mb : Nat → Int32) (ml mp mw : Int32) (mr : Nat → Int32) (mq : Int32) (mh : Int64) (a b : Int32) (h : g_in a 0 5 = 0) : GM l D cy N L yX5_shipOf wsX5_shipOf ({ frames := 2, cells := 0, slots := 0, locals := 42 }) [.ref (L 162), .int a, .int b] (mW cy L F mt ms ma mv mn mb ml mp mw mr mq mh) (some (.int 0)) (mW cy L F 1 ms ma mv mn mb ml mp mw mr mq mh) := by
  refine GM.ofW (cc := cX5_shipOf) (maxL := 3) (ret := (some .int)) (by decide) rfl (Nat.le_of_ble_eq_true rfl) ?_
  intro p e s m below meth c ls hx hb hr hts hown hlocks hml hK hA hG hS hl
  have hl : lv_has ls 3 [(0, .ref (L 162)), (1, .int a), (2, .int b)] := hl
  have i162 : 162 < N := by omega
  have i163 : 163 < N := by omega
  have i164 : 164 < N := by omega
  have i165 : 165 < N := by omega
  have i166 : 166 < N := by omega
  have i167 : 167 < N := by omega
  have hf25 := hts (.fieldLink RX5 25 "SiloPadsModel" "thrown" "I") (by decide +kernel)
  have hinX5 : ∀ w ∈ u_ws RX5 TX5 12, w ∈ wsX5_shipOf := by decide +kernel
  refine lv_aload_n hx hb dX5_shipOf_0 rfl (lv_at hl 0 rfl) ?_
  refine lv_iconst (v := 0) hx hb dX5_shipOf_1 (by decide) ?_
  refine g_put (ci := 5) (C := RX5) (T := TX5) (M := 12) (ty := .int) hx hb hts hinX5 tyX5 tyX5_ok nmX5 hown hK hG hS i162 mW_o rfl 0 (by decide) hf25 rfl rfl rfl rfl rfl (Nat.le_of_ble_eq_true rfl) dX5_shipOf_2 rfl (fun H locs hG hS => ?_)
  have hG := hG.to mW_uo
  refine lv_iload_n hx hb dX5_shipOf_5 rfl (lv_at hl 1 rfl) ?_
  refine g_cSi (As := [.int a]) (rest := []) hx hb hml hown hts hK hA hG hS (k_X5_isShip l D cy N L (mW cy L F 0 ms ma mv mn mb ml mp mw mr mq mh) a ) (g_cwS 1 hts gX5_shipOf_X5_isShip rfl rfl rfl (by decide +kernel) ⟨Nat.le_of_ble_eq_true rfl, Nat.le_of_ble_eq_true rfl⟩) rfl rfl hl.1 (Nat.le_of_ble_eq_true rfl) dX5_shipOf_6 ⟨Nat.zero_le _, Nat.zero_le _⟩ (fun H locs hG hS => ?_)
  refine lv_toI (y := 0) (h) ?_
  refine lv_if_ne (tgt := 18) hx hb dX5_shipOf_9 (by decide) (fun c_9 => ?_) (fun c_9 => ?_)
  · skip
    exact absurd c_9 (by decide)
  · skip
    refine lv_aload_n hx hb dX5_shipOf_12 rfl (lv_at hl 0 rfl) ?_
    refine lv_iconst (v := 1) hx hb dX5_shipOf_13 (by decide) ?_
    refine g_cVi (As := [.int 1]) (rest := []) hx hb hml hown hts hK hA hG hS (k_X5_fails l D cy N L F hN 0 ms ma mv mn mb ml mp mw mr mq mh 1 ) (cwV 1 hts gX5_shipOf_X5_fails rfl rfl rfl (by decide +kernel) ⟨Nat.le_of_ble_eq_true rfl, Nat.le_of_ble_eq_true rfl⟩) i162 mW_o (ci := 5) rfl rfl rfl rfl hl.1 (Nat.le_of_ble_eq_true rfl) dX5_shipOf_14 ⟨Nat.zero_le _, Nat.zero_le _⟩ (fun H locs hG hS => ?_)
    exact g_iret hx hb hr hlocks hK hG hS rfl dX5_shipOf_17 ⟨rfl, rfl⟩
set_option maxHeartbeats 4000000 in
set_option maxRecDepth 100000 in
theorem k_X5_shipOf_t2 (l : Launch) (D : va_G) (cy : Nat → ClassId) (N : Nat) (L : Nat → Nat) (F : Nat → va_E) (hN : 168 ≤ N) (mt : Int32) (ms ma mv : Nat → Int32) (mn : Int32) (mb : Nat → Int32) (ml mp mw : Int32) (mr : Nat → Int32) (mq : Int32) (mh : Int64) (j : Nat) (b : Int32) (hj : j < 6) (h : g_in b 0 1 = 0) : GM l D cy N L yX5_shipOf wsX5_shipOf ({ frames := 2, cells := 0, slots := 0, locals := 42 }) [.ref (L 162), .int (nI j), .int b] (mW cy L F mt ms ma mv mn mb ml mp mw mr mq mh) (some (.int 0)) (mW cy L F 2 ms ma mv mn mb ml mp mw mr mq mh) := by
  refine GM.ofW (cc := cX5_shipOf) (maxL := 3) (ret := (some .int)) (by decide) rfl (Nat.le_of_ble_eq_true rfl) ?_
  intro p e s m below meth c ls hx hb hr hts hown hlocks hml hK hA hG hS hl
  have hl : lv_has ls 3 [(0, .ref (L 162)), (1, .int (nI j)), (2, .int b)] := hl
  have i162 : 162 < N := by omega
  have i163 : 163 < N := by omega
  have i164 : 164 < N := by omega
  have i165 : 165 < N := by omega
  have i166 : 166 < N := by omega
  have i167 : 167 < N := by omega
  have hf25 := hts (.fieldLink RX5 25 "SiloPadsModel" "thrown" "I") (by decide +kernel)
  have hinX5 : ∀ w ∈ u_ws RX5 TX5 12, w ∈ wsX5_shipOf := by decide +kernel
  refine lv_aload_n hx hb dX5_shipOf_0 rfl (lv_at hl 0 rfl) ?_
  refine lv_iconst (v := 0) hx hb dX5_shipOf_1 (by decide) ?_
  refine g_put (ci := 5) (C := RX5) (T := TX5) (M := 12) (ty := .int) hx hb hts hinX5 tyX5 tyX5_ok nmX5 hown hK hG hS i162 mW_o rfl 0 (by decide) hf25 rfl rfl rfl rfl rfl (Nat.le_of_ble_eq_true rfl) dX5_shipOf_2 rfl (fun H locs hG hS => ?_)
  have hG := hG.to mW_uo
  refine lv_iload_n hx hb dX5_shipOf_5 rfl (lv_at hl 1 rfl) ?_
  refine g_cSi (As := [.int (nI j)]) (rest := []) hx hb hml hown hts hK hA hG hS (k_X5_isShip l D cy N L (mW cy L F 0 ms ma mv mn mb ml mp mw mr mq mh) (nI j) ) (g_cwS 1 hts gX5_shipOf_X5_isShip rfl rfl rfl (by decide +kernel) ⟨Nat.le_of_ble_eq_true rfl, Nat.le_of_ble_eq_true rfl⟩) rfl rfl hl.1 (Nat.le_of_ble_eq_true rfl) dX5_shipOf_6 ⟨Nat.zero_le _, Nat.zero_le _⟩ (fun H locs hG hS => ?_)
  refine lv_toI (y := 1) (g_in_ship hj) ?_
  refine lv_if_ne (tgt := 18) hx hb dX5_shipOf_9 (by decide) (fun c_9 => ?_) (fun c_9 => ?_)
  · skip
    refine lv_iload_n hx hb dX5_shipOf_18 rfl (lv_at hl 2 rfl) ?_
    refine lv_iconst (v := 0) hx hb dX5_shipOf_19 (by decide) ?_
    refine lv_iconst (v := 1) hx hb dX5_shipOf_20 (by decide) ?_
    refine g_cSi (As := [.int b, .int 0, .int 1]) (rest := []) hx hb hml hown hts hK hA hG hS (k_X5_in l D cy N L (mW cy L F 0 ms ma mv mn mb ml mp mw mr mq mh) b 0 1 ) (g_cwS 3 hts gX5_shipOf_X5_in rfl rfl rfl (by decide +kernel) ⟨Nat.le_of_ble_eq_true rfl, Nat.le_of_ble_eq_true rfl⟩) rfl rfl hl.1 (Nat.le_of_ble_eq_true rfl) dX5_shipOf_21 ⟨Nat.zero_le _, Nat.zero_le _⟩ (fun H locs hG hS => ?_)
    refine lv_toI (y := 0) (h) ?_
    refine lv_if_eq (tgt := 43) hx hb dX5_shipOf_24 (by decide) (fun c_24 => ?_) (fun c_24 => ?_)
    · skip
      refine lv_aload_n hx hb dX5_shipOf_43 rfl (lv_at hl 0 rfl) ?_
      refine lv_iconst (v := 2) hx hb dX5_shipOf_44 (by decide) ?_
      refine g_cVi (As := [.int 2]) (rest := []) hx hb hml hown hts hK hA hG hS (k_X5_fails l D cy N L F hN 0 ms ma mv mn mb ml mp mw mr mq mh 2 ) (cwV 1 hts gX5_shipOf_X5_fails rfl rfl rfl (by decide +kernel) ⟨Nat.le_of_ble_eq_true rfl, Nat.le_of_ble_eq_true rfl⟩) i162 mW_o (ci := 5) rfl rfl rfl rfl hl.1 (Nat.le_of_ble_eq_true rfl) dX5_shipOf_45 ⟨Nat.zero_le _, Nat.zero_le _⟩ (fun H locs hG hS => ?_)
      exact g_iret hx hb hr hlocks hK hG hS rfl dX5_shipOf_48 ⟨rfl, rfl⟩
    · skip
      exact absurd c_24 (by decide)
  · skip
    exact absurd c_9 (by decide)
set_option maxHeartbeats 4000000 in
set_option maxRecDepth 100000 in
theorem k_X5_count_t1 (l : Launch) (D : va_G) (cy : Nat → ClassId) (N : Nat) (L : Nat → Nat) (F : Nat → va_E) (hN : 168 ≤ N) (mt : Int32) (ms ma mv : Nat → Int32) (mn : Int32) (mb : Nat → Int32) (ml mp mw : Int32) (mr : Nat → Int32) (mq : Int32) (mh : Int64) (a : Int32) (h : g_in a 0 14 = 0) : GM l D cy N L yX5_count wsX5_count ({ frames := 5, cells := 0, slots := 0, locals := 111 }) [.ref (L 162), .int a] (mW cy L F mt ms ma mv mn mb ml mp mw mr mq mh) (some (.int 0)) (mW cy L F 1 ms ma mv mn mb ml mp mw mr mq mh) := by
  refine GM.ofW (cc := cX5_count) (maxL := 2) (ret := (some .int)) (by decide) rfl (Nat.le_of_ble_eq_true rfl) ?_
  intro p e s m below meth c ls hx hb hr hts hown hlocks hml hK hA hG hS hl
  have hl : lv_has ls 2 [(0, .ref (L 162)), (1, .int a)] := hl
  have i162 : 162 < N := by omega
  have i163 : 163 < N := by omega
  have i164 : 164 < N := by omega
  have i165 : 165 < N := by omega
  have i166 : 166 < N := by omega
  have i167 : 167 < N := by omega
  have hf25 := hts (.fieldLink RX5 25 "SiloPadsModel" "thrown" "I") (by decide +kernel)
  have hinX5 : ∀ w ∈ u_ws RX5 TX5 12, w ∈ wsX5_count := by decide +kernel
  refine lv_aload_n hx hb dX5_count_0 rfl (lv_at hl 0 rfl) ?_
  refine lv_iconst (v := 0) hx hb dX5_count_1 (by decide) ?_
  refine g_put (ci := 5) (C := RX5) (T := TX5) (M := 12) (ty := .int) hx hb hts hinX5 tyX5 tyX5_ok nmX5 hown hK hG hS i162 mW_o rfl 0 (by decide) hf25 rfl rfl rfl rfl rfl (Nat.le_of_ble_eq_true rfl) dX5_count_2 rfl (fun H locs hG hS => ?_)
  have hG := hG.to mW_uo
  refine lv_iload_n hx hb dX5_count_5 rfl (lv_at hl 1 rfl) ?_
  refine lv_iconst (v := 0) hx hb dX5_count_6 (by decide) ?_
  refine lv_bipush (v := 14) hx hb dX5_count_7 (by decide) ?_
  refine g_cSi (As := [.int a, .int 0, .int 14]) (rest := []) hx hb hml hown hts hK hA hG hS (k_X5_in l D cy N L (mW cy L F 0 ms ma mv mn mb ml mp mw mr mq mh) a 0 14 ) (g_cwS 3 hts gX5_count_X5_in rfl rfl rfl (by decide +kernel) ⟨Nat.le_of_ble_eq_true rfl, Nat.le_of_ble_eq_true rfl⟩) rfl rfl hl.1 (Nat.le_of_ble_eq_true rfl) dX5_count_9 ⟨Nat.zero_le _, Nat.zero_le _⟩ (fun H locs hG hS => ?_)
  refine lv_toI (y := 0) (h) ?_
  refine lv_if_eq (tgt := 23) hx hb dX5_count_12 (by decide) (fun c_12 => ?_) (fun c_12 => ?_)
  · skip
    refine lv_aload_n hx hb dX5_count_23 rfl (lv_at hl 0 rfl) ?_
    refine lv_iconst (v := 1) hx hb dX5_count_24 (by decide) ?_
    refine g_cVi (As := [.int 1]) (rest := []) hx hb hml hown hts hK hA hG hS (k_X5_fails l D cy N L F hN 0 ms ma mv mn mb ml mp mw mr mq mh 1 ) (cwV 1 hts gX5_count_X5_fails rfl rfl rfl (by decide +kernel) ⟨Nat.le_of_ble_eq_true rfl, Nat.le_of_ble_eq_true rfl⟩) i162 mW_o (ci := 5) rfl rfl rfl rfl hl.1 (Nat.le_of_ble_eq_true rfl) dX5_count_25 ⟨Nat.zero_le _, Nat.zero_le _⟩ (fun H locs hG hS => ?_)
    exact g_iret hx hb hr hlocks hK hG hS rfl dX5_count_28 ⟨rfl, rfl⟩
  · skip
    exact absurd c_12 (by decide)
set_option maxHeartbeats 4000000 in
set_option maxRecDepth 100000 in
theorem k_X5_whyNot_t1 (l : Launch) (D : va_G) (cy : Nat → ClassId) (N : Nat) (L : Nat → Nat) (F : Nat → va_E) (hN : 168 ≤ N) (mt : Int32) (ms ma mv : Nat → Int32) (mn : Int32) (mb : Nat → Int32) (ml mp mw : Int32) (mr : Nat → Int32) (mq : Int32) (mh : Int64) (a b : Int32) (h : g_in a 0 3 = 0 ∨ g_in b 0 5 = 0) : GM l D cy N L yX5_whyNot wsX5_whyNot ({ frames := 5, cells := 0, slots := 0, locals := 111 }) [.ref (L 162), .int a, .int b] (mW cy L F mt ms ma mv mn mb ml mp mw mr mq mh) (some (.int 0)) (mW cy L F 1 ms ma mv mn mb ml mp mw mr mq mh) := by
  refine GM.ofW (cc := cX5_whyNot) (maxL := 3) (ret := (some .int)) (by decide) rfl (Nat.le_of_ble_eq_true rfl) ?_
  intro p e s m below meth c ls hx hb hr hts hown hlocks hml hK hA hG hS hl
  have hl : lv_has ls 3 [(0, .ref (L 162)), (1, .int a), (2, .int b)] := hl
  have i162 : 162 < N := by omega
  have i163 : 163 < N := by omega
  have i164 : 164 < N := by omega
  have i165 : 165 < N := by omega
  have i166 : 166 < N := by omega
  have i167 : 167 < N := by omega
  have hf25 := hts (.fieldLink RX5 25 "SiloPadsModel" "thrown" "I") (by decide +kernel)
  have hinX5 : ∀ w ∈ u_ws RX5 TX5 12, w ∈ wsX5_whyNot := by decide +kernel
  refine lv_aload_n hx hb dX5_whyNot_0 rfl (lv_at hl 0 rfl) ?_
  refine lv_iconst (v := 0) hx hb dX5_whyNot_1 (by decide) ?_
  refine g_put (ci := 5) (C := RX5) (T := TX5) (M := 12) (ty := .int) hx hb hts hinX5 tyX5 tyX5_ok nmX5 hown hK hG hS i162 mW_o rfl 0 (by decide) hf25 rfl rfl rfl rfl rfl (Nat.le_of_ble_eq_true rfl) dX5_whyNot_2 rfl (fun H locs hG hS => ?_)
  have hG := hG.to mW_uo
  refine lv_iload_n hx hb dX5_whyNot_5 rfl (lv_at hl 1 rfl) ?_
  refine g_cSi (As := [.int a]) (rest := []) hx hb hml hown hts hK hA hG hS (k_X5_isSilo l D cy N L (mW cy L F 0 ms ma mv mn mb ml mp mw mr mq mh) a ) (g_cwS 1 hts gX5_whyNot_X5_isSilo rfl rfl rfl (by decide +kernel) ⟨Nat.le_of_ble_eq_true rfl, Nat.le_of_ble_eq_true rfl⟩) rfl rfl hl.1 (Nat.le_of_ble_eq_true rfl) dX5_whyNot_6 ⟨Nat.zero_le _, Nat.zero_le _⟩ (fun H locs hG hS => ?_)
  refine lv_if_eq (tgt := 28) hx hb dX5_whyNot_9 (by decide) (fun c_9 => ?_) (fun c_9 => ?_)
  · skip
    refine lv_aload_n hx hb dX5_whyNot_28 rfl (lv_at hl 0 rfl) ?_
    refine lv_iconst (v := 1) hx hb dX5_whyNot_29 (by decide) ?_
    refine g_cVi (As := [.int 1]) (rest := []) hx hb hml hown hts hK hA hG hS (k_X5_fails l D cy N L F hN 0 ms ma mv mn mb ml mp mw mr mq mh 1 ) (cwV 1 hts gX5_whyNot_X5_fails rfl rfl rfl (by decide +kernel) ⟨Nat.le_of_ble_eq_true rfl, Nat.le_of_ble_eq_true rfl⟩) i162 mW_o (ci := 5) rfl rfl rfl rfl hl.1 (Nat.le_of_ble_eq_true rfl) dX5_whyNot_30 ⟨Nat.zero_le _, Nat.zero_le _⟩ (fun H locs hG hS => ?_)
    exact g_iret hx hb hr hlocks hK hG hS rfl dX5_whyNot_33 ⟨rfl, rfl⟩
  · skip
    refine lv_iload_n hx hb dX5_whyNot_12 rfl (lv_at hl 2 rfl) ?_
    refine g_cSi (As := [.int b]) (rest := []) hx hb hml hown hts hK hA hG hS (k_X5_isShip l D cy N L (mW cy L F 0 ms ma mv mn mb ml mp mw mr mq mh) b ) (g_cwS 1 hts gX5_whyNot_X5_isShip rfl rfl rfl (by decide +kernel) ⟨Nat.le_of_ble_eq_true rfl, Nat.le_of_ble_eq_true rfl⟩) rfl rfl hl.1 (Nat.le_of_ble_eq_true rfl) dX5_whyNot_13 ⟨Nat.zero_le _, Nat.zero_le _⟩ (fun H locs hG hS => ?_)
    refine lv_if_eq (tgt := 28) hx hb dX5_whyNot_16 (by decide) (fun c_16 => ?_) (fun c_16 => ?_)
    · skip
      refine lv_aload_n hx hb dX5_whyNot_28 rfl (lv_at hl 0 rfl) ?_
      refine lv_iconst (v := 1) hx hb dX5_whyNot_29 (by decide) ?_
      refine g_cVi (As := [.int 1]) (rest := []) hx hb hml hown hts hK hA hG hS (k_X5_fails l D cy N L F hN 0 ms ma mv mn mb ml mp mw mr mq mh 1 ) (cwV 1 hts gX5_whyNot_X5_fails rfl rfl rfl (by decide +kernel) ⟨Nat.le_of_ble_eq_true rfl, Nat.le_of_ble_eq_true rfl⟩) i162 mW_o (ci := 5) rfl rfl rfl rfl hl.1 (Nat.le_of_ble_eq_true rfl) dX5_whyNot_30 ⟨Nat.zero_le _, Nat.zero_le _⟩ (fun H locs hG hS => ?_)
      exact g_iret hx hb hr hlocks hK hG hS rfl dX5_whyNot_33 ⟨rfl, rfl⟩
    · skip
      exact h.elim (fun h9 => absurd h9 c_9) (fun h9 => absurd h9 c_16)
set_option maxHeartbeats 4000000 in
set_option maxRecDepth 100000 in
theorem k_X5_ifFlowed_t1 (l : Launch) (D : va_G) (cy : Nat → ClassId) (N : Nat) (L : Nat → Nat) (F : Nat → va_E) (hN : 168 ≤ N) (mt : Int32) (ms ma mv : Nat → Int32) (mn : Int32) (mb : Nat → Int32) (ml mp mw : Int32) (mr : Nat → Int32) (mq : Int32) (mh : Int64) (a b t u : Int32) (h : g_in a 0 3 = 0 ∨ g_in b 0 5 = 0) : GM l D cy N L yX5_ifFlowed wsX5_ifFlowed ({ frames := 7, cells := 0, slots := 0, locals := 164 }) [.ref (L 162), .int a, .int b, .int t, .int u] (mW cy L F mt ms ma mv mn mb ml mp mw mr mq mh) (some (.int 0)) (mW cy L F 1 ms ma mv mn mb ml mp mw mr mq mh) := by
  refine GM.ofW (cc := cX5_ifFlowed) (maxL := 5) (ret := (some .int)) (by decide) rfl (Nat.le_of_ble_eq_true rfl) ?_
  intro p e s m below meth c ls hx hb hr hts hown hlocks hml hK hA hG hS hl
  have hl : lv_has ls 5 [(0, .ref (L 162)), (1, .int a), (2, .int b), (3, .int t), (4, .int u)] := hl
  have i162 : 162 < N := by omega
  have i163 : 163 < N := by omega
  have i164 : 164 < N := by omega
  have i165 : 165 < N := by omega
  have i166 : 166 < N := by omega
  have i167 : 167 < N := by omega
  have hf25 := hts (.fieldLink RX5 25 "SiloPadsModel" "thrown" "I") (by decide +kernel)
  have hinX5 : ∀ w ∈ u_ws RX5 TX5 12, w ∈ wsX5_ifFlowed := by decide +kernel
  refine lv_aload_n hx hb dX5_ifFlowed_0 rfl (lv_at hl 0 rfl) ?_
  refine lv_iconst (v := 0) hx hb dX5_ifFlowed_1 (by decide) ?_
  refine g_put (ci := 5) (C := RX5) (T := TX5) (M := 12) (ty := .int) hx hb hts hinX5 tyX5 tyX5_ok nmX5 hown hK hG hS i162 mW_o rfl 0 (by decide) hf25 rfl rfl rfl rfl rfl (Nat.le_of_ble_eq_true rfl) dX5_ifFlowed_2 rfl (fun H locs hG hS => ?_)
  have hG := hG.to mW_uo
  refine lv_iload_n hx hb dX5_ifFlowed_5 rfl (lv_at hl 1 rfl) ?_
  refine g_cSi (As := [.int a]) (rest := []) hx hb hml hown hts hK hA hG hS (k_X5_isSilo l D cy N L (mW cy L F 0 ms ma mv mn mb ml mp mw mr mq mh) a ) (g_cwS 1 hts gX5_ifFlowed_X5_isSilo rfl rfl rfl (by decide +kernel) ⟨Nat.le_of_ble_eq_true rfl, Nat.le_of_ble_eq_true rfl⟩) rfl rfl hl.1 (Nat.le_of_ble_eq_true rfl) dX5_ifFlowed_6 ⟨Nat.zero_le _, Nat.zero_le _⟩ (fun H locs hG hS => ?_)
  refine lv_if_eq (tgt := 19) hx hb dX5_ifFlowed_9 (by decide) (fun c_9 => ?_) (fun c_9 => ?_)
  · skip
    refine lv_aload_n hx hb dX5_ifFlowed_19 rfl (lv_at hl 0 rfl) ?_
    refine lv_iconst (v := 1) hx hb dX5_ifFlowed_20 (by decide) ?_
    refine g_cVi (As := [.int 1]) (rest := []) hx hb hml hown hts hK hA hG hS (k_X5_fails l D cy N L F hN 0 ms ma mv mn mb ml mp mw mr mq mh 1 ) (cwV 1 hts gX5_ifFlowed_X5_fails rfl rfl rfl (by decide +kernel) ⟨Nat.le_of_ble_eq_true rfl, Nat.le_of_ble_eq_true rfl⟩) i162 mW_o (ci := 5) rfl rfl rfl rfl hl.1 (Nat.le_of_ble_eq_true rfl) dX5_ifFlowed_21 ⟨Nat.zero_le _, Nat.zero_le _⟩ (fun H locs hG hS => ?_)
    exact g_iret hx hb hr hlocks hK hG hS rfl dX5_ifFlowed_24 ⟨rfl, rfl⟩
  · skip
    refine lv_iload_n hx hb dX5_ifFlowed_12 rfl (lv_at hl 2 rfl) ?_
    refine g_cSi (As := [.int b]) (rest := []) hx hb hml hown hts hK hA hG hS (k_X5_isShip l D cy N L (mW cy L F 0 ms ma mv mn mb ml mp mw mr mq mh) b ) (g_cwS 1 hts gX5_ifFlowed_X5_isShip rfl rfl rfl (by decide +kernel) ⟨Nat.le_of_ble_eq_true rfl, Nat.le_of_ble_eq_true rfl⟩) rfl rfl hl.1 (Nat.le_of_ble_eq_true rfl) dX5_ifFlowed_13 ⟨Nat.zero_le _, Nat.zero_le _⟩ (fun H locs hG hS => ?_)
    refine lv_if_ne (tgt := 25) hx hb dX5_ifFlowed_16 (by decide) (fun c_16 => ?_) (fun c_16 => ?_)
    · skip
      exact h.elim (fun h9 => absurd h9 c_9) (fun h9 => absurd h9 c_16)
    · skip
      refine lv_aload_n hx hb dX5_ifFlowed_19 rfl (lv_at hl 0 rfl) ?_
      refine lv_iconst (v := 1) hx hb dX5_ifFlowed_20 (by decide) ?_
      refine g_cVi (As := [.int 1]) (rest := []) hx hb hml hown hts hK hA hG hS (k_X5_fails l D cy N L F hN 0 ms ma mv mn mb ml mp mw mr mq mh 1 ) (cwV 1 hts gX5_ifFlowed_X5_fails rfl rfl rfl (by decide +kernel) ⟨Nat.le_of_ble_eq_true rfl, Nat.le_of_ble_eq_true rfl⟩) i162 mW_o (ci := 5) rfl rfl rfl rfl hl.1 (Nat.le_of_ble_eq_true rfl) dX5_ifFlowed_21 ⟨Nat.zero_le _, Nat.zero_le _⟩ (fun H locs hG hS => ?_)
      exact g_iret hx hb hr hlocks hK hG hS rfl dX5_ifFlowed_24 ⟨rfl, rfl⟩
set_option maxHeartbeats 4000000 in
set_option maxRecDepth 100000 in
theorem k_X5_ifFlowed_t2 (l : Launch) (D : va_G) (cy : Nat → ClassId) (N : Nat) (L : Nat → Nat) (F : Nat → va_E) (hN : 168 ≤ N) (mt : Int32) (ms ma mv : Nat → Int32) (mn : Int32) (mb : Nat → Int32) (ml mp mw : Int32) (mr : Nat → Int32) (mq : Int32) (mh : Int64) (k j : Nat) (t u : Int32) (hk : k < 4) (hj : j < 6) (h : g_in t 1 24 = 0 ∨ g_in u 0 4 = 0) : GM l D cy N L yX5_ifFlowed wsX5_ifFlowed ({ frames := 7, cells := 0, slots := 0, locals := 164 }) [.ref (L 162), .int (nI k), .int (nI j), .int t, .int u] (mW cy L F mt ms ma mv mn mb ml mp mw mr mq mh) (some (.int 0)) (mW cy L F 2 ms ma mv mn mb ml mp mw mr mq mh) := by
  refine GM.ofW (cc := cX5_ifFlowed) (maxL := 5) (ret := (some .int)) (by decide) rfl (Nat.le_of_ble_eq_true rfl) ?_
  intro p e s m below meth c ls hx hb hr hts hown hlocks hml hK hA hG hS hl
  have hl : lv_has ls 5 [(0, .ref (L 162)), (1, .int (nI k)), (2, .int (nI j)), (3, .int t), (4, .int u)] := hl
  have i162 : 162 < N := by omega
  have i163 : 163 < N := by omega
  have i164 : 164 < N := by omega
  have i165 : 165 < N := by omega
  have i166 : 166 < N := by omega
  have i167 : 167 < N := by omega
  have hf25 := hts (.fieldLink RX5 25 "SiloPadsModel" "thrown" "I") (by decide +kernel)
  have hinX5 : ∀ w ∈ u_ws RX5 TX5 12, w ∈ wsX5_ifFlowed := by decide +kernel
  refine lv_aload_n hx hb dX5_ifFlowed_0 rfl (lv_at hl 0 rfl) ?_
  refine lv_iconst (v := 0) hx hb dX5_ifFlowed_1 (by decide) ?_
  refine g_put (ci := 5) (C := RX5) (T := TX5) (M := 12) (ty := .int) hx hb hts hinX5 tyX5 tyX5_ok nmX5 hown hK hG hS i162 mW_o rfl 0 (by decide) hf25 rfl rfl rfl rfl rfl (Nat.le_of_ble_eq_true rfl) dX5_ifFlowed_2 rfl (fun H locs hG hS => ?_)
  have hG := hG.to mW_uo
  refine lv_iload_n hx hb dX5_ifFlowed_5 rfl (lv_at hl 1 rfl) ?_
  refine g_cSi (As := [.int (nI k)]) (rest := []) hx hb hml hown hts hK hA hG hS (k_X5_isSilo l D cy N L (mW cy L F 0 ms ma mv mn mb ml mp mw mr mq mh) (nI k) ) (g_cwS 1 hts gX5_ifFlowed_X5_isSilo rfl rfl rfl (by decide +kernel) ⟨Nat.le_of_ble_eq_true rfl, Nat.le_of_ble_eq_true rfl⟩) rfl rfl hl.1 (Nat.le_of_ble_eq_true rfl) dX5_ifFlowed_6 ⟨Nat.zero_le _, Nat.zero_le _⟩ (fun H locs hG hS => ?_)
  refine lv_toI (y := 1) (g_in_silo hk) ?_
  refine lv_if_eq (tgt := 19) hx hb dX5_ifFlowed_9 (by decide) (fun c_9 => ?_) (fun c_9 => ?_)
  · skip
    exact absurd c_9 (by decide)
  · skip
    refine lv_iload_n hx hb dX5_ifFlowed_12 rfl (lv_at hl 2 rfl) ?_
    refine g_cSi (As := [.int (nI j)]) (rest := []) hx hb hml hown hts hK hA hG hS (k_X5_isShip l D cy N L (mW cy L F 0 ms ma mv mn mb ml mp mw mr mq mh) (nI j) ) (g_cwS 1 hts gX5_ifFlowed_X5_isShip rfl rfl rfl (by decide +kernel) ⟨Nat.le_of_ble_eq_true rfl, Nat.le_of_ble_eq_true rfl⟩) rfl rfl hl.1 (Nat.le_of_ble_eq_true rfl) dX5_ifFlowed_13 ⟨Nat.zero_le _, Nat.zero_le _⟩ (fun H locs hG hS => ?_)
    refine lv_toI (y := 1) (g_in_ship hj) ?_
    refine lv_if_ne (tgt := 25) hx hb dX5_ifFlowed_16 (by decide) (fun c_16 => ?_) (fun c_16 => ?_)
    · skip
      refine lv_iload_n hx hb dX5_ifFlowed_25 rfl (lv_at hl 3 rfl) ?_
      refine lv_iconst (v := 1) hx hb dX5_ifFlowed_26 (by decide) ?_
      refine lv_bipush (v := 24) hx hb dX5_ifFlowed_27 (by decide) ?_
      refine g_cSi (As := [.int t, .int 1, .int 24]) (rest := []) hx hb hml hown hts hK hA hG hS (k_X5_in l D cy N L (mW cy L F 0 ms ma mv mn mb ml mp mw mr mq mh) t 1 24 ) (g_cwS 3 hts gX5_ifFlowed_X5_in rfl rfl rfl (by decide +kernel) ⟨Nat.le_of_ble_eq_true rfl, Nat.le_of_ble_eq_true rfl⟩) rfl rfl hl.1 (Nat.le_of_ble_eq_true rfl) dX5_ifFlowed_29 ⟨Nat.zero_le _, Nat.zero_le _⟩ (fun H locs hG hS => ?_)
      refine lv_if_eq (tgt := 57) hx hb dX5_ifFlowed_32 (by decide) (fun c_32 => ?_) (fun c_32 => ?_)
      · skip
        refine lv_aload_n hx hb dX5_ifFlowed_57 rfl (lv_at hl 0 rfl) ?_
        refine lv_iconst (v := 2) hx hb dX5_ifFlowed_58 (by decide) ?_
        refine g_cVi (As := [.int 2]) (rest := []) hx hb hml hown hts hK hA hG hS (k_X5_fails l D cy N L F hN 0 ms ma mv mn mb ml mp mw mr mq mh 2 ) (cwV 1 hts gX5_ifFlowed_X5_fails rfl rfl rfl (by decide +kernel) ⟨Nat.le_of_ble_eq_true rfl, Nat.le_of_ble_eq_true rfl⟩) i162 mW_o (ci := 5) rfl rfl rfl rfl hl.1 (Nat.le_of_ble_eq_true rfl) dX5_ifFlowed_59 ⟨Nat.zero_le _, Nat.zero_le _⟩ (fun H locs hG hS => ?_)
        exact g_iret hx hb hr hlocks hK hG hS rfl dX5_ifFlowed_62 ⟨rfl, rfl⟩
      · skip
        refine lv_iload hx hb dX5_ifFlowed_35 (lv_at hl 4 rfl) ?_
        refine lv_iconst (v := 0) hx hb dX5_ifFlowed_37 (by decide) ?_
        refine lv_iconst (v := 4) hx hb dX5_ifFlowed_38 (by decide) ?_
        refine g_cSi (As := [.int u, .int 0, .int 4]) (rest := []) hx hb hml hown hts hK hA hG hS (k_X5_in l D cy N L (mW cy L F 0 ms ma mv mn mb ml mp mw mr mq mh) u 0 4 ) (g_cwS 3 hts gX5_ifFlowed_X5_in rfl rfl rfl (by decide +kernel) ⟨Nat.le_of_ble_eq_true rfl, Nat.le_of_ble_eq_true rfl⟩) rfl rfl hl.1 (Nat.le_of_ble_eq_true rfl) dX5_ifFlowed_39 ⟨Nat.zero_le _, Nat.zero_le _⟩ (fun H locs hG hS => ?_)
        refine lv_if_eq (tgt := 57) hx hb dX5_ifFlowed_42 (by decide) (fun c_42 => ?_) (fun c_42 => ?_)
        · skip
          refine lv_aload_n hx hb dX5_ifFlowed_57 rfl (lv_at hl 0 rfl) ?_
          refine lv_iconst (v := 2) hx hb dX5_ifFlowed_58 (by decide) ?_
          refine g_cVi (As := [.int 2]) (rest := []) hx hb hml hown hts hK hA hG hS (k_X5_fails l D cy N L F hN 0 ms ma mv mn mb ml mp mw mr mq mh 2 ) (cwV 1 hts gX5_ifFlowed_X5_fails rfl rfl rfl (by decide +kernel) ⟨Nat.le_of_ble_eq_true rfl, Nat.le_of_ble_eq_true rfl⟩) i162 mW_o (ci := 5) rfl rfl rfl rfl hl.1 (Nat.le_of_ble_eq_true rfl) dX5_ifFlowed_59 ⟨Nat.zero_le _, Nat.zero_le _⟩ (fun H locs hG hS => ?_)
          exact g_iret hx hb hr hlocks hK hG hS rfl dX5_ifFlowed_62 ⟨rfl, rfl⟩
        · skip
          exact h.elim (fun h9 => absurd h9 c_32) (fun h9 => absurd h9 c_42)
    · skip
      exact absurd c_16 (by decide)
set_option maxHeartbeats 4000000 in
set_option maxRecDepth 100000 in
theorem k_X5_shakesNeeded_t1 (l : Launch) (D : va_G) (cy : Nat → ClassId) (N : Nat) (L : Nat → Nat) (F : Nat → va_E) (hN : 168 ≤ N) (mt : Int32) (ms ma mv : Nat → Int32) (mn : Int32) (mb : Nat → Int32) (ml mp mw : Int32) (mr : Nat → Int32) (mq : Int32) (mh : Int64) (a : Int32) (h : g_in a 0 3 = 0) : GM l D cy N L yX5_shakesNeeded wsX5_shakesNeeded ({ frames := 5, cells := 0, slots := 0, locals := 110 }) [.ref (L 162), .int a] (mW cy L F mt ms ma mv mn mb ml mp mw mr mq mh) (some (.int 0)) (mW cy L F 1 ms ma mv mn mb ml mp mw mr mq mh) := by
  refine GM.ofW (cc := cX5_shakesNeeded) (maxL := 2) (ret := (some .int)) (by decide) rfl (Nat.le_of_ble_eq_true rfl) ?_
  intro p e s m below meth c ls hx hb hr hts hown hlocks hml hK hA hG hS hl
  have hl : lv_has ls 2 [(0, .ref (L 162)), (1, .int a)] := hl
  have i162 : 162 < N := by omega
  have i163 : 163 < N := by omega
  have i164 : 164 < N := by omega
  have i165 : 165 < N := by omega
  have i166 : 166 < N := by omega
  have i167 : 167 < N := by omega
  have hf25 := hts (.fieldLink RX5 25 "SiloPadsModel" "thrown" "I") (by decide +kernel)
  have hinX5 : ∀ w ∈ u_ws RX5 TX5 12, w ∈ wsX5_shakesNeeded := by decide +kernel
  refine lv_aload_n hx hb dX5_shakesNeeded_0 rfl (lv_at hl 0 rfl) ?_
  refine lv_iconst (v := 0) hx hb dX5_shakesNeeded_1 (by decide) ?_
  refine g_put (ci := 5) (C := RX5) (T := TX5) (M := 12) (ty := .int) hx hb hts hinX5 tyX5 tyX5_ok nmX5 hown hK hG hS i162 mW_o rfl 0 (by decide) hf25 rfl rfl rfl rfl rfl (Nat.le_of_ble_eq_true rfl) dX5_shakesNeeded_2 rfl (fun H locs hG hS => ?_)
  have hG := hG.to mW_uo
  refine lv_iload_n hx hb dX5_shakesNeeded_5 rfl (lv_at hl 1 rfl) ?_
  refine g_cSi (As := [.int a]) (rest := []) hx hb hml hown hts hK hA hG hS (k_X5_isSilo l D cy N L (mW cy L F 0 ms ma mv mn mb ml mp mw mr mq mh) a ) (g_cwS 1 hts gX5_shakesNeeded_X5_isSilo rfl rfl rfl (by decide +kernel) ⟨Nat.le_of_ble_eq_true rfl, Nat.le_of_ble_eq_true rfl⟩) rfl rfl hl.1 (Nat.le_of_ble_eq_true rfl) dX5_shakesNeeded_6 ⟨Nat.zero_le _, Nat.zero_le _⟩ (fun H locs hG hS => ?_)
  refine lv_toI (y := 0) (h) ?_
  refine lv_if_eq (tgt := 20) hx hb dX5_shakesNeeded_9 (by decide) (fun c_9 => ?_) (fun c_9 => ?_)
  · skip
    refine lv_aload_n hx hb dX5_shakesNeeded_20 rfl (lv_at hl 0 rfl) ?_
    refine lv_iconst (v := 1) hx hb dX5_shakesNeeded_21 (by decide) ?_
    refine g_cVi (As := [.int 1]) (rest := []) hx hb hml hown hts hK hA hG hS (k_X5_fails l D cy N L F hN 0 ms ma mv mn mb ml mp mw mr mq mh 1 ) (cwV 1 hts gX5_shakesNeeded_X5_fails rfl rfl rfl (by decide +kernel) ⟨Nat.le_of_ble_eq_true rfl, Nat.le_of_ble_eq_true rfl⟩) i162 mW_o (ci := 5) rfl rfl rfl rfl hl.1 (Nat.le_of_ble_eq_true rfl) dX5_shakesNeeded_22 ⟨Nat.zero_le _, Nat.zero_le _⟩ (fun H locs hG hS => ?_)
    exact g_iret hx hb hr hlocks hK hG hS rfl dX5_shakesNeeded_25 ⟨rfl, rfl⟩
  · skip
    exact absurd c_9 (by decide)
set_option maxHeartbeats 4000000 in
set_option maxRecDepth 100000 in
theorem k_X5_unload_ok (l : Launch) (D : va_G) (cy : Nat → ClassId) (N : Nat) (L : Nat → Nat) (F : Nat → va_E) (hN : 168 ≤ N) (mt : Int32) (ms ma mv : Nat → Int32) (mn : Int32) (mb : Nat → Int32) (ml mp mw : Int32) (mr : Nat → Int32) (mq : Int32) (mh : Int64) (k j w : Nat) (t : Int32) (hw6 : w ≤ 6) (hw : wfM ms) (hk : k < 4) (hj : j < 6) (h : g_in t 1 500 = 1) : GM l D cy N L yX5_unload wsX5_unload ({ frames := 5, cells := 0, slots := 0, locals := 118 }) [.ref (L 162), .int (nI k), .int (nI j), .int t] (mW cy L F mt ms ma mv (nI w) mb ml mp mw mr mq mh) (some (.int (g_unlR ms k j (Nn ms k) t))) (mW cy L F 0 (g_unlS ms k j (Nn ms k) t) ma (g_saveV mv ms w) (nI (g_saveN w)) mb ml mp mw mr mq mh) := by
  refine GM.ofW (cc := cX5_unload) (maxL := 4) (ret := (some .int)) (by decide) rfl (Nat.le_of_ble_eq_true rfl) ?_
  intro p e s m below meth c ls hx hb hr hts hown hlocks hml hK hA hG hS hl
  have hl : lv_has ls 4 [(0, .ref (L 162)), (1, .int (nI k)), (2, .int (nI j)), (3, .int t)] := hl
  have i162 : 162 < N := by omega
  have i163 : 163 < N := by omega
  have i164 : 164 < N := by omega
  have i165 : 165 < N := by omega
  have i166 : 166 < N := by omega
  have i167 : 167 < N := by omega
  have hf25 := hts (.fieldLink RX5 25 "SiloPadsModel" "thrown" "I") (by decide +kernel)
  have hinX5 : ∀ w ∈ u_ws RX5 TX5 12, w ∈ wsX5_unload := by decide +kernel
  refine lv_aload_n hx hb dX5_unload_0 rfl (lv_at hl 0 rfl) ?_
  refine lv_iconst (v := 0) hx hb dX5_unload_1 (by decide) ?_
  refine g_put (ci := 5) (C := RX5) (T := TX5) (M := 12) (ty := .int) hx hb hts hinX5 tyX5 tyX5_ok nmX5 hown hK hG hS i162 mW_o rfl 0 (by decide) hf25 rfl rfl rfl rfl rfl (Nat.le_of_ble_eq_true rfl) dX5_unload_2 rfl (fun H locs hG hS => ?_)
  have hG := hG.to mW_uo
  refine lv_iload_n hx hb dX5_unload_5 rfl (lv_at hl 1 rfl) ?_
  refine g_cSi (As := [.int (nI k)]) (rest := []) hx hb hml hown hts hK hA hG hS (k_X5_isSilo l D cy N L (mW cy L F 0 ms ma mv (nI w) mb ml mp mw mr mq mh) (nI k) ) (g_cwS 1 hts gX5_unload_X5_isSilo rfl rfl rfl (by decide +kernel) ⟨Nat.le_of_ble_eq_true rfl, Nat.le_of_ble_eq_true rfl⟩) rfl rfl hl.1 (Nat.le_of_ble_eq_true rfl) dX5_unload_6 ⟨Nat.zero_le _, Nat.zero_le _⟩ (fun H locs hG hS => ?_)
  refine lv_toI (y := 1) (g_in_silo hk) ?_
  refine lv_if_eq (tgt := 19) hx hb dX5_unload_9 (by decide) (fun c_9 => ?_) (fun c_9 => ?_)
  · skip
    exact absurd c_9 (by decide)
  · skip
    refine lv_iload_n hx hb dX5_unload_12 rfl (lv_at hl 2 rfl) ?_
    refine g_cSi (As := [.int (nI j)]) (rest := []) hx hb hml hown hts hK hA hG hS (k_X5_isShip l D cy N L (mW cy L F 0 ms ma mv (nI w) mb ml mp mw mr mq mh) (nI j) ) (g_cwS 1 hts gX5_unload_X5_isShip rfl rfl rfl (by decide +kernel) ⟨Nat.le_of_ble_eq_true rfl, Nat.le_of_ble_eq_true rfl⟩) rfl rfl hl.1 (Nat.le_of_ble_eq_true rfl) dX5_unload_13 ⟨Nat.zero_le _, Nat.zero_le _⟩ (fun H locs hG hS => ?_)
    refine lv_toI (y := 1) (g_in_ship hj) ?_
    refine lv_if_ne (tgt := 25) hx hb dX5_unload_16 (by decide) (fun c_16 => ?_) (fun c_16 => ?_)
    · skip
      refine lv_iload_n hx hb dX5_unload_25 rfl (lv_at hl 3 rfl) ?_
      refine lv_iconst (v := 1) hx hb dX5_unload_26 (by decide) ?_
      refine lv_sipush (v := 500) hx hb dX5_unload_27 (by decide) ?_
      refine g_cSi (As := [.int t, .int 1, .int 500]) (rest := []) hx hb hml hown hts hK hA hG hS (k_X5_in l D cy N L (mW cy L F 0 ms ma mv (nI w) mb ml mp mw mr mq mh) t 1 500 ) (g_cwS 3 hts gX5_unload_X5_in rfl rfl rfl (by decide +kernel) ⟨Nat.le_of_ble_eq_true rfl, Nat.le_of_ble_eq_true rfl⟩) rfl rfl hl.1 (Nat.le_of_ble_eq_true rfl) dX5_unload_30 ⟨Nat.zero_le _, Nat.zero_le _⟩ (fun H locs hG hS => ?_)
      refine lv_toI (y := 1) (h) ?_
      refine lv_if_ne (tgt := 42) hx hb dX5_unload_33 (by decide) (fun c_33 => ?_) (fun c_33 => ?_)
      · skip
        refine lv_aload_n hx hb dX5_unload_42 rfl (lv_at hl 0 rfl) ?_
        refine g_cVv (As := []) (rest := []) hx hb hml hown hts hK hA hG hS (k_X5_saves l D cy N L F hN 0 ms ma mv (nI w) mb ml mp mw mr mq mh w (hw6)) (cwV 0 hts gX5_unload_X5_saves rfl rfl rfl (by decide +kernel) ⟨Nat.le_of_ble_eq_true rfl, Nat.le_of_ble_eq_true rfl⟩) i162 mW_o (ci := 5) rfl rfl rfl rfl hl.1 (Nat.le_of_ble_eq_true rfl) dX5_unload_43 ⟨Nat.zero_le _, Nat.zero_le _⟩ (fun H locs hG hS => ?_)
        refine lv_aload_n hx hb dX5_unload_46 rfl (lv_at hl 0 rfl) ?_
        refine lv_iload_n hx hb dX5_unload_47 rfl (lv_at hl 1 rfl) ?_
        refine lv_iload_n hx hb dX5_unload_48 rfl (lv_at hl 2 rfl) ?_
        refine lv_iload_n hx hb dX5_unload_49 rfl (lv_at hl 3 rfl) ?_
        refine g_cVi (As := [.int (nI k), .int (nI j), .int t]) (rest := []) hx hb hml hown hts hK hA hG hS (k_X5_unloads l D cy N L F hN 0 ms ma (g_saveV mv ms w) (nI (g_saveN w)) mb ml mp mw mr mq mh k j (Nn ms k) t (by omega) ((hw.1 k hk).1) ((hw.1 k hk).2) (by omega)) (cwV 3 hts gX5_unload_X5_unloads rfl rfl rfl (by decide +kernel) ⟨Nat.le_of_ble_eq_true rfl, Nat.le_of_ble_eq_true rfl⟩) i162 mW_o (ci := 5) rfl rfl rfl rfl hl.1 (Nat.le_of_ble_eq_true rfl) dX5_unload_50 ⟨Nat.zero_le _, Nat.zero_le _⟩ (fun H locs hG hS => ?_)
        exact g_iret hx hb hr hlocks hK hG hS rfl dX5_unload_53 ⟨rfl, rfl⟩
      · skip
        exact absurd c_33 (by decide)
    · skip
      exact absurd c_16 (by decide)
set_option maxHeartbeats 4000000 in
set_option maxRecDepth 100000 in
theorem k_X5_flow_ok (l : Launch) (D : va_G) (cy : Nat → ClassId) (N : Nat) (L : Nat → Nat) (F : Nat → va_E) (hN : 168 ≤ N) (mt : Int32) (ms ma mv : Nat → Int32) (mn : Int32) (mb : Nat → Int32) (ml mp mw : Int32) (mr : Nat → Int32) (mq : Int32) (mh : Int64) (k j q w : Nat) (hw6 : w ≤ 6) (hw : wfM ms) (hk : k < 4) (hj : j < 6) (h1 : 1 ≤ q) (h2 : q ≤ 24) : GM l D cy N L yX5_flow wsX5_flow ({ frames := 6, cells := 0, slots := 0, locals := 139 }) [.ref (L 162), .int (nI k), .int (nI j), .int (nI q)] (mW cy L F mt ms ma mv (nI w) mb ml mp mw mr mq mh) (some (.int (g_hoursR ms k j q))) (mW cy L F 0 (g_hoursS ms k j q) ma (g_saveV mv ms w) (nI (g_saveN w)) mb ml mp mw mr mq mh) := by
  refine GM.ofW (cc := cX5_flow) (maxL := 4) (ret := (some .int)) (by decide) rfl (Nat.le_of_ble_eq_true rfl) ?_
  intro p e s m below meth c ls hx hb hr hts hown hlocks hml hK hA hG hS hl
  have hl : lv_has ls 4 [(0, .ref (L 162)), (1, .int (nI k)), (2, .int (nI j)), (3, .int (nI q))] := hl
  have i162 : 162 < N := by omega
  have i163 : 163 < N := by omega
  have i164 : 164 < N := by omega
  have i165 : 165 < N := by omega
  have i166 : 166 < N := by omega
  have i167 : 167 < N := by omega
  have hf25 := hts (.fieldLink RX5 25 "SiloPadsModel" "thrown" "I") (by decide +kernel)
  have hinX5 : ∀ w ∈ u_ws RX5 TX5 12, w ∈ wsX5_flow := by decide +kernel
  refine lv_aload_n hx hb dX5_flow_0 rfl (lv_at hl 0 rfl) ?_
  refine lv_iconst (v := 0) hx hb dX5_flow_1 (by decide) ?_
  refine g_put (ci := 5) (C := RX5) (T := TX5) (M := 12) (ty := .int) hx hb hts hinX5 tyX5 tyX5_ok nmX5 hown hK hG hS i162 mW_o rfl 0 (by decide) hf25 rfl rfl rfl rfl rfl (Nat.le_of_ble_eq_true rfl) dX5_flow_2 rfl (fun H locs hG hS => ?_)
  have hG := hG.to mW_uo
  refine lv_iload_n hx hb dX5_flow_5 rfl (lv_at hl 1 rfl) ?_
  refine g_cSi (As := [.int (nI k)]) (rest := []) hx hb hml hown hts hK hA hG hS (k_X5_isSilo l D cy N L (mW cy L F 0 ms ma mv (nI w) mb ml mp mw mr mq mh) (nI k) ) (g_cwS 1 hts gX5_flow_X5_isSilo rfl rfl rfl (by decide +kernel) ⟨Nat.le_of_ble_eq_true rfl, Nat.le_of_ble_eq_true rfl⟩) rfl rfl hl.1 (Nat.le_of_ble_eq_true rfl) dX5_flow_6 ⟨Nat.zero_le _, Nat.zero_le _⟩ (fun H locs hG hS => ?_)
  refine lv_toI (y := 1) (g_in_silo hk) ?_
  refine lv_if_eq (tgt := 19) hx hb dX5_flow_9 (by decide) (fun c_9 => ?_) (fun c_9 => ?_)
  · skip
    exact absurd c_9 (by decide)
  · skip
    refine lv_iload_n hx hb dX5_flow_12 rfl (lv_at hl 2 rfl) ?_
    refine g_cSi (As := [.int (nI j)]) (rest := []) hx hb hml hown hts hK hA hG hS (k_X5_isShip l D cy N L (mW cy L F 0 ms ma mv (nI w) mb ml mp mw mr mq mh) (nI j) ) (g_cwS 1 hts gX5_flow_X5_isShip rfl rfl rfl (by decide +kernel) ⟨Nat.le_of_ble_eq_true rfl, Nat.le_of_ble_eq_true rfl⟩) rfl rfl hl.1 (Nat.le_of_ble_eq_true rfl) dX5_flow_13 ⟨Nat.zero_le _, Nat.zero_le _⟩ (fun H locs hG hS => ?_)
    refine lv_toI (y := 1) (g_in_ship hj) ?_
    refine lv_if_ne (tgt := 25) hx hb dX5_flow_16 (by decide) (fun c_16 => ?_) (fun c_16 => ?_)
    · skip
      refine lv_iload_n hx hb dX5_flow_25 rfl (lv_at hl 3 rfl) ?_
      refine lv_iconst (v := 1) hx hb dX5_flow_26 (by decide) ?_
      refine lv_bipush (v := 24) hx hb dX5_flow_27 (by decide) ?_
      refine g_cSi (As := [.int (nI q), .int 1, .int 24]) (rest := []) hx hb hml hown hts hK hA hG hS (k_X5_in l D cy N L (mW cy L F 0 ms ma mv (nI w) mb ml mp mw mr mq mh) (nI q) 1 24 ) (g_cwS 3 hts gX5_flow_X5_in rfl rfl rfl (by decide +kernel) ⟨Nat.le_of_ble_eq_true rfl, Nat.le_of_ble_eq_true rfl⟩) rfl rfl hl.1 (Nat.le_of_ble_eq_true rfl) dX5_flow_29 ⟨Nat.zero_le _, Nat.zero_le _⟩ (fun H locs hG hS => ?_)
      refine lv_toI (y := 1) (g_in_n (a := 1) (b := 24) h1 h2 (by omega)) ?_
      refine lv_if_ne (tgt := 41) hx hb dX5_flow_32 (by decide) (fun c_32 => ?_) (fun c_32 => ?_)
      · skip
        refine lv_aload_n hx hb dX5_flow_41 rfl (lv_at hl 0 rfl) ?_
        refine g_cVv (As := []) (rest := []) hx hb hml hown hts hK hA hG hS (k_X5_saves l D cy N L F hN 0 ms ma mv (nI w) mb ml mp mw mr mq mh w (hw6)) (cwV 0 hts gX5_flow_X5_saves rfl rfl rfl (by decide +kernel) ⟨Nat.le_of_ble_eq_true rfl, Nat.le_of_ble_eq_true rfl⟩) i162 mW_o (ci := 5) rfl rfl rfl rfl hl.1 (Nat.le_of_ble_eq_true rfl) dX5_flow_42 ⟨Nat.zero_le _, Nat.zero_le _⟩ (fun H locs hG hS => ?_)
        refine lv_aload_n hx hb dX5_flow_45 rfl (lv_at hl 0 rfl) ?_
        refine lv_iload_n hx hb dX5_flow_46 rfl (lv_at hl 1 rfl) ?_
        refine lv_iload_n hx hb dX5_flow_47 rfl (lv_at hl 2 rfl) ?_
        refine lv_iload_n hx hb dX5_flow_48 rfl (lv_at hl 3 rfl) ?_
        refine g_cVi (As := [.int (nI k), .int (nI j), .int (nI q)]) (rest := []) hx hb hml hown hts hK hA hG hS (k_X5_flowsAll l D cy N L F hN 0 ms ma (g_saveV mv ms w) (nI (g_saveN w)) mb ml mp mw mr mq mh k j q (by omega) (by omega) (by omega) (hw)) (cwV 3 hts gX5_flow_X5_flowsAll rfl rfl rfl (by decide +kernel) ⟨Nat.le_of_ble_eq_true rfl, Nat.le_of_ble_eq_true rfl⟩) i162 mW_o (ci := 5) rfl rfl rfl rfl hl.1 (Nat.le_of_ble_eq_true rfl) dX5_flow_49 ⟨Nat.zero_le _, Nat.zero_le _⟩ (fun H locs hG hS => ?_)
        exact g_iret hx hb hr hlocks hK hG hS rfl dX5_flow_52 ⟨rfl, rfl⟩
      · skip
        exact absurd c_32 (by decide)
    · skip
      exact absurd c_16 (by decide)
set_option maxHeartbeats 4000000 in
set_option maxRecDepth 100000 in
theorem k_X5_ship_ok (l : Launch) (D : va_G) (cy : Nat → ClassId) (N : Nat) (L : Nat → Nat) (F : Nat → va_E) (hN : 168 ≤ N) (mt : Int32) (ms ma mv : Nat → Int32) (mn : Int32) (mb : Nat → Int32) (ml mp mw : Int32) (mr : Nat → Int32) (mq : Int32) (mh : Int64) (j w : Nat) (u t : Int32) (hw6 : w ≤ 6) (hw : wfM ms) (hj : j < 6) (h1 : g_in u 0 900 = 1) (h2 : g_in t 0 u = 1) : GM l D cy N L yX5_ship wsX5_ship ({ frames := 2, cells := 0, slots := 0, locals := 42 }) [.ref (L 162), .int (nI j), .int u, .int t] (mW cy L F mt ms ma mv (nI w) mb ml mp mw mr mq mh) (some (.int (ms (106 + 2 * j)))) (mW cy L F 0 (g_shipS ms j u t) ma (g_saveV mv ms w) (nI (g_saveN w)) mb ml mp mw mr mq mh) := by
  refine GM.ofW (cc := cX5_ship) (maxL := 5) (ret := (some .int)) (by decide) rfl (Nat.le_of_ble_eq_true rfl) ?_
  intro p e s m below meth c ls hx hb hr hts hown hlocks hml hK hA hG hS hl
  have hl : lv_has ls 5 [(0, .ref (L 162)), (1, .int (nI j)), (2, .int u), (3, .int t)] := hl
  have i162 : 162 < N := by omega
  have i163 : 163 < N := by omega
  have i164 : 164 < N := by omega
  have i165 : 165 < N := by omega
  have i166 : 166 < N := by omega
  have i167 : 167 < N := by omega
  have hf25 := hts (.fieldLink RX5 25 "SiloPadsModel" "thrown" "I") (by decide +kernel)
  have hinX5 : ∀ w ∈ u_ws RX5 TX5 12, w ∈ wsX5_ship := by decide +kernel
  have hf7 := hts (.fieldLink RX5 7 "SiloPadsModel" "s" "[I") (by decide +kernel)
  refine lv_aload_n hx hb dX5_ship_0 rfl (lv_at hl 0 rfl) ?_
  refine lv_iconst (v := 0) hx hb dX5_ship_1 (by decide) ?_
  refine g_put (ci := 5) (C := RX5) (T := TX5) (M := 12) (ty := .int) hx hb hts hinX5 tyX5 tyX5_ok nmX5 hown hK hG hS i162 mW_o rfl 0 (by decide) hf25 rfl rfl rfl rfl rfl (Nat.le_of_ble_eq_true rfl) dX5_ship_2 rfl (fun H locs hG hS => ?_)
  have hG := hG.to mW_uo
  refine lv_iload_n hx hb dX5_ship_5 rfl (lv_at hl 1 rfl) ?_
  refine g_cSi (As := [.int (nI j)]) (rest := []) hx hb hml hown hts hK hA hG hS (k_X5_isShip l D cy N L (mW cy L F 0 ms ma mv (nI w) mb ml mp mw mr mq mh) (nI j) ) (g_cwS 1 hts gX5_ship_X5_isShip rfl rfl rfl (by decide +kernel) ⟨Nat.le_of_ble_eq_true rfl, Nat.le_of_ble_eq_true rfl⟩) rfl rfl hl.1 (Nat.le_of_ble_eq_true rfl) dX5_ship_6 ⟨Nat.zero_le _, Nat.zero_le _⟩ (fun H locs hG hS => ?_)
  refine lv_toI (y := 1) (g_in_ship hj) ?_
  refine lv_if_ne (tgt := 18) hx hb dX5_ship_9 (by decide) (fun c_9 => ?_) (fun c_9 => ?_)
  · skip
    refine lv_iload_n hx hb dX5_ship_18 rfl (lv_at hl 2 rfl) ?_
    refine lv_iconst (v := 0) hx hb dX5_ship_19 (by decide) ?_
    refine lv_sipush (v := 900) hx hb dX5_ship_20 (by decide) ?_
    refine g_cSi (As := [.int u, .int 0, .int 900]) (rest := []) hx hb hml hown hts hK hA hG hS (k_X5_in l D cy N L (mW cy L F 0 ms ma mv (nI w) mb ml mp mw mr mq mh) u 0 900 ) (g_cwS 3 hts gX5_ship_X5_in rfl rfl rfl (by decide +kernel) ⟨Nat.le_of_ble_eq_true rfl, Nat.le_of_ble_eq_true rfl⟩) rfl rfl hl.1 (Nat.le_of_ble_eq_true rfl) dX5_ship_23 ⟨Nat.zero_le _, Nat.zero_le _⟩ (fun H locs hG hS => ?_)
    refine lv_toI (y := 1) (h1) ?_
    refine lv_if_eq (tgt := 38) hx hb dX5_ship_26 (by decide) (fun c_26 => ?_) (fun c_26 => ?_)
    · skip
      exact absurd c_26 (by decide)
    · skip
      refine lv_iload_n hx hb dX5_ship_29 rfl (lv_at hl 3 rfl) ?_
      refine lv_iconst (v := 0) hx hb dX5_ship_30 (by decide) ?_
      refine lv_iload_n hx hb dX5_ship_31 rfl (lv_at hl 2 rfl) ?_
      refine g_cSi (As := [.int t, .int 0, .int u]) (rest := []) hx hb hml hown hts hK hA hG hS (k_X5_in l D cy N L (mW cy L F 0 ms ma mv (nI w) mb ml mp mw mr mq mh) t 0 u ) (g_cwS 3 hts gX5_ship_X5_in rfl rfl rfl (by decide +kernel) ⟨Nat.le_of_ble_eq_true rfl, Nat.le_of_ble_eq_true rfl⟩) rfl rfl hl.1 (Nat.le_of_ble_eq_true rfl) dX5_ship_32 ⟨Nat.zero_le _, Nat.zero_le _⟩ (fun H locs hG hS => ?_)
      refine lv_toI (y := 1) (h2) ?_
      refine lv_if_ne (tgt := 44) hx hb dX5_ship_35 (by decide) (fun c_35 => ?_) (fun c_35 => ?_)
      · skip
        refine lv_aload_n hx hb dX5_ship_44 rfl (lv_at hl 0 rfl) ?_
        refine g_cVv (As := []) (rest := []) hx hb hml hown hts hK hA hG hS (k_X5_saves l D cy N L F hN 0 ms ma mv (nI w) mb ml mp mw mr mq mh w (hw6)) (cwV 0 hts gX5_ship_X5_saves rfl rfl rfl (by decide +kernel) ⟨Nat.le_of_ble_eq_true rfl, Nat.le_of_ble_eq_true rfl⟩) i162 mW_o (ci := 5) rfl rfl rfl rfl hl.1 (Nat.le_of_ble_eq_true rfl) dX5_ship_45 ⟨Nat.zero_le _, Nat.zero_le _⟩ (fun H locs hG hS => ?_)
        refine lv_aload_n hx hb dX5_ship_48 rfl (lv_at hl 0 rfl) ?_
        refine g_get (ci := 5) (C := RX5) (T := TX5) (M := 12) hx hb hts hinX5 hown hK hG i162 mW_o rfl 1 (by decide) hf7 rfl rfl dX5_ship_49 ?_
        refine lv_bipush (v := 106) hx hb dX5_ship_52 (by decide) ?_
        refine lv_iconst (v := 2) hx hb dX5_ship_54 (by decide) ?_
        refine lv_iload_n hx hb dX5_ship_55 rfl (lv_at hl 1 rfl) ?_
        refine lv_imul hx hb dX5_ship_56 ?_
        refine lv_toN (k := 2 * j) (pk_mul 2 j) ?_
        refine lv_iadd hx hb dX5_ship_57 ?_
        refine lv_toN (k := 106 + (2 * j)) (nI_add 106 (2 * j)) ?_
        refine g_iald hx hb hK hG i163 mW_a163 (k := 106 + (2 * j)) rfl (by omega) (by decide) dX5_ship_58 ?_
        refine lv_istore (lv' := [(4, .int (ms (106 + (2 * j)))), (0, .ref (L 162)), (1, .int (nI j)), (2, .int u), (3, .int t)]) hx hb dX5_ship_59 hl (by decide) rfl (fun ls hl => ?_)
        refine lv_aload_n hx hb dX5_ship_61 rfl (lv_at hl 1 rfl) ?_
        refine g_get (ci := 5) (C := RX5) (T := TX5) (M := 12) hx hb hts hinX5 hown hK hG i162 mW_o rfl 1 (by decide) hf7 rfl rfl dX5_ship_62 ?_
        refine lv_bipush (v := 106) hx hb dX5_ship_65 (by decide) ?_
        refine lv_iconst (v := 2) hx hb dX5_ship_67 (by decide) ?_
        refine lv_iload_n hx hb dX5_ship_68 rfl (lv_at hl 2 rfl) ?_
        refine lv_imul hx hb dX5_ship_69 ?_
        refine lv_toN (k := 2 * j) (pk_mul 2 j) ?_
        refine lv_iadd hx hb dX5_ship_70 ?_
        refine lv_toN (k := 106 + (2 * j)) (nI_add 106 (2 * j)) ?_
        refine lv_iload_n hx hb dX5_ship_71 rfl (lv_at hl 4 rfl) ?_
        refine g_iast hx hb hK hG hS i163 mW_a163 (k := 106 + (2 * j)) rfl (by omega) (by decide) dX5_ship_72 (fun H locs hG hS => ?_)
        have hG := hG.to mW_us
        refine lv_aload_n hx hb dX5_ship_73 rfl (lv_at hl 1 rfl) ?_
        refine g_get (ci := 5) (C := RX5) (T := TX5) (M := 12) hx hb hts hinX5 hown hK hG i162 mW_o rfl 1 (by decide) hf7 rfl rfl dX5_ship_74 ?_
        refine lv_bipush (v := 106) hx hb dX5_ship_77 (by decide) ?_
        refine lv_iconst (v := 2) hx hb dX5_ship_79 (by decide) ?_
        refine lv_iload_n hx hb dX5_ship_80 rfl (lv_at hl 2 rfl) ?_
        refine lv_imul hx hb dX5_ship_81 ?_
        refine lv_toN (k := 2 * j) (pk_mul 2 j) ?_
        refine lv_iadd hx hb dX5_ship_82 ?_
        refine lv_toN (k := 106 + (2 * j)) (nI_add 106 (2 * j)) ?_
        refine lv_iconst (v := 1) hx hb dX5_ship_83 (by decide) ?_
        refine lv_iadd hx hb dX5_ship_84 ?_
        refine lv_toN (k := (106 + (2 * j)) + 1) (nI_add (106 + (2 * j)) 1) ?_
        refine lv_iload_n hx hb dX5_ship_85 rfl (lv_at hl 3 rfl) ?_
        refine g_iast hx hb hK hG hS i163 mW_a163 (k := (106 + (2 * j)) + 1) rfl (by omega) (by decide) dX5_ship_86 (fun H locs hG hS => ?_)
        have hG := hG.to mW_us
        refine lv_aload_n hx hb dX5_ship_87 rfl (lv_at hl 1 rfl) ?_
        refine g_get (ci := 5) (C := RX5) (T := TX5) (M := 12) hx hb hts hinX5 hown hK hG i162 mW_o rfl 1 (by decide) hf7 rfl rfl dX5_ship_88 ?_
        refine lv_iconst (v := 2) hx hb dX5_ship_91 (by decide) ?_
        refine lv_dup2_11 hx hb dX5_ship_92 rfl rfl ?_
        refine g_iald hx hb hK hG i163 mW_a163 (k := 2) rfl (by omega) (by decide) dX5_ship_93 ?_
        refine lv_iload_n hx hb dX5_ship_94 rfl (lv_at hl 4 rfl) ?_
        refine lv_iadd hx hb dX5_ship_95 ?_
        refine g_iast hx hb hK hG hS i163 mW_a163 (k := 2) rfl (by omega) (by decide) dX5_ship_96 (fun H locs hG hS => ?_)
        have hG := hG.to mW_us
        refine lv_aload_n hx hb dX5_ship_97 rfl (lv_at hl 1 rfl) ?_
        refine g_get (ci := 5) (C := RX5) (T := TX5) (M := 12) hx hb hts hinX5 hown hK hG i162 mW_o rfl 1 (by decide) hf7 rfl rfl dX5_ship_98 ?_
        refine lv_iconst (v := 3) hx hb dX5_ship_101 (by decide) ?_
        refine lv_dup2_11 hx hb dX5_ship_102 rfl rfl ?_
        refine g_iald hx hb hK hG i163 mW_a163 (k := 3) rfl (by omega) (by decide) dX5_ship_103 ?_
        refine lv_iload hx hb dX5_ship_104 (lv_at hl 0 rfl) ?_
        refine lv_iadd hx hb dX5_ship_106 ?_
        refine g_iast hx hb hK hG hS i163 mW_a163 (k := 3) rfl (by omega) (by decide) dX5_ship_107 (fun H locs hG hS => ?_)
        have hG := hG.to mW_us
        refine lv_iload hx hb dX5_ship_108 (lv_at hl 0 rfl) ?_
        exact g_iret hx hb hr hlocks hK hG hS rfl dX5_ship_110 ⟨(congrArg (fun z9 => some (Value.int z9)) (by rfl)), (by rfl)⟩
      · skip
        exact absurd c_35 (by decide)
  · skip
    exact absurd c_9 (by decide)
set_option maxHeartbeats 4000000 in
set_option maxRecDepth 100000 in
theorem k_X5_pads_ok (l : Launch) (D : va_G) (cy : Nat → ClassId) (N : Nat) (L : Nat → Nat) (F : Nat → va_E) (hN : 168 ≤ N) (mt : Int32) (ms ma mv : Nat → Int32) (mn : Int32) (mb : Nat → Int32) (ml mp mw : Int32) (mr : Nat → Int32) (mq : Int32) (mh : Int64) (k w : Nat) (b : Int32) (hw6 : w ≤ 6) (hw : wfM ms) (hk : k < 4) (h : g_in b 0 4 = 1) (hbl : g_padsOn ms 4 - ms (10 + 24 * k + 0) + b ≤ ms 6) : GM l D cy N L yX5_pads wsX5_pads ({ frames := 2, cells := 0, slots := 0, locals := 44 }) [.ref (L 162), .int (nI k), .int b] (mW cy L F mt ms ma mv (nI w) mb ml mp mw mr mq mh) (some (.int (ms (10 + 24 * k + 0)))) (mW cy L F 0 (upd ms (10 + 24 * k + 0) b) ma (g_saveV mv ms w) (nI (g_saveN w)) mb ml mp mw mr mq mh) := by
  refine GM.ofW (cc := cX5_pads) (maxL := 4) (ret := (some .int)) (by decide) rfl (Nat.le_of_ble_eq_true rfl) ?_
  intro p e s m below meth c ls hx hb hr hts hown hlocks hml hK hA hG hS hl
  have hl : lv_has ls 4 [(0, .ref (L 162)), (1, .int (nI k)), (2, .int b)] := hl
  have i162 : 162 < N := by omega
  have i163 : 163 < N := by omega
  have i164 : 164 < N := by omega
  have i165 : 165 < N := by omega
  have i166 : 166 < N := by omega
  have i167 : 167 < N := by omega
  have hf25 := hts (.fieldLink RX5 25 "SiloPadsModel" "thrown" "I") (by decide +kernel)
  have hinX5 : ∀ w ∈ u_ws RX5 TX5 12, w ∈ wsX5_pads := by decide +kernel
  have hf7 := hts (.fieldLink RX5 7 "SiloPadsModel" "s" "[I") (by decide +kernel)
  refine lv_aload_n hx hb dX5_pads_0 rfl (lv_at hl 0 rfl) ?_
  refine lv_iconst (v := 0) hx hb dX5_pads_1 (by decide) ?_
  refine g_put (ci := 5) (C := RX5) (T := TX5) (M := 12) (ty := .int) hx hb hts hinX5 tyX5 tyX5_ok nmX5 hown hK hG hS i162 mW_o rfl 0 (by decide) hf25 rfl rfl rfl rfl rfl (Nat.le_of_ble_eq_true rfl) dX5_pads_2 rfl (fun H locs hG hS => ?_)
  have hG := hG.to mW_uo
  refine lv_iload_n hx hb dX5_pads_5 rfl (lv_at hl 1 rfl) ?_
  refine g_cSi (As := [.int (nI k)]) (rest := []) hx hb hml hown hts hK hA hG hS (k_X5_isSilo l D cy N L (mW cy L F 0 ms ma mv (nI w) mb ml mp mw mr mq mh) (nI k) ) (g_cwS 1 hts gX5_pads_X5_isSilo rfl rfl rfl (by decide +kernel) ⟨Nat.le_of_ble_eq_true rfl, Nat.le_of_ble_eq_true rfl⟩) rfl rfl hl.1 (Nat.le_of_ble_eq_true rfl) dX5_pads_6 ⟨Nat.zero_le _, Nat.zero_le _⟩ (fun H locs hG hS => ?_)
  refine lv_toI (y := 1) (g_in_silo hk) ?_
  refine lv_if_ne (tgt := 18) hx hb dX5_pads_9 (by decide) (fun c_9 => ?_) (fun c_9 => ?_)
  · skip
    refine lv_iload_n hx hb dX5_pads_18 rfl (lv_at hl 2 rfl) ?_
    refine lv_iconst (v := 0) hx hb dX5_pads_19 (by decide) ?_
    refine lv_iconst (v := 4) hx hb dX5_pads_20 (by decide) ?_
    refine g_cSi (As := [.int b, .int 0, .int 4]) (rest := []) hx hb hml hown hts hK hA hG hS (k_X5_in l D cy N L (mW cy L F 0 ms ma mv (nI w) mb ml mp mw mr mq mh) b 0 4 ) (g_cwS 3 hts gX5_pads_X5_in rfl rfl rfl (by decide +kernel) ⟨Nat.le_of_ble_eq_true rfl, Nat.le_of_ble_eq_true rfl⟩) rfl rfl hl.1 (Nat.le_of_ble_eq_true rfl) dX5_pads_21 ⟨Nat.zero_le _, Nat.zero_le _⟩ (fun H locs hG hS => ?_)
    refine lv_toI (y := 1) (h) ?_
    refine lv_if_ne (tgt := 33) hx hb dX5_pads_24 (by decide) (fun c_24 => ?_) (fun c_24 => ?_)
    · skip
      refine lv_aload_n hx hb dX5_pads_33 rfl (lv_at hl 0 rfl) ?_
      refine lv_iload_n hx hb dX5_pads_34 rfl (lv_at hl 1 rfl) ?_
      refine lv_iconst (v := 0) hx hb dX5_pads_35 (by decide) ?_
      refine g_cVi (As := [.int (nI k), .int 0]) (rest := []) hx hb hml hown hts hK hA hG hS (k_X5_of l D cy N L F hN 0 ms ma mv (nI w) mb ml mp mw mr mq mh k 0 (by omega)) (cwV 2 hts gX5_pads_X5_of rfl rfl rfl (by decide +kernel) ⟨Nat.le_of_ble_eq_true rfl, Nat.le_of_ble_eq_true rfl⟩) i162 mW_o (ci := 5) rfl rfl rfl rfl hl.1 (Nat.le_of_ble_eq_true rfl) dX5_pads_36 ⟨Nat.zero_le _, Nat.zero_le _⟩ (fun H locs hG hS => ?_)
      refine lv_istore_n (lv' := [(3, .int (ms (10 + 24 * k + 0))), (0, .ref (L 162)), (1, .int (nI k)), (2, .int b)]) hx hb dX5_pads_39 rfl hl (by decide) rfl (fun ls hl => ?_)
      refine lv_aload_n hx hb dX5_pads_40 rfl (lv_at hl 1 rfl) ?_
      refine g_cVi (As := []) (rest := []) hx hb hml hown hts hK hA hG hS (k_X5_padsOn l D cy N L F hN 0 ms ma mv (nI w) mb ml mp mw mr mq mh  ) (cwV 0 hts gX5_pads_X5_padsOn rfl rfl rfl (by decide +kernel) ⟨Nat.le_of_ble_eq_true rfl, Nat.le_of_ble_eq_true rfl⟩) i162 mW_o (ci := 5) rfl rfl rfl rfl hl.1 (Nat.le_of_ble_eq_true rfl) dX5_pads_41 ⟨Nat.zero_le _, Nat.zero_le _⟩ (fun H locs hG hS => ?_)
      refine lv_iload_n hx hb dX5_pads_44 rfl (lv_at hl 0 rfl) ?_
      refine lv_isub hx hb dX5_pads_45 ?_
      refine lv_iload_n hx hb dX5_pads_46 rfl (lv_at hl 3 rfl) ?_
      refine lv_iadd hx hb dX5_pads_47 ?_
      refine lv_aload_n hx hb dX5_pads_48 rfl (lv_at hl 1 rfl) ?_
      refine g_get (ci := 5) (C := RX5) (T := TX5) (M := 12) hx hb hts hinX5 hown hK hG i162 mW_o rfl 1 (by decide) hf7 rfl rfl dX5_pads_49 ?_
      refine lv_bipush (v := 6) hx hb dX5_pads_52 (by decide) ?_
      refine g_iald hx hb hK hG i163 mW_a163 (k := 6) rfl (by omega) (by decide) dX5_pads_54 ?_
      refine lv_icmp_le (tgt := 64) hx hb dX5_pads_55 (by decide) (fun c_55 => ?_) (fun c_55 => ?_)
      · skip
        refine lv_aload_n hx hb dX5_pads_64 rfl (lv_at hl 1 rfl) ?_
        refine g_cVv (As := []) (rest := []) hx hb hml hown hts hK hA hG hS (k_X5_saves l D cy N L F hN 0 ms ma mv (nI w) mb ml mp mw mr mq mh w (hw6)) (cwV 0 hts gX5_pads_X5_saves rfl rfl rfl (by decide +kernel) ⟨Nat.le_of_ble_eq_true rfl, Nat.le_of_ble_eq_true rfl⟩) i162 mW_o (ci := 5) rfl rfl rfl rfl hl.1 (Nat.le_of_ble_eq_true rfl) dX5_pads_65 ⟨Nat.zero_le _, Nat.zero_le _⟩ (fun H locs hG hS => ?_)
        refine lv_aload_n hx hb dX5_pads_68 rfl (lv_at hl 1 rfl) ?_
        refine lv_iload_n hx hb dX5_pads_69 rfl (lv_at hl 2 rfl) ?_
        refine lv_iconst (v := 0) hx hb dX5_pads_70 (by decide) ?_
        refine lv_iload_n hx hb dX5_pads_71 rfl (lv_at hl 3 rfl) ?_
        refine g_cVv (As := [.int (nI k), .int 0, .int b]) (rest := []) hx hb hml hown hts hK hA hG hS (k_X5_lay l D cy N L F hN 0 ms ma (g_saveV mv ms w) (nI (g_saveN w)) mb ml mp mw mr mq mh k 0 b (by omega)) (cwV 3 hts gX5_pads_X5_lay rfl rfl rfl (by decide +kernel) ⟨Nat.le_of_ble_eq_true rfl, Nat.le_of_ble_eq_true rfl⟩) i162 mW_o (ci := 5) rfl rfl rfl rfl hl.1 (Nat.le_of_ble_eq_true rfl) dX5_pads_72 ⟨Nat.zero_le _, Nat.zero_le _⟩ (fun H locs hG hS => ?_)
        refine lv_iload_n hx hb dX5_pads_75 rfl (lv_at hl 0 rfl) ?_
        exact g_iret hx hb hr hlocks hK hG hS rfl dX5_pads_76 ⟨rfl, rfl⟩
      · skip
        exact absurd hbl c_55
    · skip
      exact absurd c_24 (by decide)
  · skip
    exact absurd c_9 (by decide)
set_option maxHeartbeats 4000000 in
set_option maxRecDepth 100000 in
theorem k_X5_shake_ok (l : Launch) (D : va_G) (cy : Nat → ClassId) (N : Nat) (L : Nat → Nat) (F : Nat → va_E) (hN : 168 ≤ N) (mt : Int32) (ms ma mv : Nat → Int32) (mn : Int32) (mb : Nat → Int32) (ml mp mw : Int32) (mr : Nat → Int32) (mq : Int32) (mh : Int64) (k w : Nat) (hw6 : w ≤ 6) (hw : wfM ms) (hk : k < 4) (h1 : 1 ≤ Nn ms k) : GM l D cy N L yX5_shake wsX5_shake ({ frames := 5, cells := 0, slots := 0, locals := 112 }) [.ref (L 162), .int (nI k)] (mW cy L F mt ms ma mv (nI w) mb ml mp mw mr mq mh) (some (.int (g_shR ms k (Nn ms k)))) (mW cy L F 0 (g_shS ms k (Nn ms k)) ma (g_saveV mv ms w) (nI (g_saveN w)) mb ml mp mw mr mq mh) := by
  refine GM.ofW (cc := cX5_shake) (maxL := 2) (ret := (some .int)) (by decide) rfl (Nat.le_of_ble_eq_true rfl) ?_
  intro p e s m below meth c ls hx hb hr hts hown hlocks hml hK hA hG hS hl
  have hl : lv_has ls 2 [(0, .ref (L 162)), (1, .int (nI k))] := hl
  have i162 : 162 < N := by omega
  have i163 : 163 < N := by omega
  have i164 : 164 < N := by omega
  have i165 : 165 < N := by omega
  have i166 : 166 < N := by omega
  have i167 : 167 < N := by omega
  have hf25 := hts (.fieldLink RX5 25 "SiloPadsModel" "thrown" "I") (by decide +kernel)
  have hinX5 : ∀ w ∈ u_ws RX5 TX5 12, w ∈ wsX5_shake := by decide +kernel
  refine lv_aload_n hx hb dX5_shake_0 rfl (lv_at hl 0 rfl) ?_
  refine lv_iconst (v := 0) hx hb dX5_shake_1 (by decide) ?_
  refine g_put (ci := 5) (C := RX5) (T := TX5) (M := 12) (ty := .int) hx hb hts hinX5 tyX5 tyX5_ok nmX5 hown hK hG hS i162 mW_o rfl 0 (by decide) hf25 rfl rfl rfl rfl rfl (Nat.le_of_ble_eq_true rfl) dX5_shake_2 rfl (fun H locs hG hS => ?_)
  have hG := hG.to mW_uo
  refine lv_iload_n hx hb dX5_shake_5 rfl (lv_at hl 1 rfl) ?_
  refine g_cSi (As := [.int (nI k)]) (rest := []) hx hb hml hown hts hK hA hG hS (k_X5_isSilo l D cy N L (mW cy L F 0 ms ma mv (nI w) mb ml mp mw mr mq mh) (nI k) ) (g_cwS 1 hts gX5_shake_X5_isSilo rfl rfl rfl (by decide +kernel) ⟨Nat.le_of_ble_eq_true rfl, Nat.le_of_ble_eq_true rfl⟩) rfl rfl hl.1 (Nat.le_of_ble_eq_true rfl) dX5_shake_6 ⟨Nat.zero_le _, Nat.zero_le _⟩ (fun H locs hG hS => ?_)
  refine lv_toI (y := 1) (g_in_silo hk) ?_
  refine lv_if_ne (tgt := 18) hx hb dX5_shake_9 (by decide) (fun c_9 => ?_) (fun c_9 => ?_)
  · skip
    refine lv_aload_n hx hb dX5_shake_18 rfl (lv_at hl 0 rfl) ?_
    refine lv_iload_n hx hb dX5_shake_19 rfl (lv_at hl 1 rfl) ?_
    refine lv_iconst (v := 3) hx hb dX5_shake_20 (by decide) ?_
    refine g_cVi (As := [.int (nI k), .int 3]) (rest := []) hx hb hml hown hts hK hA hG hS (k_X5_of l D cy N L F hN 0 ms ma mv (nI w) mb ml mp mw mr mq mh k 3 (by omega)) (cwV 2 hts gX5_shake_X5_of rfl rfl rfl (by decide +kernel) ⟨Nat.le_of_ble_eq_true rfl, Nat.le_of_ble_eq_true rfl⟩) i162 mW_o (ci := 5) rfl rfl rfl rfl hl.1 (Nat.le_of_ble_eq_true rfl) dX5_shake_21 ⟨Nat.zero_le _, Nat.zero_le _⟩ (fun H locs hG hS => ?_)
    refine lv_toN (k := Nn ms k) ((hw.1 k hk).1) ?_
    have hn10 := (hw.1 k hk).2
    refine lv_if_ne (tgt := 33) hx hb dX5_shake_24 (by decide) (fun c_24 => ?_) (fun c_24 => ?_)
    · skip
      have c_24 : ¬ (Nn ms k) = 0 := fun h9 => c_24 ((nI_eq (a := Nn ms k) (b := 0) (by omega) (by omega)).mpr h9)
      refine lv_aload_n hx hb dX5_shake_33 rfl (lv_at hl 0 rfl) ?_
      refine g_cVv (As := []) (rest := []) hx hb hml hown hts hK hA hG hS (k_X5_saves l D cy N L F hN 0 ms ma mv (nI w) mb ml mp mw mr mq mh w (hw6)) (cwV 0 hts gX5_shake_X5_saves rfl rfl rfl (by decide +kernel) ⟨Nat.le_of_ble_eq_true rfl, Nat.le_of_ble_eq_true rfl⟩) i162 mW_o (ci := 5) rfl rfl rfl rfl hl.1 (Nat.le_of_ble_eq_true rfl) dX5_shake_34 ⟨Nat.zero_le _, Nat.zero_le _⟩ (fun H locs hG hS => ?_)
      refine lv_aload_n hx hb dX5_shake_37 rfl (lv_at hl 0 rfl) ?_
      refine lv_iload_n hx hb dX5_shake_38 rfl (lv_at hl 1 rfl) ?_
      refine g_cVi (As := [.int (nI k)]) (rest := []) hx hb hml hown hts hK hA hG hS (k_X5_shakes l D cy N L F hN 0 ms ma (g_saveV mv ms w) (nI (g_saveN w)) mb ml mp mw mr mq mh k (Nn ms k) (by omega) ((hw.1 k hk).1) (by omega) (Or.inl h1)) (cwV 1 hts gX5_shake_X5_shakes rfl rfl rfl (by decide +kernel) ⟨Nat.le_of_ble_eq_true rfl, Nat.le_of_ble_eq_true rfl⟩) i162 mW_o (ci := 5) rfl rfl rfl rfl hl.1 (Nat.le_of_ble_eq_true rfl) dX5_shake_39 ⟨Nat.zero_le _, Nat.zero_le _⟩ (fun H locs hG hS => ?_)
      exact g_iret hx hb hr hlocks hK hG hS rfl dX5_shake_42 ⟨rfl, rfl⟩
    · skip
      have c_24 : (Nn ms k) = 0 := (nI_eq (a := Nn ms k) (b := 0) (by omega) (by omega)).mp c_24
      exfalso; omega
  · skip
    exact absurd c_9 (by decide)
set_option maxHeartbeats 4000000 in
set_option maxRecDepth 100000 in
theorem k_X5_pass_ok (l : Launch) (D : va_G) (cy : Nat → ClassId) (N : Nat) (L : Nat → Nat) (F : Nat → va_E) (hN : 168 ≤ N) (mt : Int32) (ms ma mv : Nat → Int32) (mn : Int32) (mb : Nat → Int32) (ml mp mw : Int32) (mr : Nat → Int32) (mq : Int32) (mh : Int64) (q w : Nat) (hw6 : w ≤ 6) (hw : wfM ms) (h1 : 1 ≤ q) (h2 : q ≤ 30) : GM l D cy N L yX5_pass wsX5_pass ({ frames := 6, cells := 0, slots := 0, locals := 134 }) [.ref (L 162), .int (nI q)] (mW cy L F mt ms ma mv (nI w) mb ml mp mw mr mq mh) (some (.int (g_daysR ms q))) (mW cy L F 0 (g_daysS ms q) ma (g_saveV mv ms w) (nI (g_saveN w)) mb ml mp mw mr mq mh) := by
  refine GM.ofW (cc := cX5_pass) (maxL := 2) (ret := (some .int)) (by decide) rfl (Nat.le_of_ble_eq_true rfl) ?_
  intro p e s m below meth c ls hx hb hr hts hown hlocks hml hK hA hG hS hl
  have hl : lv_has ls 2 [(0, .ref (L 162)), (1, .int (nI q))] := hl
  have i162 : 162 < N := by omega
  have i163 : 163 < N := by omega
  have i164 : 164 < N := by omega
  have i165 : 165 < N := by omega
  have i166 : 166 < N := by omega
  have i167 : 167 < N := by omega
  have hf25 := hts (.fieldLink RX5 25 "SiloPadsModel" "thrown" "I") (by decide +kernel)
  have hinX5 : ∀ w ∈ u_ws RX5 TX5 12, w ∈ wsX5_pass := by decide +kernel
  refine lv_aload_n hx hb dX5_pass_0 rfl (lv_at hl 0 rfl) ?_
  refine lv_iconst (v := 0) hx hb dX5_pass_1 (by decide) ?_
  refine g_put (ci := 5) (C := RX5) (T := TX5) (M := 12) (ty := .int) hx hb hts hinX5 tyX5 tyX5_ok nmX5 hown hK hG hS i162 mW_o rfl 0 (by decide) hf25 rfl rfl rfl rfl rfl (Nat.le_of_ble_eq_true rfl) dX5_pass_2 rfl (fun H locs hG hS => ?_)
  have hG := hG.to mW_uo
  refine lv_iload_n hx hb dX5_pass_5 rfl (lv_at hl 1 rfl) ?_
  refine lv_iconst (v := 1) hx hb dX5_pass_6 (by decide) ?_
  refine lv_bipush (v := 30) hx hb dX5_pass_7 (by decide) ?_
  refine g_cSi (As := [.int (nI q), .int 1, .int 30]) (rest := []) hx hb hml hown hts hK hA hG hS (k_X5_in l D cy N L (mW cy L F 0 ms ma mv (nI w) mb ml mp mw mr mq mh) (nI q) 1 30 ) (g_cwS 3 hts gX5_pass_X5_in rfl rfl rfl (by decide +kernel) ⟨Nat.le_of_ble_eq_true rfl, Nat.le_of_ble_eq_true rfl⟩) rfl rfl hl.1 (Nat.le_of_ble_eq_true rfl) dX5_pass_9 ⟨Nat.zero_le _, Nat.zero_le _⟩ (fun H locs hG hS => ?_)
  refine lv_toI (y := 1) (g_in_n (a := 1) (b := 30) h1 h2 (by omega)) ?_
  refine lv_if_ne (tgt := 21) hx hb dX5_pass_12 (by decide) (fun c_12 => ?_) (fun c_12 => ?_)
  · skip
    refine lv_aload_n hx hb dX5_pass_21 rfl (lv_at hl 0 rfl) ?_
    refine g_cVv (As := []) (rest := []) hx hb hml hown hts hK hA hG hS (k_X5_saves l D cy N L F hN 0 ms ma mv (nI w) mb ml mp mw mr mq mh w (hw6)) (cwV 0 hts gX5_pass_X5_saves rfl rfl rfl (by decide +kernel) ⟨Nat.le_of_ble_eq_true rfl, Nat.le_of_ble_eq_true rfl⟩) i162 mW_o (ci := 5) rfl rfl rfl rfl hl.1 (Nat.le_of_ble_eq_true rfl) dX5_pass_22 ⟨Nat.zero_le _, Nat.zero_le _⟩ (fun H locs hG hS => ?_)
    refine lv_aload_n hx hb dX5_pass_25 rfl (lv_at hl 0 rfl) ?_
    refine lv_iload_n hx hb dX5_pass_26 rfl (lv_at hl 1 rfl) ?_
    refine g_cVi (As := [.int (nI q)]) (rest := []) hx hb hml hown hts hK hA hG hS (k_X5_passes l D cy N L F hN 0 ms ma (g_saveV mv ms w) (nI (g_saveN w)) mb ml mp mw mr mq mh q (hw) (by omega)) (cwV 1 hts gX5_pass_X5_passes rfl rfl rfl (by decide +kernel) ⟨Nat.le_of_ble_eq_true rfl, Nat.le_of_ble_eq_true rfl⟩) i162 mW_o (ci := 5) rfl rfl rfl rfl hl.1 (Nat.le_of_ble_eq_true rfl) dX5_pass_27 ⟨Nat.zero_le _, Nat.zero_le _⟩ (fun H locs hG hS => ?_)
    exact g_iret hx hb hr hlocks hK hG hS rfl dX5_pass_30 ⟨rfl, rfl⟩
  · skip
    exact absurd c_12 (by decide)
set_option maxHeartbeats 4000000 in
set_option maxRecDepth 100000 in
theorem k_X5_set_ok (l : Launch) (D : va_G) (cy : Nat → ClassId) (N : Nat) (L : Nat → Nat) (F : Nat → va_E) (hN : 168 ≤ N) (mt : Int32) (ms ma mv : Nat → Int32) (mn : Int32) (mb : Nat → Int32) (ml mp mw : Int32) (mr : Nat → Int32) (mq : Int32) (mh : Int64) (i w : Nat) (b : Int32) (hw6 : w ≤ 6) (hw : wfM ms) (hi : i < 4) (h : g_in b (g_least (nI i)) (g_most (nI i)) = 1) (hv3 : i = 0 → g_padsOn ms 4 ≤ b) : GM l D cy N L yX5_set wsX5_set ({ frames := 2, cells := 0, slots := 0, locals := 44 }) [.ref (L 162), .int (nI i), .int b] (mW cy L F mt ms ma mv (nI w) mb ml mp mw mr mq mh) (some (.int (ms (6 + i)))) (mW cy L F 0 (upd ms (6 + i) b) ma (g_saveV mv ms w) (nI (g_saveN w)) mb ml mp mw mr mq mh) := by
  refine GM.ofW (cc := cX5_set) (maxL := 4) (ret := (some .int)) (by decide) rfl (Nat.le_of_ble_eq_true rfl) ?_
  intro p e s m below meth c ls hx hb hr hts hown hlocks hml hK hA hG hS hl
  have hl : lv_has ls 4 [(0, .ref (L 162)), (1, .int (nI i)), (2, .int b)] := hl
  have i162 : 162 < N := by omega
  have i163 : 163 < N := by omega
  have i164 : 164 < N := by omega
  have i165 : 165 < N := by omega
  have i166 : 166 < N := by omega
  have i167 : 167 < N := by omega
  have hf25 := hts (.fieldLink RX5 25 "SiloPadsModel" "thrown" "I") (by decide +kernel)
  have hinX5 : ∀ w ∈ u_ws RX5 TX5 12, w ∈ wsX5_set := by decide +kernel
  have hf7 := hts (.fieldLink RX5 7 "SiloPadsModel" "s" "[I") (by decide +kernel)
  refine lv_aload_n hx hb dX5_set_0 rfl (lv_at hl 0 rfl) ?_
  refine lv_iconst (v := 0) hx hb dX5_set_1 (by decide) ?_
  refine g_put (ci := 5) (C := RX5) (T := TX5) (M := 12) (ty := .int) hx hb hts hinX5 tyX5 tyX5_ok nmX5 hown hK hG hS i162 mW_o rfl 0 (by decide) hf25 rfl rfl rfl rfl rfl (Nat.le_of_ble_eq_true rfl) dX5_set_2 rfl (fun H locs hG hS => ?_)
  have hG := hG.to mW_uo
  refine lv_iload_n hx hb dX5_set_5 rfl (lv_at hl 1 rfl) ?_
  refine lv_iconst (v := 0) hx hb dX5_set_6 (by decide) ?_
  refine lv_iconst (v := 3) hx hb dX5_set_7 (by decide) ?_
  refine g_cSi (As := [.int (nI i), .int 0, .int 3]) (rest := []) hx hb hml hown hts hK hA hG hS (k_X5_in l D cy N L (mW cy L F 0 ms ma mv (nI w) mb ml mp mw mr mq mh) (nI i) 0 3 ) (g_cwS 3 hts gX5_set_X5_in rfl rfl rfl (by decide +kernel) ⟨Nat.le_of_ble_eq_true rfl, Nat.le_of_ble_eq_true rfl⟩) rfl rfl hl.1 (Nat.le_of_ble_eq_true rfl) dX5_set_8 ⟨Nat.zero_le _, Nat.zero_le _⟩ (fun H locs hG hS => ?_)
  refine lv_toI (y := 1) (g_in_n (a := 0) (b := 3) (by omega) (by omega) (by omega)) ?_
  refine lv_if_ne (tgt := 20) hx hb dX5_set_11 (by decide) (fun c_11 => ?_) (fun c_11 => ?_)
  · skip
    refine lv_iload_n hx hb dX5_set_20 rfl (lv_at hl 2 rfl) ?_
    refine lv_iload_n hx hb dX5_set_21 rfl (lv_at hl 1 rfl) ?_
    refine g_cSi (As := [.int (nI i)]) (rest := [.int b]) hx hb hml hown hts hK hA hG hS (k_X5_leastOf l D cy N L (mW cy L F 0 ms ma mv (nI w) mb ml mp mw mr mq mh) (nI i) ) (g_cwS 1 hts gX5_set_X5_leastOf rfl rfl rfl (by decide +kernel) ⟨Nat.le_of_ble_eq_true rfl, Nat.le_of_ble_eq_true rfl⟩) rfl rfl hl.1 (Nat.le_of_ble_eq_true rfl) dX5_set_22 ⟨Nat.zero_le _, Nat.zero_le _⟩ (fun H locs hG hS => ?_)
    refine lv_iload_n hx hb dX5_set_25 rfl (lv_at hl 1 rfl) ?_
    refine g_cSi (As := [.int (nI i)]) (rest := [.int (g_least (nI i)), .int b]) hx hb hml hown hts hK hA hG hS (k_X5_mostOf l D cy N L (mW cy L F 0 ms ma mv (nI w) mb ml mp mw mr mq mh) (nI i) ) (g_cwS 1 hts gX5_set_X5_mostOf rfl rfl rfl (by decide +kernel) ⟨Nat.le_of_ble_eq_true rfl, Nat.le_of_ble_eq_true rfl⟩) rfl rfl hl.1 (Nat.le_of_ble_eq_true rfl) dX5_set_26 ⟨Nat.zero_le _, Nat.zero_le _⟩ (fun H locs hG hS => ?_)
    refine g_cSi (As := [.int b, .int (g_least (nI i)), .int (g_most (nI i))]) (rest := []) hx hb hml hown hts hK hA hG hS (k_X5_in l D cy N L (mW cy L F 0 ms ma mv (nI w) mb ml mp mw mr mq mh) b (g_least (nI i)) (g_most (nI i)) ) (g_cwS 3 hts gX5_set_X5_in rfl rfl rfl (by decide +kernel) ⟨Nat.le_of_ble_eq_true rfl, Nat.le_of_ble_eq_true rfl⟩) rfl rfl hl.1 (Nat.le_of_ble_eq_true rfl) dX5_set_29 ⟨Nat.zero_le _, Nat.zero_le _⟩ (fun H locs hG hS => ?_)
    refine lv_toI (y := 1) (h) ?_
    refine lv_if_ne (tgt := 41) hx hb dX5_set_32 (by decide) (fun c_32 => ?_) (fun c_32 => ?_)
    · skip
      refine lv_iload_n hx hb dX5_set_41 rfl (lv_at hl 1 rfl) ?_
      refine lv_if_ne (tgt := 59) hx hb dX5_set_42 (by decide) (fun c_42 => ?_) (fun c_42 => ?_)
      · skip
        have c_42 : ¬ i = 0 := fun h9 => c_42 ((nI_eq (a := i) (b := 0) (by omega) (by omega)).mpr h9)
        refine lv_aload_n hx hb dX5_set_59 rfl (lv_at hl 0 rfl) ?_
        refine g_cVv (As := []) (rest := []) hx hb hml hown hts hK hA hG hS (k_X5_saves l D cy N L F hN 0 ms ma mv (nI w) mb ml mp mw mr mq mh w (hw6)) (cwV 0 hts gX5_set_X5_saves rfl rfl rfl (by decide +kernel) ⟨Nat.le_of_ble_eq_true rfl, Nat.le_of_ble_eq_true rfl⟩) i162 mW_o (ci := 5) rfl rfl rfl rfl hl.1 (Nat.le_of_ble_eq_true rfl) dX5_set_60 ⟨Nat.zero_le _, Nat.zero_le _⟩ (fun H locs hG hS => ?_)
        refine lv_aload_n hx hb dX5_set_63 rfl (lv_at hl 0 rfl) ?_
        refine g_get (ci := 5) (C := RX5) (T := TX5) (M := 12) hx hb hts hinX5 hown hK hG i162 mW_o rfl 1 (by decide) hf7 rfl rfl dX5_set_64 ?_
        refine lv_bipush (v := 6) hx hb dX5_set_67 (by decide) ?_
        refine lv_iload_n hx hb dX5_set_69 rfl (lv_at hl 1 rfl) ?_
        refine lv_iadd hx hb dX5_set_70 ?_
        refine lv_toN (k := 6 + i) (nI_add 6 i) ?_
        refine g_iald hx hb hK hG i163 mW_a163 (k := 6 + i) rfl (by omega) (by decide) dX5_set_71 ?_
        refine lv_istore_n (lv' := [(3, .int (ms (6 + i))), (0, .ref (L 162)), (1, .int (nI i)), (2, .int b)]) hx hb dX5_set_72 rfl hl (by decide) rfl (fun ls hl => ?_)
        refine lv_aload_n hx hb dX5_set_73 rfl (lv_at hl 1 rfl) ?_
        refine g_get (ci := 5) (C := RX5) (T := TX5) (M := 12) hx hb hts hinX5 hown hK hG i162 mW_o rfl 1 (by decide) hf7 rfl rfl dX5_set_74 ?_
        refine lv_bipush (v := 6) hx hb dX5_set_77 (by decide) ?_
        refine lv_iload_n hx hb dX5_set_79 rfl (lv_at hl 2 rfl) ?_
        refine lv_iadd hx hb dX5_set_80 ?_
        refine lv_toN (k := 6 + i) (nI_add 6 i) ?_
        refine lv_iload_n hx hb dX5_set_81 rfl (lv_at hl 3 rfl) ?_
        refine g_iast hx hb hK hG hS i163 mW_a163 (k := 6 + i) rfl (by omega) (by decide) dX5_set_82 (fun H locs hG hS => ?_)
        have hG := hG.to mW_us
        refine lv_iload_n hx hb dX5_set_83 rfl (lv_at hl 0 rfl) ?_
        exact g_iret hx hb hr hlocks hK hG hS rfl dX5_set_84 ⟨rfl, rfl⟩
      · skip
        have c_42 : i = 0 := (nI_eq (a := i) (b := 0) (by omega) (by omega)).mp c_42
        refine lv_aload_n hx hb dX5_set_45 rfl (lv_at hl 0 rfl) ?_
        refine g_cVi (As := []) (rest := []) hx hb hml hown hts hK hA hG hS (k_X5_padsOn l D cy N L F hN 0 ms ma mv (nI w) mb ml mp mw mr mq mh  ) (cwV 0 hts gX5_set_X5_padsOn rfl rfl rfl (by decide +kernel) ⟨Nat.le_of_ble_eq_true rfl, Nat.le_of_ble_eq_true rfl⟩) i162 mW_o (ci := 5) rfl rfl rfl rfl hl.1 (Nat.le_of_ble_eq_true rfl) dX5_set_46 ⟨Nat.zero_le _, Nat.zero_le _⟩ (fun H locs hG hS => ?_)
        refine lv_iload_n hx hb dX5_set_49 rfl (lv_at hl 2 rfl) ?_
        refine lv_icmp_le (tgt := 59) hx hb dX5_set_50 (by decide) (fun c_50 => ?_) (fun c_50 => ?_)
        · skip
          refine lv_aload_n hx hb dX5_set_59 rfl (lv_at hl 0 rfl) ?_
          refine g_cVv (As := []) (rest := []) hx hb hml hown hts hK hA hG hS (k_X5_saves l D cy N L F hN 0 ms ma mv (nI w) mb ml mp mw mr mq mh w (hw6)) (cwV 0 hts gX5_set_X5_saves rfl rfl rfl (by decide +kernel) ⟨Nat.le_of_ble_eq_true rfl, Nat.le_of_ble_eq_true rfl⟩) i162 mW_o (ci := 5) rfl rfl rfl rfl hl.1 (Nat.le_of_ble_eq_true rfl) dX5_set_60 ⟨Nat.zero_le _, Nat.zero_le _⟩ (fun H locs hG hS => ?_)
          refine lv_aload_n hx hb dX5_set_63 rfl (lv_at hl 0 rfl) ?_
          refine g_get (ci := 5) (C := RX5) (T := TX5) (M := 12) hx hb hts hinX5 hown hK hG i162 mW_o rfl 1 (by decide) hf7 rfl rfl dX5_set_64 ?_
          refine lv_bipush (v := 6) hx hb dX5_set_67 (by decide) ?_
          refine lv_iload_n hx hb dX5_set_69 rfl (lv_at hl 1 rfl) ?_
          refine lv_iadd hx hb dX5_set_70 ?_
          refine lv_toN (k := 6 + i) (nI_add 6 i) ?_
          refine g_iald hx hb hK hG i163 mW_a163 (k := 6 + i) rfl (by omega) (by decide) dX5_set_71 ?_
          refine lv_istore_n (lv' := [(3, .int (ms (6 + i))), (0, .ref (L 162)), (1, .int (nI i)), (2, .int b)]) hx hb dX5_set_72 rfl hl (by decide) rfl (fun ls hl => ?_)
          refine lv_aload_n hx hb dX5_set_73 rfl (lv_at hl 1 rfl) ?_
          refine g_get (ci := 5) (C := RX5) (T := TX5) (M := 12) hx hb hts hinX5 hown hK hG i162 mW_o rfl 1 (by decide) hf7 rfl rfl dX5_set_74 ?_
          refine lv_bipush (v := 6) hx hb dX5_set_77 (by decide) ?_
          refine lv_iload_n hx hb dX5_set_79 rfl (lv_at hl 2 rfl) ?_
          refine lv_iadd hx hb dX5_set_80 ?_
          refine lv_toN (k := 6 + i) (nI_add 6 i) ?_
          refine lv_iload_n hx hb dX5_set_81 rfl (lv_at hl 3 rfl) ?_
          refine g_iast hx hb hK hG hS i163 mW_a163 (k := 6 + i) rfl (by omega) (by decide) dX5_set_82 (fun H locs hG hS => ?_)
          have hG := hG.to mW_us
          refine lv_iload_n hx hb dX5_set_83 rfl (lv_at hl 0 rfl) ?_
          exact g_iret hx hb hr hlocks hK hG hS rfl dX5_set_84 ⟨rfl, rfl⟩
        · skip
          exact absurd (hv3 c_42) c_50
    · skip
      exact absurd c_32 (by decide)
  · skip
    exact absurd c_11 (by decide)
set_option maxHeartbeats 4000000 in
set_option maxRecDepth 100000 in
theorem k_X5_set_t3 (l : Launch) (D : va_G) (cy : Nat → ClassId) (N : Nat) (L : Nat → Nat) (F : Nat → va_E) (hN : 168 ≤ N) (mt : Int32) (ms ma mv : Nat → Int32) (mn : Int32) (mb : Nat → Int32) (ml mp mw : Int32) (mr : Nat → Int32) (mq : Int32) (mh : Int64) (i : Nat) (b : Int32) (hi : i = 0) (h : g_in b (g_least (nI i)) (g_most (nI i)) = 1) (hbl : ¬ g_padsOn ms 4 ≤ b) : GM l D cy N L yX5_set wsX5_set ({ frames := 2, cells := 0, slots := 0, locals := 44 }) [.ref (L 162), .int (nI i), .int b] (mW cy L F mt ms ma mv mn mb ml mp mw mr mq mh) (some (.int 0)) (mW cy L F 3 ms ma mv mn mb ml mp mw mr mq mh) := by
  refine GM.ofW (cc := cX5_set) (maxL := 4) (ret := (some .int)) (by decide) rfl (Nat.le_of_ble_eq_true rfl) ?_
  intro p e s m below meth c ls hx hb hr hts hown hlocks hml hK hA hG hS hl
  have hl : lv_has ls 4 [(0, .ref (L 162)), (1, .int (nI i)), (2, .int b)] := hl
  have i162 : 162 < N := by omega
  have i163 : 163 < N := by omega
  have i164 : 164 < N := by omega
  have i165 : 165 < N := by omega
  have i166 : 166 < N := by omega
  have i167 : 167 < N := by omega
  have hf25 := hts (.fieldLink RX5 25 "SiloPadsModel" "thrown" "I") (by decide +kernel)
  have hinX5 : ∀ w ∈ u_ws RX5 TX5 12, w ∈ wsX5_set := by decide +kernel
  refine lv_aload_n hx hb dX5_set_0 rfl (lv_at hl 0 rfl) ?_
  refine lv_iconst (v := 0) hx hb dX5_set_1 (by decide) ?_
  refine g_put (ci := 5) (C := RX5) (T := TX5) (M := 12) (ty := .int) hx hb hts hinX5 tyX5 tyX5_ok nmX5 hown hK hG hS i162 mW_o rfl 0 (by decide) hf25 rfl rfl rfl rfl rfl (Nat.le_of_ble_eq_true rfl) dX5_set_2 rfl (fun H locs hG hS => ?_)
  have hG := hG.to mW_uo
  refine lv_iload_n hx hb dX5_set_5 rfl (lv_at hl 1 rfl) ?_
  refine lv_iconst (v := 0) hx hb dX5_set_6 (by decide) ?_
  refine lv_iconst (v := 3) hx hb dX5_set_7 (by decide) ?_
  refine g_cSi (As := [.int (nI i), .int 0, .int 3]) (rest := []) hx hb hml hown hts hK hA hG hS (k_X5_in l D cy N L (mW cy L F 0 ms ma mv mn mb ml mp mw mr mq mh) (nI i) 0 3 ) (g_cwS 3 hts gX5_set_X5_in rfl rfl rfl (by decide +kernel) ⟨Nat.le_of_ble_eq_true rfl, Nat.le_of_ble_eq_true rfl⟩) rfl rfl hl.1 (Nat.le_of_ble_eq_true rfl) dX5_set_8 ⟨Nat.zero_le _, Nat.zero_le _⟩ (fun H locs hG hS => ?_)
  refine lv_toI (y := 1) (g_in_n (a := 0) (b := 3) (by omega) (by omega) (by omega)) ?_
  refine lv_if_ne (tgt := 20) hx hb dX5_set_11 (by decide) (fun c_11 => ?_) (fun c_11 => ?_)
  · skip
    refine lv_iload_n hx hb dX5_set_20 rfl (lv_at hl 2 rfl) ?_
    refine lv_iload_n hx hb dX5_set_21 rfl (lv_at hl 1 rfl) ?_
    refine g_cSi (As := [.int (nI i)]) (rest := [.int b]) hx hb hml hown hts hK hA hG hS (k_X5_leastOf l D cy N L (mW cy L F 0 ms ma mv mn mb ml mp mw mr mq mh) (nI i) ) (g_cwS 1 hts gX5_set_X5_leastOf rfl rfl rfl (by decide +kernel) ⟨Nat.le_of_ble_eq_true rfl, Nat.le_of_ble_eq_true rfl⟩) rfl rfl hl.1 (Nat.le_of_ble_eq_true rfl) dX5_set_22 ⟨Nat.zero_le _, Nat.zero_le _⟩ (fun H locs hG hS => ?_)
    refine lv_iload_n hx hb dX5_set_25 rfl (lv_at hl 1 rfl) ?_
    refine g_cSi (As := [.int (nI i)]) (rest := [.int (g_least (nI i)), .int b]) hx hb hml hown hts hK hA hG hS (k_X5_mostOf l D cy N L (mW cy L F 0 ms ma mv mn mb ml mp mw mr mq mh) (nI i) ) (g_cwS 1 hts gX5_set_X5_mostOf rfl rfl rfl (by decide +kernel) ⟨Nat.le_of_ble_eq_true rfl, Nat.le_of_ble_eq_true rfl⟩) rfl rfl hl.1 (Nat.le_of_ble_eq_true rfl) dX5_set_26 ⟨Nat.zero_le _, Nat.zero_le _⟩ (fun H locs hG hS => ?_)
    refine g_cSi (As := [.int b, .int (g_least (nI i)), .int (g_most (nI i))]) (rest := []) hx hb hml hown hts hK hA hG hS (k_X5_in l D cy N L (mW cy L F 0 ms ma mv mn mb ml mp mw mr mq mh) b (g_least (nI i)) (g_most (nI i)) ) (g_cwS 3 hts gX5_set_X5_in rfl rfl rfl (by decide +kernel) ⟨Nat.le_of_ble_eq_true rfl, Nat.le_of_ble_eq_true rfl⟩) rfl rfl hl.1 (Nat.le_of_ble_eq_true rfl) dX5_set_29 ⟨Nat.zero_le _, Nat.zero_le _⟩ (fun H locs hG hS => ?_)
    refine lv_toI (y := 1) (h) ?_
    refine lv_if_ne (tgt := 41) hx hb dX5_set_32 (by decide) (fun c_32 => ?_) (fun c_32 => ?_)
    · skip
      refine lv_iload_n hx hb dX5_set_41 rfl (lv_at hl 1 rfl) ?_
      refine lv_if_ne (tgt := 59) hx hb dX5_set_42 (by decide) (fun c_42 => ?_) (fun c_42 => ?_)
      · skip
        have c_42 : ¬ i = 0 := fun h9 => c_42 ((nI_eq (a := i) (b := 0) (by omega) (by omega)).mpr h9)
        exfalso; omega
      · skip
        have c_42 : i = 0 := (nI_eq (a := i) (b := 0) (by omega) (by omega)).mp c_42
        refine lv_aload_n hx hb dX5_set_45 rfl (lv_at hl 0 rfl) ?_
        refine g_cVi (As := []) (rest := []) hx hb hml hown hts hK hA hG hS (k_X5_padsOn l D cy N L F hN 0 ms ma mv mn mb ml mp mw mr mq mh  ) (cwV 0 hts gX5_set_X5_padsOn rfl rfl rfl (by decide +kernel) ⟨Nat.le_of_ble_eq_true rfl, Nat.le_of_ble_eq_true rfl⟩) i162 mW_o (ci := 5) rfl rfl rfl rfl hl.1 (Nat.le_of_ble_eq_true rfl) dX5_set_46 ⟨Nat.zero_le _, Nat.zero_le _⟩ (fun H locs hG hS => ?_)
        refine lv_iload_n hx hb dX5_set_49 rfl (lv_at hl 2 rfl) ?_
        refine lv_icmp_le (tgt := 59) hx hb dX5_set_50 (by decide) (fun c_50 => ?_) (fun c_50 => ?_)
        · skip
          exact absurd c_50 hbl
        · skip
          refine lv_aload_n hx hb dX5_set_53 rfl (lv_at hl 0 rfl) ?_
          refine lv_iconst (v := 3) hx hb dX5_set_54 (by decide) ?_
          refine g_cVi (As := [.int 3]) (rest := []) hx hb hml hown hts hK hA hG hS (k_X5_fails l D cy N L F hN 0 ms ma mv mn mb ml mp mw mr mq mh 3 ) (cwV 1 hts gX5_set_X5_fails rfl rfl rfl (by decide +kernel) ⟨Nat.le_of_ble_eq_true rfl, Nat.le_of_ble_eq_true rfl⟩) i162 mW_o (ci := 5) rfl rfl rfl rfl hl.1 (Nat.le_of_ble_eq_true rfl) dX5_set_55 ⟨Nat.zero_le _, Nat.zero_le _⟩ (fun H locs hG hS => ?_)
          exact g_iret hx hb hr hlocks hK hG hS rfl dX5_set_58 ⟨rfl, rfl⟩
    · skip
      exact absurd c_32 (by decide)
  · skip
    exact absurd c_11 (by decide)
set_option maxHeartbeats 4000000 in
set_option maxRecDepth 100000 in
theorem k_X5_append_ok (l : Launch) (D : va_G) (cy : Nat → ClassId) (N : Nat) (L : Nat → Nat) (F : Nat → va_E) (hN : 168 ≤ N) (mt : Int32) (ms ma mv : Nat → Int32) (mn : Int32) (mb : Nat → Int32) (ml mp mw : Int32) (mr : Nat → Int32) (mq : Int32) (mh : Int64) (n : Nat) (a : Int32) (hl60 : n < 60) (h : g_in a 33 126 = 1) : GM l D cy N L yX5_append wsX5_append ({ frames := 1, cells := 0, slots := 0, locals := 22 }) [.ref (L 162), .int a] (mW cy L F mt ms ma mv mn mb (nI n) mp mw mr mq mh) (some (.int (nI (n + 1)))) (mW cy L F 0 ms ma mv mn (upd mb n a) (nI (n + 1)) mp mw mr mq mh) := by
  refine GM.ofW (cc := cX5_append) (maxL := 2) (ret := (some .int)) (by decide) rfl (Nat.le_of_ble_eq_true rfl) ?_
  intro p e s m below meth c ls hx hb hr hts hown hlocks hml hK hA hG hS hl
  have hl : lv_has ls 2 [(0, .ref (L 162)), (1, .int a)] := hl
  have i162 : 162 < N := by omega
  have i163 : 163 < N := by omega
  have i164 : 164 < N := by omega
  have i165 : 165 < N := by omega
  have i166 : 166 < N := by omega
  have i167 : 167 < N := by omega
  have hf25 := hts (.fieldLink RX5 25 "SiloPadsModel" "thrown" "I") (by decide +kernel)
  have hinX5 : ∀ w ∈ u_ws RX5 TX5 12, w ∈ wsX5_append := by decide +kernel
  have hf121 := hts (.fieldLink RX5 121 "SiloPadsModel" "length" "I") (by decide +kernel)
  have hf19 := hts (.fieldLink RX5 19 "SiloPadsModel" "buffer" "[I") (by decide +kernel)
  refine lv_aload_n hx hb dX5_append_0 rfl (lv_at hl 0 rfl) ?_
  refine lv_iconst (v := 0) hx hb dX5_append_1 (by decide) ?_
  refine g_put (ci := 5) (C := RX5) (T := TX5) (M := 12) (ty := .int) hx hb hts hinX5 tyX5 tyX5_ok nmX5 hown hK hG hS i162 mW_o rfl 0 (by decide) hf25 rfl rfl rfl rfl rfl (Nat.le_of_ble_eq_true rfl) dX5_append_2 rfl (fun H locs hG hS => ?_)
  have hG := hG.to mW_uo
  refine lv_iload_n hx hb dX5_append_5 rfl (lv_at hl 1 rfl) ?_
  refine lv_bipush (v := 33) hx hb dX5_append_6 (by decide) ?_
  refine lv_bipush (v := 126) hx hb dX5_append_8 (by decide) ?_
  refine g_cSi (As := [.int a, .int 33, .int 126]) (rest := []) hx hb hml hown hts hK hA hG hS (k_X5_in l D cy N L (mW cy L F 0 ms ma mv mn mb (nI n) mp mw mr mq mh) a 33 126 ) (g_cwS 3 hts gX5_append_X5_in rfl rfl rfl (by decide +kernel) ⟨Nat.le_of_ble_eq_true rfl, Nat.le_of_ble_eq_true rfl⟩) rfl rfl hl.1 (Nat.le_of_ble_eq_true rfl) dX5_append_10 ⟨Nat.zero_le _, Nat.zero_le _⟩ (fun H locs hG hS => ?_)
  refine lv_toI (y := 1) (h) ?_
  refine lv_if_ne (tgt := 22) hx hb dX5_append_13 (by decide) (fun c_13 => ?_) (fun c_13 => ?_)
  · skip
    refine lv_aload_n hx hb dX5_append_22 rfl (lv_at hl 0 rfl) ?_
    refine g_get (ci := 5) (C := RX5) (T := TX5) (M := 12) hx hb hts hinX5 hown hK hG i162 mW_o rfl 6 (by decide) hf121 rfl rfl dX5_append_23 ?_
    refine lv_bipush (v := 60) hx hb dX5_append_26 (by decide) ?_
    refine lv_icmp_ne (tgt := 37) hx hb dX5_append_28 (by decide) (fun c_28 => ?_) (fun c_28 => ?_)
    · skip
      have c_28 : ¬ n = 60 := fun h9 => c_28 ((nI_eq (a := n) (b := 60) (by omega) (by omega)).mpr h9)
      refine lv_aload_n hx hb dX5_append_37 rfl (lv_at hl 0 rfl) ?_
      refine g_get (ci := 5) (C := RX5) (T := TX5) (M := 12) hx hb hts hinX5 hown hK hG i162 mW_o rfl 5 (by decide) hf19 rfl rfl dX5_append_38 ?_
      refine lv_aload_n hx hb dX5_append_41 rfl (lv_at hl 0 rfl) ?_
      refine g_get (ci := 5) (C := RX5) (T := TX5) (M := 12) hx hb hts hinX5 hown hK hG i162 mW_o rfl 6 (by decide) hf121 rfl rfl dX5_append_42 ?_
      refine lv_iload_n hx hb dX5_append_45 rfl (lv_at hl 1 rfl) ?_
      refine g_iast hx hb hK hG hS i166 mW_a166 (k := n) rfl (by omega) (by decide) dX5_append_46 (fun H locs hG hS => ?_)
      have hG := hG.to mW_ub
      refine lv_aload_n hx hb dX5_append_47 rfl (lv_at hl 0 rfl) ?_
      refine lv_dup hx hb dX5_append_48 rfl ?_
      refine g_get (ci := 5) (C := RX5) (T := TX5) (M := 12) hx hb hts hinX5 hown hK hG i162 mW_o rfl 6 (by decide) hf121 rfl rfl dX5_append_49 ?_
      refine lv_iconst (v := 1) hx hb dX5_append_52 (by decide) ?_
      refine lv_iadd hx hb dX5_append_53 ?_
      refine lv_toN (k := n + 1) (nI_add n 1) ?_
      refine g_put (ci := 5) (C := RX5) (T := TX5) (M := 12) (ty := .int) hx hb hts hinX5 tyX5 tyX5_ok nmX5 hown hK hG hS i162 mW_o rfl 6 (by decide) hf121 rfl rfl rfl rfl rfl (Nat.le_of_ble_eq_true rfl) dX5_append_54 rfl (fun H locs hG hS => ?_)
      have hG := hG.to mW_uo
      refine lv_aload_n hx hb dX5_append_57 rfl (lv_at hl 0 rfl) ?_
      refine g_get (ci := 5) (C := RX5) (T := TX5) (M := 12) hx hb hts hinX5 hown hK hG i162 mW_o rfl 6 (by decide) hf121 rfl rfl dX5_append_58 ?_
      exact g_iret hx hb hr hlocks hK hG hS rfl dX5_append_61 ⟨rfl, rfl⟩
    · skip
      have c_28 : n = 60 := (nI_eq (a := n) (b := 60) (by omega) (by omega)).mp c_28
      exfalso; omega
  · skip
    exact absurd c_13 (by decide)
set_option maxHeartbeats 4000000 in
set_option maxRecDepth 100000 in
theorem k_X5_clearBuffer (l : Launch) (D : va_G) (cy : Nat → ClassId) (N : Nat) (L : Nat → Nat) (F : Nat → va_E) (hN : 168 ≤ N) (mt : Int32) (ms ma mv : Nat → Int32) (mn : Int32) (mb : Nat → Int32) (ml mp mw : Int32) (mr : Nat → Int32) (mq : Int32) (mh : Int64)   : GM l D cy N L yX5_clearBuffer wsX5_clearBuffer ({ frames := 0, cells := 0, slots := 0, locals := 0 }) [.ref (L 162)] (mW cy L F mt ms ma mv mn mb ml mp mw mr mq mh) (some (.int ml)) (mW cy L F 0 ms ma mv mn mb 0 mp mw mr mq mh) := by
  refine GM.ofW (cc := cX5_clearBuffer) (maxL := 2) (ret := (some .int)) (by decide) rfl (Nat.le_of_ble_eq_true rfl) ?_
  intro p e s m below meth c ls hx hb hr hts hown hlocks hml hK hA hG hS hl
  have hl : lv_has ls 2 [(0, .ref (L 162))] := hl
  have i162 : 162 < N := by omega
  have i163 : 163 < N := by omega
  have i164 : 164 < N := by omega
  have i165 : 165 < N := by omega
  have i166 : 166 < N := by omega
  have i167 : 167 < N := by omega
  have hf25 := hts (.fieldLink RX5 25 "SiloPadsModel" "thrown" "I") (by decide +kernel)
  have hinX5 : ∀ w ∈ u_ws RX5 TX5 12, w ∈ wsX5_clearBuffer := by decide +kernel
  have hf121 := hts (.fieldLink RX5 121 "SiloPadsModel" "length" "I") (by decide +kernel)
  refine lv_aload_n hx hb dX5_clearBuffer_0 rfl (lv_at hl 0 rfl) ?_
  refine lv_iconst (v := 0) hx hb dX5_clearBuffer_1 (by decide) ?_
  refine g_put (ci := 5) (C := RX5) (T := TX5) (M := 12) (ty := .int) hx hb hts hinX5 tyX5 tyX5_ok nmX5 hown hK hG hS i162 mW_o rfl 0 (by decide) hf25 rfl rfl rfl rfl rfl (Nat.le_of_ble_eq_true rfl) dX5_clearBuffer_2 rfl (fun H locs hG hS => ?_)
  have hG := hG.to mW_uo
  refine lv_aload_n hx hb dX5_clearBuffer_5 rfl (lv_at hl 0 rfl) ?_
  refine g_get (ci := 5) (C := RX5) (T := TX5) (M := 12) hx hb hts hinX5 hown hK hG i162 mW_o rfl 6 (by decide) hf121 rfl rfl dX5_clearBuffer_6 ?_
  refine lv_istore_n (lv' := [(1, .int ml), (0, .ref (L 162))]) hx hb dX5_clearBuffer_9 rfl hl (by decide) rfl (fun ls hl => ?_)
  refine lv_aload_n hx hb dX5_clearBuffer_10 rfl (lv_at hl 1 rfl) ?_
  refine lv_iconst (v := 0) hx hb dX5_clearBuffer_11 (by decide) ?_
  refine g_put (ci := 5) (C := RX5) (T := TX5) (M := 12) (ty := .int) hx hb hts hinX5 tyX5 tyX5_ok nmX5 hown hK hG hS i162 mW_o rfl 6 (by decide) hf121 rfl rfl rfl rfl rfl (Nat.le_of_ble_eq_true rfl) dX5_clearBuffer_12 rfl (fun H locs hG hS => ?_)
  have hG := hG.to mW_uo
  refine lv_iload_n hx hb dX5_clearBuffer_15 rfl (lv_at hl 0 rfl) ?_
  exact g_iret hx hb hr hlocks hK hG hS rfl dX5_clearBuffer_16 ⟨rfl, rfl⟩
set_option maxHeartbeats 4000000 in
set_option maxRecDepth 100000 in
theorem k_X5_silo_ok (l : Launch) (D : va_G) (cy : Nat → ClassId) (N : Nat) (L : Nat → Nat) (F : Nat → va_E) (hN : 168 ≤ N) (mt : Int32) (ms ma mv : Nat → Int32) (mn : Int32) (mb : Nat → Int32) (ml mp mw : Int32) (mr : Nat → Int32) (mq : Int32) (mh : Int64) (k : Nat) (b : Int32) (hw : wfM ms) (hk : k < 4) (h : g_in b 0 5 = 1) : GM l D cy N L yX5_silo wsX5_silo ({ frames := 5, cells := 0, slots := 0, locals := 111 }) [.ref (L 162), .int (nI k), .int b] (mW cy L F mt ms ma mv mn mb ml mp mw mr mq mh) (some (.int (g_tellS ms k (Nn ms k) b))) (mW cy L F 0 ms ma mv mn mb ml mp mw mr mq mh) := by
  refine GM.ofW (cc := cX5_silo) (maxL := 3) (ret := (some .int)) (by decide) rfl (Nat.le_of_ble_eq_true rfl) ?_
  intro p e s m below meth c ls hx hb hr hts hown hlocks hml hK hA hG hS hl
  have hl : lv_has ls 3 [(0, .ref (L 162)), (1, .int (nI k)), (2, .int b)] := hl
  have i162 : 162 < N := by omega
  have i163 : 163 < N := by omega
  have i164 : 164 < N := by omega
  have i165 : 165 < N := by omega
  have i166 : 166 < N := by omega
  have i167 : 167 < N := by omega
  have hf25 := hts (.fieldLink RX5 25 "SiloPadsModel" "thrown" "I") (by decide +kernel)
  have hinX5 : ∀ w ∈ u_ws RX5 TX5 12, w ∈ wsX5_silo := by decide +kernel
  refine lv_aload_n hx hb dX5_silo_0 rfl (lv_at hl 0 rfl) ?_
  refine lv_iconst (v := 0) hx hb dX5_silo_1 (by decide) ?_
  refine g_put (ci := 5) (C := RX5) (T := TX5) (M := 12) (ty := .int) hx hb hts hinX5 tyX5 tyX5_ok nmX5 hown hK hG hS i162 mW_o rfl 0 (by decide) hf25 rfl rfl rfl rfl rfl (Nat.le_of_ble_eq_true rfl) dX5_silo_2 rfl (fun H locs hG hS => ?_)
  have hG := hG.to mW_uo
  refine lv_iload_n hx hb dX5_silo_5 rfl (lv_at hl 1 rfl) ?_
  refine g_cSi (As := [.int (nI k)]) (rest := []) hx hb hml hown hts hK hA hG hS (k_X5_isSilo l D cy N L (mW cy L F 0 ms ma mv mn mb ml mp mw mr mq mh) (nI k) ) (g_cwS 1 hts gX5_silo_X5_isSilo rfl rfl rfl (by decide +kernel) ⟨Nat.le_of_ble_eq_true rfl, Nat.le_of_ble_eq_true rfl⟩) rfl rfl hl.1 (Nat.le_of_ble_eq_true rfl) dX5_silo_6 ⟨Nat.zero_le _, Nat.zero_le _⟩ (fun H locs hG hS => ?_)
  refine lv_toI (y := 1) (g_in_silo hk) ?_
  refine lv_if_ne (tgt := 18) hx hb dX5_silo_9 (by decide) (fun c_9 => ?_) (fun c_9 => ?_)
  · skip
    refine lv_iload_n hx hb dX5_silo_18 rfl (lv_at hl 2 rfl) ?_
    refine lv_iconst (v := 0) hx hb dX5_silo_19 (by decide) ?_
    refine lv_iconst (v := 5) hx hb dX5_silo_20 (by decide) ?_
    refine g_cSi (As := [.int b, .int 0, .int 5]) (rest := []) hx hb hml hown hts hK hA hG hS (k_X5_in l D cy N L (mW cy L F 0 ms ma mv mn mb ml mp mw mr mq mh) b 0 5 ) (g_cwS 3 hts gX5_silo_X5_in rfl rfl rfl (by decide +kernel) ⟨Nat.le_of_ble_eq_true rfl, Nat.le_of_ble_eq_true rfl⟩) rfl rfl hl.1 (Nat.le_of_ble_eq_true rfl) dX5_silo_21 ⟨Nat.zero_le _, Nat.zero_le _⟩ (fun H locs hG hS => ?_)
    refine lv_toI (y := 1) (h) ?_
    refine lv_if_eq (tgt := 36) hx hb dX5_silo_24 (by decide) (fun c_24 => ?_) (fun c_24 => ?_)
    · skip
      exact absurd c_24 (by decide)
    · skip
      refine lv_aload_n hx hb dX5_silo_27 rfl (lv_at hl 0 rfl) ?_
      refine lv_iload_n hx hb dX5_silo_28 rfl (lv_at hl 1 rfl) ?_
      refine lv_iload_n hx hb dX5_silo_29 rfl (lv_at hl 2 rfl) ?_
      refine g_cVi (As := [.int (nI k), .int b]) (rest := []) hx hb hml hown hts hK hA hG hS (k_X5_tellsSilo l D cy N L F hN 0 ms ma mv mn mb ml mp mw mr mq mh k (Nn ms k) b (by omega) ((hw.1 k hk).1) ((hw.1 k hk).2)) (cwV 2 hts gX5_silo_X5_tellsSilo rfl rfl rfl (by decide +kernel) ⟨Nat.le_of_ble_eq_true rfl, Nat.le_of_ble_eq_true rfl⟩) i162 mW_o (ci := 5) rfl rfl rfl rfl hl.1 (Nat.le_of_ble_eq_true rfl) dX5_silo_30 ⟨Nat.zero_le _, Nat.zero_le _⟩ (fun H locs hG hS => ?_)
      refine lv_goto (tgt := 41) hx hb dX5_silo_33 (by decide) ?_
      exact g_iret hx hb hr hlocks hK hG hS rfl dX5_silo_41 ⟨rfl, rfl⟩
  · skip
    exact absurd c_9 (by decide)
set_option maxHeartbeats 4000000 in
set_option maxRecDepth 100000 in
theorem k_X5_layer_ok (l : Launch) (D : va_G) (cy : Nat → ClassId) (N : Nat) (L : Nat → Nat) (F : Nat → va_E) (hN : 168 ≤ N) (mt : Int32) (ms ma mv : Nat → Int32) (mn : Int32) (mb : Nat → Int32) (ml mp mw : Int32) (mr : Nat → Int32) (mq : Int32) (mh : Int64) (k j : Nat) (t : Int32) (hw : wfM ms) (hk : k < 4) (hj : j < Nn ms k) (h : g_in t 0 2 = 1) : GM l D cy N L yX5_layer wsX5_layer ({ frames := 4, cells := 0, slots := 0, locals := 90 }) [.ref (L 162), .int (nI k), .int (nI j), .int t] (mW cy L F mt ms ma mv mn mb ml mp mw mr mq mh) (some (.int (g_tellL ms k j t))) (mW cy L F 0 ms ma mv mn mb ml mp mw mr mq mh) := by
  refine GM.ofW (cc := cX5_layer) (maxL := 4) (ret := (some .int)) (by decide) rfl (Nat.le_of_ble_eq_true rfl) ?_
  intro p e s m below meth c ls hx hb hr hts hown hlocks hml hK hA hG hS hl
  have hl : lv_has ls 4 [(0, .ref (L 162)), (1, .int (nI k)), (2, .int (nI j)), (3, .int t)] := hl
  have i162 : 162 < N := by omega
  have i163 : 163 < N := by omega
  have i164 : 164 < N := by omega
  have i165 : 165 < N := by omega
  have i166 : 166 < N := by omega
  have i167 : 167 < N := by omega
  have hf25 := hts (.fieldLink RX5 25 "SiloPadsModel" "thrown" "I") (by decide +kernel)
  have hinX5 : ∀ w ∈ u_ws RX5 TX5 12, w ∈ wsX5_layer := by decide +kernel
  have hn8 := hw.1 k hk
  have hj10 : j < 10 := by omega
  refine lv_aload_n hx hb dX5_layer_0 rfl (lv_at hl 0 rfl) ?_
  refine lv_iconst (v := 0) hx hb dX5_layer_1 (by decide) ?_
  refine g_put (ci := 5) (C := RX5) (T := TX5) (M := 12) (ty := .int) hx hb hts hinX5 tyX5 tyX5_ok nmX5 hown hK hG hS i162 mW_o rfl 0 (by decide) hf25 rfl rfl rfl rfl rfl (Nat.le_of_ble_eq_true rfl) dX5_layer_2 rfl (fun H locs hG hS => ?_)
  have hG := hG.to mW_uo
  refine lv_iload_n hx hb dX5_layer_5 rfl (lv_at hl 1 rfl) ?_
  refine g_cSi (As := [.int (nI k)]) (rest := []) hx hb hml hown hts hK hA hG hS (k_X5_isSilo l D cy N L (mW cy L F 0 ms ma mv mn mb ml mp mw mr mq mh) (nI k) ) (g_cwS 1 hts gX5_layer_X5_isSilo rfl rfl rfl (by decide +kernel) ⟨Nat.le_of_ble_eq_true rfl, Nat.le_of_ble_eq_true rfl⟩) rfl rfl hl.1 (Nat.le_of_ble_eq_true rfl) dX5_layer_6 ⟨Nat.zero_le _, Nat.zero_le _⟩ (fun H locs hG hS => ?_)
  refine lv_toI (y := 1) (g_in_silo hk) ?_
  refine lv_if_eq (tgt := 28) hx hb dX5_layer_9 (by decide) (fun c_9 => ?_) (fun c_9 => ?_)
  · skip
    exact absurd c_9 (by decide)
  · skip
    refine lv_iload_n hx hb dX5_layer_12 rfl (lv_at hl 2 rfl) ?_
    refine lv_iconst (v := 0) hx hb dX5_layer_13 (by decide) ?_
    refine lv_aload_n hx hb dX5_layer_14 rfl (lv_at hl 0 rfl) ?_
    refine lv_iload_n hx hb dX5_layer_15 rfl (lv_at hl 1 rfl) ?_
    refine lv_iconst (v := 3) hx hb dX5_layer_16 (by decide) ?_
    refine g_cVi (As := [.int (nI k), .int 3]) (rest := [.int 0, .int (nI j)]) hx hb hml hown hts hK hA hG hS (k_X5_of l D cy N L F hN 0 ms ma mv mn mb ml mp mw mr mq mh k 3 (by omega)) (cwV 2 hts gX5_layer_X5_of rfl rfl rfl (by decide +kernel) ⟨Nat.le_of_ble_eq_true rfl, Nat.le_of_ble_eq_true rfl⟩) i162 mW_o (ci := 5) rfl rfl rfl rfl hl.1 (Nat.le_of_ble_eq_true rfl) dX5_layer_17 ⟨Nat.zero_le _, Nat.zero_le _⟩ (fun H locs hG hS => ?_)
    refine lv_toN (k := Nn ms k) (hn8.1) ?_
    refine lv_iconst (v := 1) hx hb dX5_layer_20 (by decide) ?_
    refine lv_isub hx hb dX5_layer_21 ?_
    refine lv_toN (k := (Nn ms k) - 1) (pk_sub (a := Nn ms k) (b := 1) (by omega)) ?_
    refine g_cSi (As := [.int (nI j), .int 0, .int (nI ((Nn ms k) - 1))]) (rest := []) hx hb hml hown hts hK hA hG hS (k_X5_in l D cy N L (mW cy L F 0 ms ma mv mn mb ml mp mw mr mq mh) (nI j) 0 (nI ((Nn ms k) - 1)) ) (g_cwS 3 hts gX5_layer_X5_in rfl rfl rfl (by decide +kernel) ⟨Nat.le_of_ble_eq_true rfl, Nat.le_of_ble_eq_true rfl⟩) rfl rfl hl.1 (Nat.le_of_ble_eq_true rfl) dX5_layer_22 ⟨Nat.zero_le _, Nat.zero_le _⟩ (fun H locs hG hS => ?_)
    refine lv_toI (y := 1) (g_in_n (a := 0) (b := Nn ms k - 1) (by omega) (by omega) (by omega)) ?_
    refine lv_if_ne (tgt := 34) hx hb dX5_layer_25 (by decide) (fun c_25 => ?_) (fun c_25 => ?_)
    · skip
      refine lv_iload_n hx hb dX5_layer_34 rfl (lv_at hl 3 rfl) ?_
      refine lv_iconst (v := 0) hx hb dX5_layer_35 (by decide) ?_
      refine lv_iconst (v := 2) hx hb dX5_layer_36 (by decide) ?_
      refine g_cSi (As := [.int t, .int 0, .int 2]) (rest := []) hx hb hml hown hts hK hA hG hS (k_X5_in l D cy N L (mW cy L F 0 ms ma mv mn mb ml mp mw mr mq mh) t 0 2 ) (g_cwS 3 hts gX5_layer_X5_in rfl rfl rfl (by decide +kernel) ⟨Nat.le_of_ble_eq_true rfl, Nat.le_of_ble_eq_true rfl⟩) rfl rfl hl.1 (Nat.le_of_ble_eq_true rfl) dX5_layer_37 ⟨Nat.zero_le _, Nat.zero_le _⟩ (fun H locs hG hS => ?_)
      refine lv_toI (y := 1) (h) ?_
      refine lv_if_eq (tgt := 53) hx hb dX5_layer_40 (by decide) (fun c_40 => ?_) (fun c_40 => ?_)
      · skip
        exact absurd c_40 (by decide)
      · skip
        refine lv_aload_n hx hb dX5_layer_43 rfl (lv_at hl 0 rfl) ?_
        refine lv_iload_n hx hb dX5_layer_44 rfl (lv_at hl 1 rfl) ?_
        refine lv_iload_n hx hb dX5_layer_45 rfl (lv_at hl 2 rfl) ?_
        refine lv_iload_n hx hb dX5_layer_46 rfl (lv_at hl 3 rfl) ?_
        refine g_cVi (As := [.int (nI k), .int (nI j), .int t]) (rest := []) hx hb hml hown hts hK hA hG hS (k_X5_tellsLayer l D cy N L F hN 0 ms ma mv mn mb ml mp mw mr mq mh k j t (by omega) (by omega)) (cwV 3 hts gX5_layer_X5_tellsLayer rfl rfl rfl (by decide +kernel) ⟨Nat.le_of_ble_eq_true rfl, Nat.le_of_ble_eq_true rfl⟩) i162 mW_o (ci := 5) rfl rfl rfl rfl hl.1 (Nat.le_of_ble_eq_true rfl) dX5_layer_47 ⟨Nat.zero_le _, Nat.zero_le _⟩ (fun H locs hG hS => ?_)
        refine lv_goto (tgt := 58) hx hb dX5_layer_50 (by decide) ?_
        exact g_iret hx hb hr hlocks hK hG hS rfl dX5_layer_58 ⟨rfl, rfl⟩
    · skip
      exact absurd c_25 (by decide)
set_option maxHeartbeats 4000000 in
set_option maxRecDepth 100000 in
theorem k_X5_shipOf_ok (l : Launch) (D : va_G) (cy : Nat → ClassId) (N : Nat) (L : Nat → Nat) (F : Nat → va_E) (hN : 168 ≤ N) (mt : Int32) (ms ma mv : Nat → Int32) (mn : Int32) (mb : Nat → Int32) (ml mp mw : Int32) (mr : Nat → Int32) (mq : Int32) (mh : Int64) (j i : Nat) (hj : j < 6) (hi : i < 2) : GM l D cy N L yX5_shipOf wsX5_shipOf ({ frames := 2, cells := 0, slots := 0, locals := 42 }) [.ref (L 162), .int (nI j), .int (nI i)] (mW cy L F mt ms ma mv mn mb ml mp mw mr mq mh) (some (.int (ms (106 + 2 * j + i)))) (mW cy L F 0 ms ma mv mn mb ml mp mw mr mq mh) := by
  refine GM.ofW (cc := cX5_shipOf) (maxL := 3) (ret := (some .int)) (by decide) rfl (Nat.le_of_ble_eq_true rfl) ?_
  intro p e s m below meth c ls hx hb hr hts hown hlocks hml hK hA hG hS hl
  have hl : lv_has ls 3 [(0, .ref (L 162)), (1, .int (nI j)), (2, .int (nI i))] := hl
  have i162 : 162 < N := by omega
  have i163 : 163 < N := by omega
  have i164 : 164 < N := by omega
  have i165 : 165 < N := by omega
  have i166 : 166 < N := by omega
  have i167 : 167 < N := by omega
  have hf25 := hts (.fieldLink RX5 25 "SiloPadsModel" "thrown" "I") (by decide +kernel)
  have hinX5 : ∀ w ∈ u_ws RX5 TX5 12, w ∈ wsX5_shipOf := by decide +kernel
  have hf7 := hts (.fieldLink RX5 7 "SiloPadsModel" "s" "[I") (by decide +kernel)
  refine lv_aload_n hx hb dX5_shipOf_0 rfl (lv_at hl 0 rfl) ?_
  refine lv_iconst (v := 0) hx hb dX5_shipOf_1 (by decide) ?_
  refine g_put (ci := 5) (C := RX5) (T := TX5) (M := 12) (ty := .int) hx hb hts hinX5 tyX5 tyX5_ok nmX5 hown hK hG hS i162 mW_o rfl 0 (by decide) hf25 rfl rfl rfl rfl rfl (Nat.le_of_ble_eq_true rfl) dX5_shipOf_2 rfl (fun H locs hG hS => ?_)
  have hG := hG.to mW_uo
  refine lv_iload_n hx hb dX5_shipOf_5 rfl (lv_at hl 1 rfl) ?_
  refine g_cSi (As := [.int (nI j)]) (rest := []) hx hb hml hown hts hK hA hG hS (k_X5_isShip l D cy N L (mW cy L F 0 ms ma mv mn mb ml mp mw mr mq mh) (nI j) ) (g_cwS 1 hts gX5_shipOf_X5_isShip rfl rfl rfl (by decide +kernel) ⟨Nat.le_of_ble_eq_true rfl, Nat.le_of_ble_eq_true rfl⟩) rfl rfl hl.1 (Nat.le_of_ble_eq_true rfl) dX5_shipOf_6 ⟨Nat.zero_le _, Nat.zero_le _⟩ (fun H locs hG hS => ?_)
  refine lv_toI (y := 1) (g_in_ship hj) ?_
  refine lv_if_ne (tgt := 18) hx hb dX5_shipOf_9 (by decide) (fun c_9 => ?_) (fun c_9 => ?_)
  · skip
    refine lv_iload_n hx hb dX5_shipOf_18 rfl (lv_at hl 2 rfl) ?_
    refine lv_iconst (v := 0) hx hb dX5_shipOf_19 (by decide) ?_
    refine lv_iconst (v := 1) hx hb dX5_shipOf_20 (by decide) ?_
    refine g_cSi (As := [.int (nI i), .int 0, .int 1]) (rest := []) hx hb hml hown hts hK hA hG hS (k_X5_in l D cy N L (mW cy L F 0 ms ma mv mn mb ml mp mw mr mq mh) (nI i) 0 1 ) (g_cwS 3 hts gX5_shipOf_X5_in rfl rfl rfl (by decide +kernel) ⟨Nat.le_of_ble_eq_true rfl, Nat.le_of_ble_eq_true rfl⟩) rfl rfl hl.1 (Nat.le_of_ble_eq_true rfl) dX5_shipOf_21 ⟨Nat.zero_le _, Nat.zero_le _⟩ (fun H locs hG hS => ?_)
    refine lv_toI (y := 1) (g_in_n (a := 0) (b := 1) (by omega) (by omega) (by omega)) ?_
    refine lv_if_eq (tgt := 43) hx hb dX5_shipOf_24 (by decide) (fun c_24 => ?_) (fun c_24 => ?_)
    · skip
      exact absurd c_24 (by decide)
    · skip
      refine lv_aload_n hx hb dX5_shipOf_27 rfl (lv_at hl 0 rfl) ?_
      refine g_get (ci := 5) (C := RX5) (T := TX5) (M := 12) hx hb hts hinX5 hown hK hG i162 mW_o rfl 1 (by decide) hf7 rfl rfl dX5_shipOf_28 ?_
      refine lv_bipush (v := 106) hx hb dX5_shipOf_31 (by decide) ?_
      refine lv_iconst (v := 2) hx hb dX5_shipOf_33 (by decide) ?_
      refine lv_iload_n hx hb dX5_shipOf_34 rfl (lv_at hl 1 rfl) ?_
      refine lv_imul hx hb dX5_shipOf_35 ?_
      refine lv_toN (k := 2 * j) (pk_mul 2 j) ?_
      refine lv_iadd hx hb dX5_shipOf_36 ?_
      refine lv_toN (k := 106 + (2 * j)) (nI_add 106 (2 * j)) ?_
      refine lv_iload_n hx hb dX5_shipOf_37 rfl (lv_at hl 2 rfl) ?_
      refine lv_iadd hx hb dX5_shipOf_38 ?_
      refine lv_toN (k := (106 + (2 * j)) + i) (nI_add (106 + (2 * j)) i) ?_
      refine g_iald hx hb hK hG i163 mW_a163 (k := (106 + (2 * j)) + i) rfl (by omega) (by decide) dX5_shipOf_39 ?_
      refine lv_goto (tgt := 48) hx hb dX5_shipOf_40 (by decide) ?_
      exact g_iret hx hb hr hlocks hK hG hS rfl dX5_shipOf_48 ⟨(congrArg (fun z9 => some (Value.int z9)) (by rfl)), rfl⟩
  · skip
    exact absurd c_9 (by decide)
set_option maxHeartbeats 4000000 in
set_option maxRecDepth 100000 in
theorem k_X5_count_ok (l : Launch) (D : va_G) (cy : Nat → ClassId) (N : Nat) (L : Nat → Nat) (F : Nat → va_E) (hN : 168 ≤ N) (mt : Int32) (ms ma mv : Nat → Int32) (mn : Int32) (mb : Nat → Int32) (ml mp mw : Int32) (mr : Nat → Int32) (mq : Int32) (mh : Int64) (a : Int32) (hw : wfM ms) (hv : a = 0 ∨ a = 1 ∨ a = 2 ∨ a = 3 ∨ a = 4 ∨ a = 5 ∨ a = 6 ∨ a = 7 ∨ a = 8 ∨ a = 9 ∨ a = 10 ∨ a = 11 ∨ a = 12 ∨ a = 13 ∨ a = 14) : GM l D cy N L yX5_count wsX5_count ({ frames := 5, cells := 0, slots := 0, locals := 111 }) [.ref (L 162), .int a] (mW cy L F mt ms ma mv mn mb ml mp mw mr mq mh) (some (.int (g_count ms mn a))) (mW cy L F 0 ms ma mv mn mb ml mp mw mr mq mh) := by
  refine GM.ofW (cc := cX5_count) (maxL := 2) (ret := (some .int)) (by decide) rfl (Nat.le_of_ble_eq_true rfl) ?_
  intro p e s m below meth c ls hx hb hr hts hown hlocks hml hK hA hG hS hl
  have hl : lv_has ls 2 [(0, .ref (L 162)), (1, .int a)] := hl
  have i162 : 162 < N := by omega
  have i163 : 163 < N := by omega
  have i164 : 164 < N := by omega
  have i165 : 165 < N := by omega
  have i166 : 166 < N := by omega
  have i167 : 167 < N := by omega
  have hf25 := hts (.fieldLink RX5 25 "SiloPadsModel" "thrown" "I") (by decide +kernel)
  have hinX5 : ∀ w ∈ u_ws RX5 TX5 12, w ∈ wsX5_count := by decide +kernel
  refine lv_aload_n hx hb dX5_count_0 rfl (lv_at hl 0 rfl) ?_
  refine lv_iconst (v := 0) hx hb dX5_count_1 (by decide) ?_
  refine g_put (ci := 5) (C := RX5) (T := TX5) (M := 12) (ty := .int) hx hb hts hinX5 tyX5 tyX5_ok nmX5 hown hK hG hS i162 mW_o rfl 0 (by decide) hf25 rfl rfl rfl rfl rfl (Nat.le_of_ble_eq_true rfl) dX5_count_2 rfl (fun H locs hG hS => ?_)
  have hG := hG.to mW_uo
  refine lv_iload_n hx hb dX5_count_5 rfl (lv_at hl 1 rfl) ?_
  refine lv_iconst (v := 0) hx hb dX5_count_6 (by decide) ?_
  refine lv_bipush (v := 14) hx hb dX5_count_7 (by decide) ?_
  refine g_cSi (As := [.int a, .int 0, .int 14]) (rest := []) hx hb hml hown hts hK hA hG hS (k_X5_in l D cy N L (mW cy L F 0 ms ma mv mn mb ml mp mw mr mq mh) a 0 14 ) (g_cwS 3 hts gX5_count_X5_in rfl rfl rfl (by decide +kernel) ⟨Nat.le_of_ble_eq_true rfl, Nat.le_of_ble_eq_true rfl⟩) rfl rfl hl.1 (Nat.le_of_ble_eq_true rfl) dX5_count_9 ⟨Nat.zero_le _, Nat.zero_le _⟩ (fun H locs hG hS => ?_)
  refine lv_toI (y := 1) (by rcases hv with rfl | rfl | rfl | rfl | rfl | rfl | rfl | rfl | rfl | rfl | rfl | rfl | rfl | rfl | rfl <;> rfl) ?_
  refine lv_if_eq (tgt := 23) hx hb dX5_count_12 (by decide) (fun c_12 => ?_) (fun c_12 => ?_)
  · skip
    exact absurd c_12 (by decide)
  · skip
    refine lv_aload_n hx hb dX5_count_15 rfl (lv_at hl 0 rfl) ?_
    refine lv_iload_n hx hb dX5_count_16 rfl (lv_at hl 1 rfl) ?_
    refine g_cVi (As := [.int a]) (rest := []) hx hb hml hown hts hK hA hG hS (k_X5_tellsCount l D cy N L F hN 0 ms ma mv mn mb ml mp mw mr mq mh a (hw) (hv)) (cwV 1 hts gX5_count_X5_tellsCount rfl rfl rfl (by decide +kernel) ⟨Nat.le_of_ble_eq_true rfl, Nat.le_of_ble_eq_true rfl⟩) i162 mW_o (ci := 5) rfl rfl rfl rfl hl.1 (Nat.le_of_ble_eq_true rfl) dX5_count_17 ⟨Nat.zero_le _, Nat.zero_le _⟩ (fun H locs hG hS => ?_)
    refine lv_goto (tgt := 28) hx hb dX5_count_20 (by decide) ?_
    exact g_iret hx hb hr hlocks hK hG hS rfl dX5_count_28 ⟨rfl, rfl⟩
set_option maxHeartbeats 4000000 in
set_option maxRecDepth 100000 in
theorem k_X5_whyNot_ok (l : Launch) (D : va_G) (cy : Nat → ClassId) (N : Nat) (L : Nat → Nat) (F : Nat → va_E) (hN : 168 ≤ N) (mt : Int32) (ms ma mv : Nat → Int32) (mn : Int32) (mb : Nat → Int32) (ml mp mw : Int32) (mr : Nat → Int32) (mq : Int32) (mh : Int64) (k j : Nat) (hk : k < 4) (hj : j < 6) : GM l D cy N L yX5_whyNot wsX5_whyNot ({ frames := 5, cells := 0, slots := 0, locals := 111 }) [.ref (L 162), .int (nI k), .int (nI j)] (mW cy L F mt ms ma mv mn mb ml mp mw mr mq mh) (some (.int (g_reason ms k j))) (mW cy L F 0 ms ma mv mn mb ml mp mw mr mq mh) := by
  refine GM.ofW (cc := cX5_whyNot) (maxL := 3) (ret := (some .int)) (by decide) rfl (Nat.le_of_ble_eq_true rfl) ?_
  intro p e s m below meth c ls hx hb hr hts hown hlocks hml hK hA hG hS hl
  have hl : lv_has ls 3 [(0, .ref (L 162)), (1, .int (nI k)), (2, .int (nI j))] := hl
  have i162 : 162 < N := by omega
  have i163 : 163 < N := by omega
  have i164 : 164 < N := by omega
  have i165 : 165 < N := by omega
  have i166 : 166 < N := by omega
  have i167 : 167 < N := by omega
  have hf25 := hts (.fieldLink RX5 25 "SiloPadsModel" "thrown" "I") (by decide +kernel)
  have hinX5 : ∀ w ∈ u_ws RX5 TX5 12, w ∈ wsX5_whyNot := by decide +kernel
  refine lv_aload_n hx hb dX5_whyNot_0 rfl (lv_at hl 0 rfl) ?_
  refine lv_iconst (v := 0) hx hb dX5_whyNot_1 (by decide) ?_
  refine g_put (ci := 5) (C := RX5) (T := TX5) (M := 12) (ty := .int) hx hb hts hinX5 tyX5 tyX5_ok nmX5 hown hK hG hS i162 mW_o rfl 0 (by decide) hf25 rfl rfl rfl rfl rfl (Nat.le_of_ble_eq_true rfl) dX5_whyNot_2 rfl (fun H locs hG hS => ?_)
  have hG := hG.to mW_uo
  refine lv_iload_n hx hb dX5_whyNot_5 rfl (lv_at hl 1 rfl) ?_
  refine g_cSi (As := [.int (nI k)]) (rest := []) hx hb hml hown hts hK hA hG hS (k_X5_isSilo l D cy N L (mW cy L F 0 ms ma mv mn mb ml mp mw mr mq mh) (nI k) ) (g_cwS 1 hts gX5_whyNot_X5_isSilo rfl rfl rfl (by decide +kernel) ⟨Nat.le_of_ble_eq_true rfl, Nat.le_of_ble_eq_true rfl⟩) rfl rfl hl.1 (Nat.le_of_ble_eq_true rfl) dX5_whyNot_6 ⟨Nat.zero_le _, Nat.zero_le _⟩ (fun H locs hG hS => ?_)
  refine lv_toI (y := 1) (g_in_silo hk) ?_
  refine lv_if_eq (tgt := 28) hx hb dX5_whyNot_9 (by decide) (fun c_9 => ?_) (fun c_9 => ?_)
  · skip
    exact absurd c_9 (by decide)
  · skip
    refine lv_iload_n hx hb dX5_whyNot_12 rfl (lv_at hl 2 rfl) ?_
    refine g_cSi (As := [.int (nI j)]) (rest := []) hx hb hml hown hts hK hA hG hS (k_X5_isShip l D cy N L (mW cy L F 0 ms ma mv mn mb ml mp mw mr mq mh) (nI j) ) (g_cwS 1 hts gX5_whyNot_X5_isShip rfl rfl rfl (by decide +kernel) ⟨Nat.le_of_ble_eq_true rfl, Nat.le_of_ble_eq_true rfl⟩) rfl rfl hl.1 (Nat.le_of_ble_eq_true rfl) dX5_whyNot_13 ⟨Nat.zero_le _, Nat.zero_le _⟩ (fun H locs hG hS => ?_)
    refine lv_toI (y := 1) (g_in_ship hj) ?_
    refine lv_if_eq (tgt := 28) hx hb dX5_whyNot_16 (by decide) (fun c_16 => ?_) (fun c_16 => ?_)
    · skip
      exact absurd c_16 (by decide)
    · skip
      refine lv_aload_n hx hb dX5_whyNot_19 rfl (lv_at hl 0 rfl) ?_
      refine lv_iload_n hx hb dX5_whyNot_20 rfl (lv_at hl 1 rfl) ?_
      refine lv_iload_n hx hb dX5_whyNot_21 rfl (lv_at hl 2 rfl) ?_
      refine g_cVi (As := [.int (nI k), .int (nI j)]) (rest := []) hx hb hml hown hts hK hA hG hS (k_X5_reason l D cy N L F hN 0 ms ma mv mn mb ml mp mw mr mq mh k j (by omega) (by omega)) (cwV 2 hts gX5_whyNot_X5_reason rfl rfl rfl (by decide +kernel) ⟨Nat.le_of_ble_eq_true rfl, Nat.le_of_ble_eq_true rfl⟩) i162 mW_o (ci := 5) rfl rfl rfl rfl hl.1 (Nat.le_of_ble_eq_true rfl) dX5_whyNot_22 ⟨Nat.zero_le _, Nat.zero_le _⟩ (fun H locs hG hS => ?_)
      refine lv_goto (tgt := 33) hx hb dX5_whyNot_25 (by decide) ?_
      exact g_iret hx hb hr hlocks hK hG hS rfl dX5_whyNot_33 ⟨rfl, rfl⟩
set_option maxHeartbeats 4000000 in
set_option maxRecDepth 100000 in
theorem k_X5_ifFlowed_ok (l : Launch) (D : va_G) (cy : Nat → ClassId) (N : Nat) (L : Nat → Nat) (F : Nat → va_E) (hN : 168 ≤ N) (mt : Int32) (ms ma mv : Nat → Int32) (mn : Int32) (mb : Nat → Int32) (ml mp mw : Int32) (mr : Nat → Int32) (mq : Int32) (mh : Int64) (k j q : Nat) (u : Int32) (hw : wfM ms) (hk : k < 4) (hj : j < 6) (h1 : 1 ≤ q) (h2 : q ≤ 24) (h : g_in u 0 4 = 1) : GM l D cy N L yX5_ifFlowed wsX5_ifFlowed ({ frames := 7, cells := 0, slots := 0, locals := 164 }) [.ref (L 162), .int (nI k), .int (nI j), .int (nI q), .int u] (mW cy L F mt ms ma mv mn mb ml mp mw mr mq mh) (some (.int (g_hoursR (upd ms (10 + 24 * k + 0) u) k j q))) (mW cy L F 0 ms (cpN ma ms (0) (0) 118) mv mn mb ml mp mw mr mq mh) := by
  refine GM.ofW (cc := cX5_ifFlowed) (maxL := 5) (ret := (some .int)) (by decide) rfl (Nat.le_of_ble_eq_true rfl) ?_
  intro p e s m below meth c ls hx hb hr hts hown hlocks hml hK hA hG hS hl
  have hl : lv_has ls 5 [(0, .ref (L 162)), (1, .int (nI k)), (2, .int (nI j)), (3, .int (nI q)), (4, .int u)] := hl
  have i162 : 162 < N := by omega
  have i163 : 163 < N := by omega
  have i164 : 164 < N := by omega
  have i165 : 165 < N := by omega
  have i166 : 166 < N := by omega
  have i167 : 167 < N := by omega
  have hf25 := hts (.fieldLink RX5 25 "SiloPadsModel" "thrown" "I") (by decide +kernel)
  have hinX5 : ∀ w ∈ u_ws RX5 TX5 12, w ∈ wsX5_ifFlowed := by decide +kernel
  refine lv_aload_n hx hb dX5_ifFlowed_0 rfl (lv_at hl 0 rfl) ?_
  refine lv_iconst (v := 0) hx hb dX5_ifFlowed_1 (by decide) ?_
  refine g_put (ci := 5) (C := RX5) (T := TX5) (M := 12) (ty := .int) hx hb hts hinX5 tyX5 tyX5_ok nmX5 hown hK hG hS i162 mW_o rfl 0 (by decide) hf25 rfl rfl rfl rfl rfl (Nat.le_of_ble_eq_true rfl) dX5_ifFlowed_2 rfl (fun H locs hG hS => ?_)
  have hG := hG.to mW_uo
  refine lv_iload_n hx hb dX5_ifFlowed_5 rfl (lv_at hl 1 rfl) ?_
  refine g_cSi (As := [.int (nI k)]) (rest := []) hx hb hml hown hts hK hA hG hS (k_X5_isSilo l D cy N L (mW cy L F 0 ms ma mv mn mb ml mp mw mr mq mh) (nI k) ) (g_cwS 1 hts gX5_ifFlowed_X5_isSilo rfl rfl rfl (by decide +kernel) ⟨Nat.le_of_ble_eq_true rfl, Nat.le_of_ble_eq_true rfl⟩) rfl rfl hl.1 (Nat.le_of_ble_eq_true rfl) dX5_ifFlowed_6 ⟨Nat.zero_le _, Nat.zero_le _⟩ (fun H locs hG hS => ?_)
  refine lv_toI (y := 1) (g_in_silo hk) ?_
  refine lv_if_eq (tgt := 19) hx hb dX5_ifFlowed_9 (by decide) (fun c_9 => ?_) (fun c_9 => ?_)
  · skip
    exact absurd c_9 (by decide)
  · skip
    refine lv_iload_n hx hb dX5_ifFlowed_12 rfl (lv_at hl 2 rfl) ?_
    refine g_cSi (As := [.int (nI j)]) (rest := []) hx hb hml hown hts hK hA hG hS (k_X5_isShip l D cy N L (mW cy L F 0 ms ma mv mn mb ml mp mw mr mq mh) (nI j) ) (g_cwS 1 hts gX5_ifFlowed_X5_isShip rfl rfl rfl (by decide +kernel) ⟨Nat.le_of_ble_eq_true rfl, Nat.le_of_ble_eq_true rfl⟩) rfl rfl hl.1 (Nat.le_of_ble_eq_true rfl) dX5_ifFlowed_13 ⟨Nat.zero_le _, Nat.zero_le _⟩ (fun H locs hG hS => ?_)
    refine lv_toI (y := 1) (g_in_ship hj) ?_
    refine lv_if_ne (tgt := 25) hx hb dX5_ifFlowed_16 (by decide) (fun c_16 => ?_) (fun c_16 => ?_)
    · skip
      refine lv_iload_n hx hb dX5_ifFlowed_25 rfl (lv_at hl 3 rfl) ?_
      refine lv_iconst (v := 1) hx hb dX5_ifFlowed_26 (by decide) ?_
      refine lv_bipush (v := 24) hx hb dX5_ifFlowed_27 (by decide) ?_
      refine g_cSi (As := [.int (nI q), .int 1, .int 24]) (rest := []) hx hb hml hown hts hK hA hG hS (k_X5_in l D cy N L (mW cy L F 0 ms ma mv mn mb ml mp mw mr mq mh) (nI q) 1 24 ) (g_cwS 3 hts gX5_ifFlowed_X5_in rfl rfl rfl (by decide +kernel) ⟨Nat.le_of_ble_eq_true rfl, Nat.le_of_ble_eq_true rfl⟩) rfl rfl hl.1 (Nat.le_of_ble_eq_true rfl) dX5_ifFlowed_29 ⟨Nat.zero_le _, Nat.zero_le _⟩ (fun H locs hG hS => ?_)
      refine lv_toI (y := 1) (g_in_n (a := 1) (b := 24) h1 h2 (by omega)) ?_
      refine lv_if_eq (tgt := 57) hx hb dX5_ifFlowed_32 (by decide) (fun c_32 => ?_) (fun c_32 => ?_)
      · skip
        exact absurd c_32 (by decide)
      · skip
        refine lv_iload hx hb dX5_ifFlowed_35 (lv_at hl 4 rfl) ?_
        refine lv_iconst (v := 0) hx hb dX5_ifFlowed_37 (by decide) ?_
        refine lv_iconst (v := 4) hx hb dX5_ifFlowed_38 (by decide) ?_
        refine g_cSi (As := [.int u, .int 0, .int 4]) (rest := []) hx hb hml hown hts hK hA hG hS (k_X5_in l D cy N L (mW cy L F 0 ms ma mv mn mb ml mp mw mr mq mh) u 0 4 ) (g_cwS 3 hts gX5_ifFlowed_X5_in rfl rfl rfl (by decide +kernel) ⟨Nat.le_of_ble_eq_true rfl, Nat.le_of_ble_eq_true rfl⟩) rfl rfl hl.1 (Nat.le_of_ble_eq_true rfl) dX5_ifFlowed_39 ⟨Nat.zero_le _, Nat.zero_le _⟩ (fun H locs hG hS => ?_)
        refine lv_toI (y := 1) (h) ?_
        refine lv_if_eq (tgt := 57) hx hb dX5_ifFlowed_42 (by decide) (fun c_42 => ?_) (fun c_42 => ?_)
        · skip
          exact absurd c_42 (by decide)
        · skip
          refine lv_aload_n hx hb dX5_ifFlowed_45 rfl (lv_at hl 0 rfl) ?_
          refine lv_iload_n hx hb dX5_ifFlowed_46 rfl (lv_at hl 1 rfl) ?_
          refine lv_iload_n hx hb dX5_ifFlowed_47 rfl (lv_at hl 2 rfl) ?_
          refine lv_iload_n hx hb dX5_ifFlowed_48 rfl (lv_at hl 3 rfl) ?_
          refine lv_iload hx hb dX5_ifFlowed_49 (lv_at hl 4 rfl) ?_
          refine g_cVi (As := [.int (nI k), .int (nI j), .int (nI q), .int u]) (rest := []) hx hb hml hown hts hK hA hG hS (k_X5_wouldFlow l D cy N L F hN 0 ms ma mv mn mb ml mp mw mr mq mh k j q u (by omega) (by omega) (by omega) (hw)) (cwV 4 hts gX5_ifFlowed_X5_wouldFlow rfl rfl rfl (by decide +kernel) ⟨Nat.le_of_ble_eq_true rfl, Nat.le_of_ble_eq_true rfl⟩) i162 mW_o (ci := 5) rfl rfl rfl rfl hl.1 (Nat.le_of_ble_eq_true rfl) dX5_ifFlowed_51 ⟨Nat.zero_le _, Nat.zero_le _⟩ (fun H locs hG hS => ?_)
          refine lv_goto (tgt := 62) hx hb dX5_ifFlowed_54 (by decide) ?_
          exact g_iret hx hb hr hlocks hK hG hS rfl dX5_ifFlowed_62 ⟨rfl, rfl⟩
    · skip
      exact absurd c_16 (by decide)
set_option maxHeartbeats 4000000 in
set_option maxRecDepth 100000 in
theorem k_X5_urgent (l : Launch) (D : va_G) (cy : Nat → ClassId) (N : Nat) (L : Nat → Nat) (F : Nat → va_E) (hN : 168 ≤ N) (mt : Int32) (ms ma mv : Nat → Int32) (mn : Int32) (mb : Nat → Int32) (ml mp mw : Int32) (mr : Nat → Int32) (mq : Int32) (mh : Int64)  (hw : wfM ms) : GM l D cy N L yX5_urgent wsX5_urgent ({ frames := 5, cells := 0, slots := 0, locals := 114 }) [.ref (L 162)] (mW cy L F mt ms ma mv mn mb ml mp mw mr mq mh) (some (.int (g_bestI (g_best ms 4)))) (mW cy L F 0 ms ma mv mn mb ml mp mw mr mq mh) := by
  refine GM.ofW (cc := cX5_urgent) (maxL := 1) (ret := (some .int)) (by decide) rfl (Nat.le_of_ble_eq_true rfl) ?_
  intro p e s m below meth c ls hx hb hr hts hown hlocks hml hK hA hG hS hl
  have hl : lv_has ls 1 [(0, .ref (L 162))] := hl
  have i162 : 162 < N := by omega
  have i163 : 163 < N := by omega
  have i164 : 164 < N := by omega
  have i165 : 165 < N := by omega
  have i166 : 166 < N := by omega
  have i167 : 167 < N := by omega
  have hf25 := hts (.fieldLink RX5 25 "SiloPadsModel" "thrown" "I") (by decide +kernel)
  have hinX5 : ∀ w ∈ u_ws RX5 TX5 12, w ∈ wsX5_urgent := by decide +kernel
  refine lv_aload_n hx hb dX5_urgent_0 rfl (lv_at hl 0 rfl) ?_
  refine lv_iconst (v := 0) hx hb dX5_urgent_1 (by decide) ?_
  refine g_put (ci := 5) (C := RX5) (T := TX5) (M := 12) (ty := .int) hx hb hts hinX5 tyX5 tyX5_ok nmX5 hown hK hG hS i162 mW_o rfl 0 (by decide) hf25 rfl rfl rfl rfl rfl (Nat.le_of_ble_eq_true rfl) dX5_urgent_2 rfl (fun H locs hG hS => ?_)
  have hG := hG.to mW_uo
  refine lv_aload_n hx hb dX5_urgent_5 rfl (lv_at hl 0 rfl) ?_
  refine g_cVi (As := []) (rest := []) hx hb hml hown hts hK hA hG hS (k_X5_mostUrgent l D cy N L F hN 0 ms ma mv mn mb ml mp mw mr mq mh  (hw)) (cwV 0 hts gX5_urgent_X5_mostUrgent rfl rfl rfl (by decide +kernel) ⟨Nat.le_of_ble_eq_true rfl, Nat.le_of_ble_eq_true rfl⟩) i162 mW_o (ci := 5) rfl rfl rfl rfl hl.1 (Nat.le_of_ble_eq_true rfl) dX5_urgent_6 ⟨Nat.zero_le _, Nat.zero_le _⟩ (fun H locs hG hS => ?_)
  exact g_iret hx hb hr hlocks hK hG hS rfl dX5_urgent_9 ⟨rfl, rfl⟩
set_option maxHeartbeats 4000000 in
set_option maxRecDepth 100000 in
theorem k_X5_nextArch (l : Launch) (D : va_G) (cy : Nat → ClassId) (N : Nat) (L : Nat → Nat) (F : Nat → va_E) (hN : 168 ≤ N) (mt : Int32) (ms ma mv : Nat → Int32) (mn : Int32) (mb : Nat → Int32) (ml mp mw : Int32) (mr : Nat → Int32) (mq : Int32) (mh : Int64)  (hw : wfM ms) : GM l D cy N L yX5_nextArch wsX5_nextArch ({ frames := 6, cells := 0, slots := 0, locals := 133 }) [.ref (L 162)] (mW cy L F mt ms ma mv mn mb ml mp mw mr mq mh) (some (.int (g_ah ms (g_stop ms 60 0)))) (mW cy L F 0 ms (cpN ma ms (0) (0) 118) mv mn mb ml mp mw mr mq mh) := by
  refine GM.ofW (cc := cX5_nextArch) (maxL := 1) (ret := (some .int)) (by decide) rfl (Nat.le_of_ble_eq_true rfl) ?_
  intro p e s m below meth c ls hx hb hr hts hown hlocks hml hK hA hG hS hl
  have hl : lv_has ls 1 [(0, .ref (L 162))] := hl
  have i162 : 162 < N := by omega
  have i163 : 163 < N := by omega
  have i164 : 164 < N := by omega
  have i165 : 165 < N := by omega
  have i166 : 166 < N := by omega
  have i167 : 167 < N := by omega
  have hf25 := hts (.fieldLink RX5 25 "SiloPadsModel" "thrown" "I") (by decide +kernel)
  have hinX5 : ∀ w ∈ u_ws RX5 TX5 12, w ∈ wsX5_nextArch := by decide +kernel
  refine lv_aload_n hx hb dX5_nextArch_0 rfl (lv_at hl 0 rfl) ?_
  refine lv_iconst (v := 0) hx hb dX5_nextArch_1 (by decide) ?_
  refine g_put (ci := 5) (C := RX5) (T := TX5) (M := 12) (ty := .int) hx hb hts hinX5 tyX5 tyX5_ok nmX5 hown hK hG hS i162 mW_o rfl 0 (by decide) hf25 rfl rfl rfl rfl rfl (Nat.le_of_ble_eq_true rfl) dX5_nextArch_2 rfl (fun H locs hG hS => ?_)
  have hG := hG.to mW_uo
  refine lv_aload_n hx hb dX5_nextArch_5 rfl (lv_at hl 0 rfl) ?_
  refine g_cVi (As := []) (rest := []) hx hb hml hown hts hK hA hG hS (k_X5_archAhead l D cy N L F hN 0 ms ma mv mn mb ml mp mw mr mq mh  (hw)) (cwV 0 hts gX5_nextArch_X5_archAhead rfl rfl rfl (by decide +kernel) ⟨Nat.le_of_ble_eq_true rfl, Nat.le_of_ble_eq_true rfl⟩) i162 mW_o (ci := 5) rfl rfl rfl rfl hl.1 (Nat.le_of_ble_eq_true rfl) dX5_nextArch_6 ⟨Nat.zero_le _, Nat.zero_le _⟩ (fun H locs hG hS => ?_)
  exact g_iret hx hb hr hlocks hK hG hS rfl dX5_nextArch_9 ⟨rfl, rfl⟩
set_option maxHeartbeats 4000000 in
set_option maxRecDepth 100000 in
theorem k_X5_softness (l : Launch) (D : va_G) (cy : Nat → ClassId) (N : Nat) (L : Nat → Nat) (F : Nat → va_E) (hN : 168 ≤ N) (mt : Int32) (ms ma mv : Nat → Int32) (mn : Int32) (mb : Nat → Int32) (ml mp mw : Int32) (mr : Nat → Int32) (mq : Int32) (mh : Int64)  (hw : wfM ms) (hf : ¬ g_inSilos ms 4 = 0 → vf_n64 (FP.ddiv (FP.i2d (g_softS ms 4)) (FP.i2d (g_inSilos ms 4)))) : GM l D cy N L yX5_softness wsX5_softness ({ frames := 5, cells := 0, slots := 0, locals := 113 }) [.ref (L 162)] (mW cy L F mt ms ma mv mn mb ml mp mw mr mq mh) (some (.double (g_softD ms))) (mW cy L F 0 ms ma mv mn mb ml mp mw mr mq mh) := by
  refine GM.ofW (cc := cX5_softness) (maxL := 1) (ret := (some .double)) (by decide) rfl (Nat.le_of_ble_eq_true rfl) ?_
  intro p e s m below meth c ls hx hb hr hts hown hlocks hml hK hA hG hS hl
  have hl : lv_has ls 1 [(0, .ref (L 162))] := hl
  have i162 : 162 < N := by omega
  have i163 : 163 < N := by omega
  have i164 : 164 < N := by omega
  have i165 : 165 < N := by omega
  have i166 : 166 < N := by omega
  have i167 : 167 < N := by omega
  have hf25 := hts (.fieldLink RX5 25 "SiloPadsModel" "thrown" "I") (by decide +kernel)
  have hinX5 : ∀ w ∈ u_ws RX5 TX5 12, w ∈ wsX5_softness := by decide +kernel
  refine lv_aload_n hx hb dX5_softness_0 rfl (lv_at hl 0 rfl) ?_
  refine lv_iconst (v := 0) hx hb dX5_softness_1 (by decide) ?_
  refine g_put (ci := 5) (C := RX5) (T := TX5) (M := 12) (ty := .int) hx hb hts hinX5 tyX5 tyX5_ok nmX5 hown hK hG hS i162 mW_o rfl 0 (by decide) hf25 rfl rfl rfl rfl rfl (Nat.le_of_ble_eq_true rfl) dX5_softness_2 rfl (fun H locs hG hS => ?_)
  have hG := hG.to mW_uo
  refine lv_aload_n hx hb dX5_softness_5 rfl (lv_at hl 0 rfl) ?_
  refine g_cVd (As := []) (rest := []) hx hb hml hown hts hK hA hG hS (k_X5_soft l D cy N L F hN 0 ms ma mv mn mb ml mp mw mr mq mh  (hw) (hf)) (cwV 0 hts gX5_softness_X5_soft rfl rfl rfl (by decide +kernel) ⟨Nat.le_of_ble_eq_true rfl, Nat.le_of_ble_eq_true rfl⟩) i162 mW_o (ci := 5) rfl rfl rfl rfl hl.1 (Nat.le_of_ble_eq_true rfl) dX5_softness_6 ⟨Nat.zero_le _, Nat.zero_le _⟩ (fun H locs hG hS => ?_)
  exact g_dret hx hb hr hlocks hK hG hS dX5_softness_9 ⟨rfl, rfl⟩
set_option maxHeartbeats 4000000 in
set_option maxRecDepth 100000 in
theorem k_X5_shakesNeeded_ok (l : Launch) (D : va_G) (cy : Nat → ClassId) (N : Nat) (L : Nat → Nat) (F : Nat → va_E) (hN : 168 ≤ N) (mt : Int32) (ms ma mv : Nat → Int32) (mn : Int32) (mb : Nat → Int32) (ml mp mw : Int32) (mr : Nat → Int32) (mq : Int32) (mh : Int64) (k : Nat) (hw : wfM ms) (hk : k < 4) (hn1 : 1 ≤ Nn ms k ∨ ms (10 + 24 * k + 1) = 2 ∨ ms (10 + 24 * k + 1) = 0) : GM l D cy N L yX5_shakesNeeded wsX5_shakesNeeded ({ frames := 5, cells := 0, slots := 0, locals := 110 }) [.ref (L 162), .int (nI k)] (mW cy L F mt ms ma mv mn mb ml mp mw mr mq mh) (some (.int (g_need ms k (Nn ms k)))) (mW cy L F 0 ms ma mv mn mb ml mp mw mr mq mh) := by
  refine GM.ofW (cc := cX5_shakesNeeded) (maxL := 2) (ret := (some .int)) (by decide) rfl (Nat.le_of_ble_eq_true rfl) ?_
  intro p e s m below meth c ls hx hb hr hts hown hlocks hml hK hA hG hS hl
  have hl : lv_has ls 2 [(0, .ref (L 162)), (1, .int (nI k))] := hl
  have i162 : 162 < N := by omega
  have i163 : 163 < N := by omega
  have i164 : 164 < N := by omega
  have i165 : 165 < N := by omega
  have i166 : 166 < N := by omega
  have i167 : 167 < N := by omega
  have hf25 := hts (.fieldLink RX5 25 "SiloPadsModel" "thrown" "I") (by decide +kernel)
  have hinX5 : ∀ w ∈ u_ws RX5 TX5 12, w ∈ wsX5_shakesNeeded := by decide +kernel
  refine lv_aload_n hx hb dX5_shakesNeeded_0 rfl (lv_at hl 0 rfl) ?_
  refine lv_iconst (v := 0) hx hb dX5_shakesNeeded_1 (by decide) ?_
  refine g_put (ci := 5) (C := RX5) (T := TX5) (M := 12) (ty := .int) hx hb hts hinX5 tyX5 tyX5_ok nmX5 hown hK hG hS i162 mW_o rfl 0 (by decide) hf25 rfl rfl rfl rfl rfl (Nat.le_of_ble_eq_true rfl) dX5_shakesNeeded_2 rfl (fun H locs hG hS => ?_)
  have hG := hG.to mW_uo
  refine lv_iload_n hx hb dX5_shakesNeeded_5 rfl (lv_at hl 1 rfl) ?_
  refine g_cSi (As := [.int (nI k)]) (rest := []) hx hb hml hown hts hK hA hG hS (k_X5_isSilo l D cy N L (mW cy L F 0 ms ma mv mn mb ml mp mw mr mq mh) (nI k) ) (g_cwS 1 hts gX5_shakesNeeded_X5_isSilo rfl rfl rfl (by decide +kernel) ⟨Nat.le_of_ble_eq_true rfl, Nat.le_of_ble_eq_true rfl⟩) rfl rfl hl.1 (Nat.le_of_ble_eq_true rfl) dX5_shakesNeeded_6 ⟨Nat.zero_le _, Nat.zero_le _⟩ (fun H locs hG hS => ?_)
  refine lv_toI (y := 1) (g_in_silo hk) ?_
  refine lv_if_eq (tgt := 20) hx hb dX5_shakesNeeded_9 (by decide) (fun c_9 => ?_) (fun c_9 => ?_)
  · skip
    exact absurd c_9 (by decide)
  · skip
    refine lv_aload_n hx hb dX5_shakesNeeded_12 rfl (lv_at hl 0 rfl) ?_
    refine lv_iload_n hx hb dX5_shakesNeeded_13 rfl (lv_at hl 1 rfl) ?_
    refine g_cVi (As := [.int (nI k)]) (rest := []) hx hb hml hown hts hK hA hG hS (k_X5_needed l D cy N L F hN 0 ms ma mv mn mb ml mp mw mr mq mh k (Nn ms k) (by omega) ((hw.1 k hk).1) ((hw.1 k hk).2) (hn1)) (cwV 1 hts gX5_shakesNeeded_X5_needed rfl rfl rfl (by decide +kernel) ⟨Nat.le_of_ble_eq_true rfl, Nat.le_of_ble_eq_true rfl⟩) i162 mW_o (ci := 5) rfl rfl rfl rfl hl.1 (Nat.le_of_ble_eq_true rfl) dX5_shakesNeeded_14 ⟨Nat.zero_le _, Nat.zero_le _⟩ (fun H locs hG hS => ?_)
    refine lv_goto (tgt := 25) hx hb dX5_shakesNeeded_17 (by decide) ?_
    exact g_iret hx hb hr hlocks hK hG hS rfl dX5_shakesNeeded_25 ⟨rfl, rfl⟩
