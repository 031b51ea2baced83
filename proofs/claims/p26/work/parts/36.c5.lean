set_option maxHeartbeats 4000000 in
set_option maxRecDepth 100000 in
theorem k_X4_unload_ok (l : Launch) (D : va_G) (cy : Nat → ClassId) (N : Nat) (L : Nat → Nat) (F : Nat → va_E) (hN : 162 ≤ N) (C : CT) (k j : Nat) (t : Int32) (hy : wfY (cY C)) (hq : cQ C ≤ 6) (hm : ∀ i, i < 6 → cM C i < 6) (hk : k < 4) (hj : j < 6) (ht1 : ¬ t < 1) (ht2 : t ≤ 500) : GM l D cy N L yX4_unload wsX4_unload ({ frames := 7, cells := 0, slots := 0, locals := 150 }) [.ref (L 0), .int (nI k), .int (nI j), .int t] (cW cy L F C) (some (.int (c_brR (yS (cY C) k) (yH (cY C) j) t))) (cW cy L F (c_unl (c_save C) k j t)) := by
  refine GM.ofW (cc := cX4_unload) (maxL := 4) (ret := (some .int)) (by decide) rfl (Nat.le_of_ble_eq_true rfl) ?_
  intro p e s m below meth c ls hx hb hr hts hown hlocks hml hK hA hG hS hl
  have hl : lv_has ls 4 [(0, .ref (L 0)), (1, .int (nI k)), (2, .int (nI j)), (3, .int t)] := hl
  have hf10 := hts (.fieldLink RX4 10 "SiloPads" "now" "LSiloPads$Yard;") (by decide +kernel)
  have hinX4 : ∀ w ∈ u_ws RX4 TX4 8, w ∈ wsX4_unload := by decide +kernel
  have hf94 := hts (.fieldLink RX4 94 "SiloPads$Yard" "silos" "[LSiloPads$Silo;") (by decide +kernel)
  have hinX3 : ∀ w ∈ u_ws RX3 TX3 9, w ∈ wsX4_unload := by decide +kernel
  have hf71 := hts (.fieldLink RX4 71 "SiloPads$Yard" "ships" "[LSiloPads$Ship;") (by decide +kernel)
  refine lv_iload_n hx hb dX4_unload_0 rfl (lv_at hl 1 rfl) ?_
  refine g_cSi (As := [.int (nI k)]) (rest := []) hx hb hml hown hts hK hA hG hS (k_X4_isNoSilo l D cy N L _ (nI k) ) (g_cwS 1 hts gX4_unload_X4_isNoSilo rfl rfl rfl (by decide +kernel) ⟨Nat.le_of_ble_eq_true rfl, Nat.le_of_ble_eq_true rfl⟩) rfl rfl hl.1 (Nat.le_of_ble_eq_true rfl) dX4_unload_1 ⟨Nat.zero_le _, Nat.zero_le _⟩ (fun H locs hG hS => ?_)
  refine lv_toI (y := 0) (c_noSilo_k hk) ?_
  refine lv_if_ne (tgt := 14) hx hb dX4_unload_4 (by decide) (fun c_4 => ?_) (fun c_4 => ?_)
  · skip
    exact absurd c_4 (by decide)
  · skip
    refine lv_iload_n hx hb dX4_unload_7 rfl (lv_at hl 2 rfl) ?_
    refine g_cSi (As := [.int (nI j)]) (rest := []) hx hb hml hown hts hK hA hG hS (k_X4_isNoShip l D cy N L _ (nI j) ) (g_cwS 1 hts gX4_unload_X4_isNoShip rfl rfl rfl (by decide +kernel) ⟨Nat.le_of_ble_eq_true rfl, Nat.le_of_ble_eq_true rfl⟩) rfl rfl hl.1 (Nat.le_of_ble_eq_true rfl) dX4_unload_8 ⟨Nat.zero_le _, Nat.zero_le _⟩ (fun H locs hG hS => ?_)
    refine lv_toI (y := 0) (c_noShip_j hj) ?_
    refine lv_if_eq (tgt := 24) hx hb dX4_unload_11 (by decide) (fun c_11 => ?_) (fun c_11 => ?_)
    · skip
      refine lv_iload_n hx hb dX4_unload_24 rfl (lv_at hl 3 rfl) ?_
      refine lv_iconst (v := 1) hx hb dX4_unload_25 (by decide) ?_
      refine lv_icmp_lt (tgt := 36) hx hb dX4_unload_26 (by decide) (fun c_26 => ?_) (fun c_26 => ?_)
      · skip
        exact absurd c_26 ht1
      · skip
        refine lv_iload_n hx hb dX4_unload_29 rfl (lv_at hl 3 rfl) ?_
        refine lv_sipush (v := 500) hx hb dX4_unload_30 (by decide) ?_
        refine lv_icmp_le (tgt := 46) hx hb dX4_unload_33 (by decide) (fun c_33 => ?_) (fun c_33 => ?_)
        · skip
          refine lv_aload_n hx hb dX4_unload_46 rfl (lv_at hl 0 rfl) ?_
          refine g_cVv (As := []) (rest := []) hx hb hml hown hts hK hA hG hS (k_X4_saveState l D cy N L _ (by omega) C  (hq) (hm)) (cwV 0 hts gX4_unload_X4_saveState rfl rfl rfl (by decide +kernel) ⟨Nat.le_of_ble_eq_true rfl, Nat.le_of_ble_eq_true rfl⟩) (by omega) cW_o (ci := 4) rfl rfl rfl rfl hl.1 (Nat.le_of_ble_eq_true rfl) dX4_unload_47 ⟨Nat.zero_le _, Nat.zero_le _⟩ (fun H locs hG hS => ?_)
          refine lv_aload_n hx hb dX4_unload_50 rfl (lv_at hl 0 rfl) ?_
          refine lv_aload_n hx hb dX4_unload_51 rfl (lv_at hl 0 rfl) ?_
          refine g_get (ci := 4) (C := RX4) (T := TX4) (M := 8) hx hb hts hinX4 hown hK hG (by omega) cW_o rfl 0 (by decide) hf10 rfl rfl dX4_unload_52 ?_
          refine g_get (ci := 3) (C := RX3) (T := TX3) (M := 9) hx hb hts hinX3 hown hK hG (by omega) cW_yo rfl 0 (by decide) hf94 rfl rfl dX4_unload_55 ?_
          refine lv_iload_n hx hb dX4_unload_58 rfl (lv_at hl 1 rfl) ?_
          refine g_aald (j := 1 + 4 + 3 * k) hx hb hK hG (by omega) cW_ys (t0 := 1) rfl (k := k) rfl (by omega) (by decide) rfl dX4_unload_59 ?_
          refine lv_aload_n hx hb dX4_unload_60 rfl (lv_at hl 0 rfl) ?_
          refine g_get (ci := 4) (C := RX4) (T := TX4) (M := 8) hx hb hts hinX4 hown hK hG (by omega) cW_o rfl 0 (by decide) hf10 rfl rfl dX4_unload_61 ?_
          refine g_get (ci := 3) (C := RX3) (T := TX3) (M := 9) hx hb hts hinX3 hown hK hG (by omega) cW_yo rfl 1 (by decide) hf71 rfl rfl dX4_unload_64 ?_
          refine lv_iload_n hx hb dX4_unload_67 rfl (lv_at hl 2 rfl) ?_
          refine g_aald (j := 1 + 16 + j) hx hb hK hG (by omega) cW_yh (t0 := 2) rfl (k := j) rfl (by omega) (by decide) rfl dX4_unload_68 ?_
          refine lv_iload_n hx hb dX4_unload_69 rfl (lv_at hl 3 rfl) ?_
          have hG : GW D N L (gA N L s.heap.size) (hW (sW cy L (cW cy L F (c_save C)) (1 + 4 + 3 * k) (yS (cY (c_save C)) k)) (1 + 16 + j) (yH (cY (c_save C)) j)) _ := hG.to (by rw [cW_S0 (k := k) (by omega), cW_H0 (j := j) (by omega)])
          refine g_cVi (As := [.ref (L (1 + 4 + 3 * k)), .ref (L (1 + 16 + j)), .int t]) (rest := []) hx hb hml hown hts hK hA hG hS (k_X4_bringIn l D cy N L _ (1 + 4 + 3 * k) (yS (cY (c_save C)) k) (1 + 16 + j) (yH (cY (c_save C)) j)  (yZ (cY (c_save C))) (by omega) (by omega) (by omega) (by omega) (by omega) (cE_cW (F := F) (c := c_save C)) t (hy k hk)) (cwV 3 hts gX4_unload_X4_bringIn rfl rfl rfl (by decide +kernel) ⟨Nat.le_of_ble_eq_true rfl, Nat.le_of_ble_eq_true rfl⟩) (by omega) (by rw [hW_n (by omega), sW_n (by omega)]; exact cW_o) (ci := 4) rfl rfl rfl rfl hl.1 (Nat.le_of_ble_eq_true rfl) dX4_unload_70 ⟨Nat.zero_le _, Nat.zero_le _⟩ (fun H locs hG hS => ?_)
          have hG : GW D N L (gA N L s.heap.size) (cW cy L F (ySetH (ySetS (cY (c_save C)) k (s_fill (yS (cY (c_save C)) k) (c_brR (yS (cY (c_save C)) k) (yH (cY (c_save C)) j) t))) j (hT (yH (cY (c_save C)) j) - c_brR (yS (cY (c_save C)) k) (yH (cY (c_save C)) j) t, hH (yH (cY (c_save C)) j)), cV (c_save C), cM (c_save C), cQ (c_save C), cB (c_save C), cL (c_save C), cR (c_save C), cT (c_save C), cU (c_save C))) _ := hG.to (by rw [cW_S (k := k) (by omega), cW_H (j := j) (by omega)] <;> rfl)
          exact g_iret hx hb hr hlocks hK hG hS rfl dX4_unload_73 ⟨(congrArg (fun z9 => some (Value.int z9)) (by rfl)), (by rfl)⟩
        · skip
          exact absurd ht2 c_33
    · skip
      exact absurd c_11 (by decide)
set_option maxHeartbeats 4000000 in
set_option maxRecDepth 100000 in
theorem k_X4_flow_ok (l : Launch) (D : va_G) (cy : Nat → ClassId) (N : Nat) (L : Nat → Nat) (F : Nat → va_E) (hN : 162 ≤ N) (C : CT) (k j q : Nat) (hy : wfY (cY C)) (hq : cQ C ≤ 6) (hm : ∀ i, i < 6 → cM C i < 6) (hk : k < 4) (hj : j < 6) (h1 : 1 ≤ q) (h2 : q ≤ 24) : GM l D cy N L yX4_flow wsX4_flow ({ frames := 7, cells := 0, slots := 0, locals := 150 }) [.ref (L 0), .int (nI k), .int (nI j), .int (nI q)] (cW cy L F C) (some (.int (y_letR (cY C) k j q))) (cW cy L F (c_setY (c_save C) (y_let (cY C) k j q))) := by
  refine GM.ofW (cc := cX4_flow) (maxL := 4) (ret := (some .int)) (by decide) rfl (Nat.le_of_ble_eq_true rfl) ?_
  intro p e s m below meth c ls hx hb hr hts hown hlocks hml hK hA hG hS hl
  have hl : lv_has ls 4 [(0, .ref (L 0)), (1, .int (nI k)), (2, .int (nI j)), (3, .int (nI q))] := hl
  have hf10 := hts (.fieldLink RX4 10 "SiloPads" "now" "LSiloPads$Yard;") (by decide +kernel)
  have hinX4 : ∀ w ∈ u_ws RX4 TX4 8, w ∈ wsX4_flow := by decide +kernel
  have hf94 := hts (.fieldLink RX4 94 "SiloPads$Yard" "silos" "[LSiloPads$Silo;") (by decide +kernel)
  have hinX3 : ∀ w ∈ u_ws RX3 TX3 9, w ∈ wsX4_flow := by decide +kernel
  have hf71 := hts (.fieldLink RX4 71 "SiloPads$Yard" "ships" "[LSiloPads$Ship;") (by decide +kernel)
  refine lv_iload_n hx hb dX4_flow_0 rfl (lv_at hl 1 rfl) ?_
  refine g_cSi (As := [.int (nI k)]) (rest := []) hx hb hml hown hts hK hA hG hS (k_X4_isNoSilo l D cy N L _ (nI k) ) (g_cwS 1 hts gX4_flow_X4_isNoSilo rfl rfl rfl (by decide +kernel) ⟨Nat.le_of_ble_eq_true rfl, Nat.le_of_ble_eq_true rfl⟩) rfl rfl hl.1 (Nat.le_of_ble_eq_true rfl) dX4_flow_1 ⟨Nat.zero_le _, Nat.zero_le _⟩ (fun H locs hG hS => ?_)
  refine lv_toI (y := 0) (c_noSilo_k hk) ?_
  refine lv_if_ne (tgt := 14) hx hb dX4_flow_4 (by decide) (fun c_4 => ?_) (fun c_4 => ?_)
  · skip
    exact absurd c_4 (by decide)
  · skip
    refine lv_iload_n hx hb dX4_flow_7 rfl (lv_at hl 2 rfl) ?_
    refine g_cSi (As := [.int (nI j)]) (rest := []) hx hb hml hown hts hK hA hG hS (k_X4_isNoShip l D cy N L _ (nI j) ) (g_cwS 1 hts gX4_flow_X4_isNoShip rfl rfl rfl (by decide +kernel) ⟨Nat.le_of_ble_eq_true rfl, Nat.le_of_ble_eq_true rfl⟩) rfl rfl hl.1 (Nat.le_of_ble_eq_true rfl) dX4_flow_8 ⟨Nat.zero_le _, Nat.zero_le _⟩ (fun H locs hG hS => ?_)
    refine lv_toI (y := 0) (c_noShip_j hj) ?_
    refine lv_if_eq (tgt := 24) hx hb dX4_flow_11 (by decide) (fun c_11 => ?_) (fun c_11 => ?_)
    · skip
      refine lv_iload_n hx hb dX4_flow_24 rfl (lv_at hl 3 rfl) ?_
      refine lv_iconst (v := 1) hx hb dX4_flow_25 (by decide) ?_
      refine lv_icmp_lt (tgt := 35) hx hb dX4_flow_26 (by decide) (fun c_26 => ?_) (fun c_26 => ?_)
      · skip
        have c_26 : q < 1 := (nI_ltI (a := q) (b := 1) (by omega) (by omega)).mp c_26
        exfalso; omega
      · skip
        have c_26 : ¬ q < 1 := fun h9 => c_26 ((nI_ltI (a := q) (b := 1) (by omega) (by omega)).mpr h9)
        refine lv_iload_n hx hb dX4_flow_29 rfl (lv_at hl 3 rfl) ?_
        refine lv_bipush (v := 24) hx hb dX4_flow_30 (by decide) ?_
        refine lv_icmp_le (tgt := 45) hx hb dX4_flow_32 (by decide) (fun c_32 => ?_) (fun c_32 => ?_)
        · skip
          have c_32 : q ≤ 24 := (nI_leI (a := q) (b := 24) (by omega) (by omega)).mp c_32
          refine lv_aload_n hx hb dX4_flow_45 rfl (lv_at hl 0 rfl) ?_
          refine g_cVv (As := []) (rest := []) hx hb hml hown hts hK hA hG hS (k_X4_saveState l D cy N L _ (by omega) C  (hq) (hm)) (cwV 0 hts gX4_flow_X4_saveState rfl rfl rfl (by decide +kernel) ⟨Nat.le_of_ble_eq_true rfl, Nat.le_of_ble_eq_true rfl⟩) (by omega) cW_o (ci := 4) rfl rfl rfl rfl hl.1 (Nat.le_of_ble_eq_true rfl) dX4_flow_46 ⟨Nat.zero_le _, Nat.zero_le _⟩ (fun H locs hG hS => ?_)
          refine lv_aload_n hx hb dX4_flow_49 rfl (lv_at hl 0 rfl) ?_
          refine lv_aload_n hx hb dX4_flow_50 rfl (lv_at hl 0 rfl) ?_
          refine g_get (ci := 4) (C := RX4) (T := TX4) (M := 8) hx hb hts hinX4 hown hK hG (by omega) cW_o rfl 0 (by decide) hf10 rfl rfl dX4_flow_51 ?_
          refine g_get (ci := 3) (C := RX3) (T := TX3) (M := 9) hx hb hts hinX3 hown hK hG (by omega) cW_yo rfl 0 (by decide) hf94 rfl rfl dX4_flow_54 ?_
          refine lv_iload_n hx hb dX4_flow_57 rfl (lv_at hl 1 rfl) ?_
          refine g_aald (j := 1 + 4 + 3 * k) hx hb hK hG (by omega) cW_ys (t0 := 1) rfl (k := k) rfl (by omega) (by decide) rfl dX4_flow_58 ?_
          refine lv_aload_n hx hb dX4_flow_59 rfl (lv_at hl 0 rfl) ?_
          refine g_get (ci := 4) (C := RX4) (T := TX4) (M := 8) hx hb hts hinX4 hown hK hG (by omega) cW_o rfl 0 (by decide) hf10 rfl rfl dX4_flow_60 ?_
          refine g_get (ci := 3) (C := RX3) (T := TX3) (M := 9) hx hb hts hinX3 hown hK hG (by omega) cW_yo rfl 1 (by decide) hf71 rfl rfl dX4_flow_63 ?_
          refine lv_iload_n hx hb dX4_flow_66 rfl (lv_at hl 2 rfl) ?_
          refine g_aald (j := 1 + 16 + j) hx hb hK hG (by omega) cW_yh (t0 := 2) rfl (k := j) rfl (by omega) (by decide) rfl dX4_flow_67 ?_
          refine lv_iload_n hx hb dX4_flow_68 rfl (lv_at hl 3 rfl) ?_
          refine g_cVi (As := [.ref (L (1 + 4 + 3 * k)), .ref (L (1 + 16 + j)), .int (nI q)]) (rest := []) hx hb hml hown hts hK hA hG hS (k_X4_letOut l D cy N L _ (by omega) (c_save C) k j q (hy) (by omega) (by omega) (by omega)) (cwV 3 hts gX4_flow_X4_letOut rfl rfl rfl (by decide +kernel) ⟨Nat.le_of_ble_eq_true rfl, Nat.le_of_ble_eq_true rfl⟩) (by omega) cW_o (ci := 4) rfl rfl rfl rfl hl.1 (Nat.le_of_ble_eq_true rfl) dX4_flow_69 ⟨Nat.zero_le _, Nat.zero_le _⟩ (fun H locs hG hS => ?_)
          exact g_iret hx hb hr hlocks hK hG hS rfl dX4_flow_72 ⟨(congrArg (fun z9 => some (Value.int z9)) (by rfl)), (by rfl)⟩
        · skip
          have c_32 : ¬ q ≤ 24 := fun h9 => c_32 ((nI_leI (a := q) (b := 24) (by omega) (by omega)).mpr h9)
          exfalso; omega
    · skip
      exact absurd c_11 (by decide)
set_option maxHeartbeats 4000000 in
set_option maxRecDepth 100000 in
theorem k_X4_ship_ok (l : Launch) (D : va_G) (cy : Nat → ClassId) (N : Nat) (L : Nat → Nat) (F : Nat → va_E) (hN : 162 ≤ N) (C : CT) (j : Nat) (u t : Int32) (hy : wfY (cY C)) (hq : cQ C ≤ 6) (hm : ∀ i, i < 6 → cM C i < 6) (hj : j < 6) (hu1 : ¬ u < 0) (hu2 : ¬ 900 < u) (ht1 : ¬ t < 0) (ht2 : t ≤ u) : GM l D cy N L yX4_ship wsX4_ship ({ frames := 7, cells := 0, slots := 0, locals := 150 }) [.ref (L 0), .int (nI j), .int u, .int t] (cW cy L F C) (some (.int (hT (yH (cY C) j)))) (cW cy L F (c_setY (c_save C) (y_ship (cY C) j u t))) := by
  refine GM.ofW (cc := cX4_ship) (maxL := 6) (ret := (some .int)) (by decide) rfl (Nat.le_of_ble_eq_true rfl) ?_
  intro p e s m below meth c ls hx hb hr hts hown hlocks hml hK hA hG hS hl
  have hl : lv_has ls 6 [(0, .ref (L 0)), (1, .int (nI j)), (2, .int u), (3, .int t)] := hl
  have hf10 := hts (.fieldLink RX4 10 "SiloPads" "now" "LSiloPads$Yard;") (by decide +kernel)
  have hinX4 : ∀ w ∈ u_ws RX4 TX4 8, w ∈ wsX4_ship := by decide +kernel
  have hf71 := hts (.fieldLink RX4 71 "SiloPads$Yard" "ships" "[LSiloPads$Ship;") (by decide +kernel)
  have hinX3 : ∀ w ∈ u_ws RX3 TX3 9, w ∈ wsX4_ship := by decide +kernel
  have hf75 := hts (.fieldLink RX4 75 "SiloPads$Ship" "tonnes" "I") (by decide +kernel)
  have hinX0 : ∀ w ∈ u_ws RX0 TX0 2, w ∈ wsX4_ship := by decide +kernel
  have hf78 := hts (.fieldLink RX4 78 "SiloPads$Ship" "hold" "I") (by decide +kernel)
  have hf81 := hts (.fieldLink RX4 81 "SiloPads$Yard" "brought" "I") (by decide +kernel)
  have hf84 := hts (.fieldLink RX4 84 "SiloPads$Yard" "gone" "I") (by decide +kernel)
  refine lv_iload_n hx hb dX4_ship_0 rfl (lv_at hl 1 rfl) ?_
  refine g_cSi (As := [.int (nI j)]) (rest := []) hx hb hml hown hts hK hA hG hS (k_X4_isNoShip l D cy N L _ (nI j) ) (g_cwS 1 hts gX4_ship_X4_isNoShip rfl rfl rfl (by decide +kernel) ⟨Nat.le_of_ble_eq_true rfl, Nat.le_of_ble_eq_true rfl⟩) rfl rfl hl.1 (Nat.le_of_ble_eq_true rfl) dX4_ship_1 ⟨Nat.zero_le _, Nat.zero_le _⟩ (fun H locs hG hS => ?_)
  refine lv_toI (y := 0) (c_noShip_j hj) ?_
  refine lv_if_eq (tgt := 17) hx hb dX4_ship_4 (by decide) (fun c_4 => ?_) (fun c_4 => ?_)
  · skip
    refine lv_iload_n hx hb dX4_ship_17 rfl (lv_at hl 2 rfl) ?_
    refine lv_if_lt (tgt := 37) hx hb dX4_ship_18 (by decide) (fun c_18 => ?_) (fun c_18 => ?_)
    · skip
      exact absurd c_18 hu1
    · skip
      refine lv_iload_n hx hb dX4_ship_21 rfl (lv_at hl 2 rfl) ?_
      refine lv_sipush (v := 900) hx hb dX4_ship_22 (by decide) ?_
      refine lv_icmp_gt (tgt := 37) hx hb dX4_ship_25 (by decide) (fun c_25 => ?_) (fun c_25 => ?_)
      · skip
        exact absurd c_25 hu2
      · skip
        refine lv_iload_n hx hb dX4_ship_28 rfl (lv_at hl 3 rfl) ?_
        refine lv_if_lt (tgt := 37) hx hb dX4_ship_29 (by decide) (fun c_29 => ?_) (fun c_29 => ?_)
        · skip
          exact absurd c_29 ht1
        · skip
          refine lv_iload_n hx hb dX4_ship_32 rfl (lv_at hl 3 rfl) ?_
          refine lv_iload_n hx hb dX4_ship_33 rfl (lv_at hl 2 rfl) ?_
          refine lv_icmp_le (tgt := 47) hx hb dX4_ship_34 (by decide) (fun c_34 => ?_) (fun c_34 => ?_)
          · skip
            refine lv_aload_n hx hb dX4_ship_47 rfl (lv_at hl 0 rfl) ?_
            refine g_cVv (As := []) (rest := []) hx hb hml hown hts hK hA hG hS (k_X4_saveState l D cy N L _ (by omega) C  (hq) (hm)) (cwV 0 hts gX4_ship_X4_saveState rfl rfl rfl (by decide +kernel) ⟨Nat.le_of_ble_eq_true rfl, Nat.le_of_ble_eq_true rfl⟩) (by omega) cW_o (ci := 4) rfl rfl rfl rfl hl.1 (Nat.le_of_ble_eq_true rfl) dX4_ship_48 ⟨Nat.zero_le _, Nat.zero_le _⟩ (fun H locs hG hS => ?_)
            refine lv_aload_n hx hb dX4_ship_51 rfl (lv_at hl 0 rfl) ?_
            refine g_get (ci := 4) (C := RX4) (T := TX4) (M := 8) hx hb hts hinX4 hown hK hG (by omega) cW_o rfl 0 (by decide) hf10 rfl rfl dX4_ship_52 ?_
            refine g_get (ci := 3) (C := RX3) (T := TX3) (M := 9) hx hb hts hinX3 hown hK hG (by omega) cW_yo rfl 1 (by decide) hf71 rfl rfl dX4_ship_55 ?_
            refine lv_iload_n hx hb dX4_ship_58 rfl (lv_at hl 1 rfl) ?_
            refine g_aald (j := 1 + 16 + j) hx hb hK hG (by omega) cW_yh (t0 := 2) rfl (k := j) rfl (by omega) (by decide) rfl dX4_ship_59 ?_
            refine lv_astore (lv' := [(4, .ref (L (1 + 16 + j))), (0, .ref (L 0)), (1, .int (nI j)), (2, .int u), (3, .int t)]) hx hb dX4_ship_60 hl (by decide) rfl (fun ls hl => ?_)
            refine lv_aload hx hb dX4_ship_62 (lv_at hl 0 rfl) ?_
            refine g_get (ci := 0) (C := RX0) (T := TX0) (M := 2) hx hb hts hinX0 hown hK hG (by omega) (cW_sh (j := j) (by omega)) rfl 0 (by decide) hf75 rfl rfl dX4_ship_64 ?_
            refine lv_istore (lv' := [(5, .int (hT (yH (cY (c_save C)) j))), (4, .ref (L (1 + 16 + j))), (0, .ref (L 0)), (1, .int (nI j)), (2, .int u), (3, .int t)]) hx hb dX4_ship_67 hl (by decide) rfl (fun ls hl => ?_)
            refine lv_aload hx hb dX4_ship_69 (lv_at hl 1 rfl) ?_
            refine lv_iload_n hx hb dX4_ship_71 rfl (lv_at hl 5 rfl) ?_
            refine g_put (ci := 0) (C := RX0) (T := TX0) (M := 2) (ty := .int) hx hb hts hinX0 tyX0 tyX0_ok nmX0 hown hK hG hS (by omega) (cW_sh (j := j) (by omega)) rfl 0 (by decide) hf75 rfl rfl rfl rfl rfl (Nat.le_of_ble_eq_true rfl) dX4_ship_72 rfl (fun H locs hG hS => ?_)
            have hG : GW D N L (gA N L s.heap.size) (cW cy L F (ySetH (cY (c_save C)) j (t, hH (yH (cY (c_save C)) j)), cV (c_save C), cM (c_save C), cQ (c_save C), cB (c_save C), cL (c_save C), cR (c_save C), cT (c_save C), cU (c_save C))) _ := hG.to (cW_usho (j := j) (by omega))
            refine lv_aload hx hb dX4_ship_75 (lv_at hl 1 rfl) ?_
            refine lv_iload_n hx hb dX4_ship_77 rfl (lv_at hl 4 rfl) ?_
            refine g_put (ci := 0) (C := RX0) (T := TX0) (M := 2) (ty := .int) hx hb hts hinX0 tyX0 tyX0_ok nmX0 hown hK hG hS (by omega) (cW_sh (j := j) (by omega)) rfl 1 (by decide) hf78 rfl rfl rfl rfl rfl (Nat.le_of_ble_eq_true rfl) dX4_ship_78 rfl (fun H locs hG hS => ?_)
            have hG : GW D N L (gA N L s.heap.size) (cW cy L F (ySetH (ySetH (cY (c_save C)) j (t, hH (yH (cY (c_save C)) j))) j (hT (yH (ySetH (cY (c_save C)) j (t, hH (yH (cY (c_save C)) j))) j), u), cV (c_save C), cM (c_save C), cQ (c_save C), cB (c_save C), cL (c_save C), cR (c_save C), cT (c_save C), cU (c_save C))) _ := hG.to (cW_usho (j := j) (by omega))
            refine lv_aload_n hx hb dX4_ship_81 rfl (lv_at hl 2 rfl) ?_
            refine g_get (ci := 4) (C := RX4) (T := TX4) (M := 8) hx hb hts hinX4 hown hK hG (by omega) cW_o rfl 0 (by decide) hf10 rfl rfl dX4_ship_82 ?_
            refine lv_dup hx hb dX4_ship_85 rfl ?_
            refine g_get (ci := 3) (C := RX3) (T := TX3) (M := 9) hx hb hts hinX3 hown hK hG (by omega) cW_yo rfl 5 (by decide) hf81 rfl rfl dX4_ship_86 ?_
            refine lv_iload_n hx hb dX4_ship_89 rfl (lv_at hl 5 rfl) ?_
            refine lv_iadd hx hb dX4_ship_90 ?_
            refine g_put (ci := 3) (C := RX3) (T := TX3) (M := 9) (ty := .int) hx hb hts hinX3 tyX3 tyX3_ok nmX3 hown hK hG hS (by omega) cW_yo rfl 5 (by decide) hf81 rfl rfl rfl rfl rfl (Nat.le_of_ble_eq_true rfl) dX4_ship_91 rfl (fun H locs hG hS => ?_)
            have hG : GW D N L (gA N L s.heap.size) (cW cy L F ((yS (ySetH (ySetH (cY (c_save C)) j (t, hH (yH (cY (c_save C)) j))) j (hT (yH (ySetH (cY (c_save C)) j (t, hH (yH (cY (c_save C)) j))) j), u)), yH (ySetH (ySetH (cY (c_save C)) j (t, hH (yH (cY (c_save C)) j))) j (hT (yH (ySetH (cY (c_save C)) j (t, hH (yH (cY (c_save C)) j))) j), u)), yZ (ySetH (ySetH (cY (c_save C)) j (t, hH (yH (cY (c_save C)) j))) j (hT (yH (ySetH (cY (c_save C)) j (t, hH (yH (cY (c_save C)) j))) j), u)), upd (yC (ySetH (ySetH (cY (c_save C)) j (t, hH (yH (cY (c_save C)) j))) j (hT (yH (ySetH (cY (c_save C)) j (t, hH (yH (cY (c_save C)) j))) j), u))) 2 ((yC (ySetH (ySetH (cY (c_save C)) j (t, hH (yH (cY (c_save C)) j))) j (hT (yH (ySetH (cY (c_save C)) j (t, hH (yH (cY (c_save C)) j))) j), u)) 2) + t)), cV (c_save C), cM (c_save C), cQ (c_save C), cB (c_save C), cL (c_save C), cR (c_save C), cT (c_save C), cU (c_save C))) _ := hG.to cW_uy2
            refine lv_aload_n hx hb dX4_ship_94 rfl (lv_at hl 2 rfl) ?_
            refine g_get (ci := 4) (C := RX4) (T := TX4) (M := 8) hx hb hts hinX4 hown hK hG (by omega) cW_o rfl 0 (by decide) hf10 rfl rfl dX4_ship_95 ?_
            refine lv_dup hx hb dX4_ship_98 rfl ?_
            refine g_get (ci := 3) (C := RX3) (T := TX3) (M := 9) hx hb hts hinX3 hown hK hG (by omega) cW_yo rfl 6 (by decide) hf84 rfl rfl dX4_ship_99 ?_
            refine lv_iload hx hb dX4_ship_102 (lv_at hl 0 rfl) ?_
            refine lv_iadd hx hb dX4_ship_104 ?_
            refine g_put (ci := 3) (C := RX3) (T := TX3) (M := 9) (ty := .int) hx hb hts hinX3 tyX3 tyX3_ok nmX3 hown hK hG hS (by omega) cW_yo rfl 6 (by decide) hf84 rfl rfl rfl rfl rfl (Nat.le_of_ble_eq_true rfl) dX4_ship_105 rfl (fun H locs hG hS => ?_)
            have hG : GW D N L (gA N L s.heap.size) (cW cy L F ((yS (yS (ySetH (ySetH (cY (c_save C)) j (t, hH (yH (cY (c_save C)) j))) j (hT (yH (ySetH (cY (c_save C)) j (t, hH (yH (cY (c_save C)) j))) j), u)), yH (ySetH (ySetH (cY (c_save C)) j (t, hH (yH (cY (c_save C)) j))) j (hT (yH (ySetH (cY (c_save C)) j (t, hH (yH (cY (c_save C)) j))) j), u)), yZ (ySetH (ySetH (cY (c_save C)) j (t, hH (yH (cY (c_save C)) j))) j (hT (yH (ySetH (cY (c_save C)) j (t, hH (yH (cY (c_save C)) j))) j), u)), upd (yC (ySetH (ySetH (cY (c_save C)) j (t, hH (yH (cY (c_save C)) j))) j (hT (yH (ySetH (cY (c_save C)) j (t, hH (yH (cY (c_save C)) j))) j), u))) 2 ((yC (ySetH (ySetH (cY (c_save C)) j (t, hH (yH (cY (c_save C)) j))) j (hT (yH (ySetH (cY (c_save C)) j (t, hH (yH (cY (c_save C)) j))) j), u)) 2) + t)), yH (yS (ySetH (ySetH (cY (c_save C)) j (t, hH (yH (cY (c_save C)) j))) j (hT (yH (ySetH (cY (c_save C)) j (t, hH (yH (cY (c_save C)) j))) j), u)), yH (ySetH (ySetH (cY (c_save C)) j (t, hH (yH (cY (c_save C)) j))) j (hT (yH (ySetH (cY (c_save C)) j (t, hH (yH (cY (c_save C)) j))) j), u)), yZ (ySetH (ySetH (cY (c_save C)) j (t, hH (yH (cY (c_save C)) j))) j (hT (yH (ySetH (cY (c_save C)) j (t, hH (yH (cY (c_save C)) j))) j), u)), upd (yC (ySetH (ySetH (cY (c_save C)) j (t, hH (yH (cY (c_save C)) j))) j (hT (yH (ySetH (cY (c_save C)) j (t, hH (yH (cY (c_save C)) j))) j), u))) 2 ((yC (ySetH (ySetH (cY (c_save C)) j (t, hH (yH (cY (c_save C)) j))) j (hT (yH (ySetH (cY (c_save C)) j (t, hH (yH (cY (c_save C)) j))) j), u)) 2) + t)), yZ (yS (ySetH (ySetH (cY (c_save C)) j (t, hH (yH (cY (c_save C)) j))) j (hT (yH (ySetH (cY (c_save C)) j (t, hH (yH (cY (c_save C)) j))) j), u)), yH (ySetH (ySetH (cY (c_save C)) j (t, hH (yH (cY (c_save C)) j))) j (hT (yH (ySetH (cY (c_save C)) j (t, hH (yH (cY (c_save C)) j))) j), u)), yZ (ySetH (ySetH (cY (c_save C)) j (t, hH (yH (cY (c_save C)) j))) j (hT (yH (ySetH (cY (c_save C)) j (t, hH (yH (cY (c_save C)) j))) j), u)), upd (yC (ySetH (ySetH (cY (c_save C)) j (t, hH (yH (cY (c_save C)) j))) j (hT (yH (ySetH (cY (c_save C)) j (t, hH (yH (cY (c_save C)) j))) j), u))) 2 ((yC (ySetH (ySetH (cY (c_save C)) j (t, hH (yH (cY (c_save C)) j))) j (hT (yH (ySetH (cY (c_save C)) j (t, hH (yH (cY (c_save C)) j))) j), u)) 2) + t)), upd (yC (yS (ySetH (ySetH (cY (c_save C)) j (t, hH (yH (cY (c_save C)) j))) j (hT (yH (ySetH (cY (c_save C)) j (t, hH (yH (cY (c_save C)) j))) j), u)), yH (ySetH (ySetH (cY (c_save C)) j (t, hH (yH (cY (c_save C)) j))) j (hT (yH (ySetH (cY (c_save C)) j (t, hH (yH (cY (c_save C)) j))) j), u)), yZ (ySetH (ySetH (cY (c_save C)) j (t, hH (yH (cY (c_save C)) j))) j (hT (yH (ySetH (cY (c_save C)) j (t, hH (yH (cY (c_save C)) j))) j), u)), upd (yC (ySetH (ySetH (cY (c_save C)) j (t, hH (yH (cY (c_save C)) j))) j (hT (yH (ySetH (cY (c_save C)) j (t, hH (yH (cY (c_save C)) j))) j), u))) 2 ((yC (ySetH (ySetH (cY (c_save C)) j (t, hH (yH (cY (c_save C)) j))) j (hT (yH (ySetH (cY (c_save C)) j (t, hH (yH (cY (c_save C)) j))) j), u)) 2) + t))) 3 ((yC (yS (ySetH (ySetH (cY (c_save C)) j (t, hH (yH (cY (c_save C)) j))) j (hT (yH (ySetH (cY (c_save C)) j (t, hH (yH (cY (c_save C)) j))) j), u)), yH (ySetH (ySetH (cY (c_save C)) j (t, hH (yH (cY (c_save C)) j))) j (hT (yH (ySetH (cY (c_save C)) j (t, hH (yH (cY (c_save C)) j))) j), u)), yZ (ySetH (ySetH (cY (c_save C)) j (t, hH (yH (cY (c_save C)) j))) j (hT (yH (ySetH (cY (c_save C)) j (t, hH (yH (cY (c_save C)) j))) j), u)), upd (yC (ySetH (ySetH (cY (c_save C)) j (t, hH (yH (cY (c_save C)) j))) j (hT (yH (ySetH (cY (c_save C)) j (t, hH (yH (cY (c_save C)) j))) j), u))) 2 ((yC (ySetH (ySetH (cY (c_save C)) j (t, hH (yH (cY (c_save C)) j))) j (hT (yH (ySetH (cY (c_save C)) j (t, hH (yH (cY (c_save C)) j))) j), u)) 2) + t)) 3) + (hT (yH (cY (c_save C)) j)))), cV (c_save C), cM (c_save C), cQ (c_save C), cB (c_save C), cL (c_save C), cR (c_save C), cT (c_save C), cU (c_save C))) _ := hG.to cW_uy3
            refine lv_iload hx hb dX4_ship_108 (lv_at hl 0 rfl) ?_
            exact g_iret hx hb hr hlocks hK hG hS rfl dX4_ship_110 ⟨(congrArg (fun z9 => some (Value.int z9)) (by rfl)), (by rfl)⟩
          · skip
            exact absurd ht2 c_34
  · skip
    exact absurd c_4 (by decide)
set_option maxHeartbeats 4000000 in
set_option maxRecDepth 100000 in
theorem k_X4_pass_ok (l : Launch) (D : va_G) (cy : Nat → ClassId) (N : Nat) (L : Nat → Nat) (F : Nat → va_E) (hN : 162 ≤ N) (C : CT) (q : Nat) (hy : wfY (cY C)) (hq : cQ C ≤ 6) (hm : ∀ i, i < 6 → cM C i < 6) (h1 : 1 ≤ q) (h2 : q ≤ 30) : GM l D cy N L yX4_pass wsX4_pass ({ frames := 7, cells := 0, slots := 0, locals := 150 }) [.ref (L 0), .int (nI q)] (cW cy L F C) (some (.int (y_PR (cY C) q))) (cW cy L F (c_setY (c_save C) (y_pass (cY C) q))) := by
  refine GM.ofW (cc := cX4_pass) (maxL := 2) (ret := (some .int)) (by decide) rfl (Nat.le_of_ble_eq_true rfl) ?_
  intro p e s m below meth c ls hx hb hr hts hown hlocks hml hK hA hG hS hl
  have hl : lv_has ls 2 [(0, .ref (L 0)), (1, .int (nI q))] := hl
  refine lv_iload_n hx hb dX4_pass_0 rfl (lv_at hl 1 rfl) ?_
  refine lv_iconst (v := 1) hx hb dX4_pass_1 (by decide) ?_
  refine lv_icmp_lt (tgt := 11) hx hb dX4_pass_2 (by decide) (fun c_2 => ?_) (fun c_2 => ?_)
  · skip
    have c_2 : q < 1 := (nI_ltI (a := q) (b := 1) (by omega) (by omega)).mp c_2
    exfalso; omega
  · skip
    have c_2 : ¬ q < 1 := fun h9 => c_2 ((nI_ltI (a := q) (b := 1) (by omega) (by omega)).mpr h9)
    refine lv_iload_n hx hb dX4_pass_5 rfl (lv_at hl 1 rfl) ?_
    refine lv_bipush (v := 30) hx hb dX4_pass_6 (by decide) ?_
    refine lv_icmp_le (tgt := 21) hx hb dX4_pass_8 (by decide) (fun c_8 => ?_) (fun c_8 => ?_)
    · skip
      have c_8 : q ≤ 30 := (nI_leI (a := q) (b := 30) (by omega) (by omega)).mp c_8
      refine lv_aload_n hx hb dX4_pass_21 rfl (lv_at hl 0 rfl) ?_
      refine g_cVv (As := []) (rest := []) hx hb hml hown hts hK hA hG hS (k_X4_saveState l D cy N L _ (by omega) C  (hq) (hm)) (cwV 0 hts gX4_pass_X4_saveState rfl rfl rfl (by decide +kernel) ⟨Nat.le_of_ble_eq_true rfl, Nat.le_of_ble_eq_true rfl⟩) (by omega) cW_o (ci := 4) rfl rfl rfl rfl hl.1 (Nat.le_of_ble_eq_true rfl) dX4_pass_22 ⟨Nat.zero_le _, Nat.zero_le _⟩ (fun H locs hG hS => ?_)
      refine lv_aload_n hx hb dX4_pass_25 rfl (lv_at hl 0 rfl) ?_
      refine lv_iload_n hx hb dX4_pass_26 rfl (lv_at hl 1 rfl) ?_
      refine g_cVi (As := [.int (nI q)]) (rest := []) hx hb hml hown hts hK hA hG hS (k_X4_passDays l D cy N L _ (by omega) (c_save C) q (hy) (by omega)) (cwV 1 hts gX4_pass_X4_passDays rfl rfl rfl (by decide +kernel) ⟨Nat.le_of_ble_eq_true rfl, Nat.le_of_ble_eq_true rfl⟩) (by omega) cW_o (ci := 4) rfl rfl rfl rfl hl.1 (Nat.le_of_ble_eq_true rfl) dX4_pass_27 ⟨Nat.zero_le _, Nat.zero_le _⟩ (fun H locs hG hS => ?_)
      exact g_iret hx hb hr hlocks hK hG hS rfl dX4_pass_30 ⟨(congrArg (fun z9 => some (Value.int z9)) (by rfl)), (by rfl)⟩
    · skip
      have c_8 : ¬ q ≤ 30 := fun h9 => c_8 ((nI_leI (a := q) (b := 30) (by omega) (by omega)).mpr h9)
      exfalso; omega
set_option maxHeartbeats 4000000 in
set_option maxRecDepth 100000 in
theorem k_X4_undo_ok (l : Launch) (D : va_G) (cy : Nat → ClassId) (N : Nat) (L : Nat → Nat) (F : Nat → va_E) (hN : 162 ≤ N) (C : CT)  (hq1 : 1 ≤ cQ C) (hq : cQ C ≤ 6) (hm : ∀ i, i < 6 → cM C i < 6) : GM l D cy N L yX4_undo wsX4_undo ({ frames := 7, cells := 0, slots := 0, locals := 150 }) [.ref (L 0)] (cW cy L F C) (some (.int (nI (cQ C - 1)))) (cW cy L F (y_like (cY C) (cV C (cM C (cQ C - 1))), cV C, cM C, cQ C - 1, cB C, cL C, cR C, cT C, cU C)) := by
  refine GM.ofW (cc := cX4_undo) (maxL := 1) (ret := (some .int)) (by decide) rfl (Nat.le_of_ble_eq_true rfl) ?_
  intro p e s m below meth c ls hx hb hr hts hown hlocks hml hK hA hG hS hl
  have hl : lv_has ls 1 [(0, .ref (L 0))] := hl
  have hf20 := hts (.fieldLink RX4 20 "SiloPads" "savedStates" "I") (by decide +kernel)
  have hinX4 : ∀ w ∈ u_ws RX4 TX4 8, w ∈ wsX4_undo := by decide +kernel
  have hf10 := hts (.fieldLink RX4 10 "SiloPads" "now" "LSiloPads$Yard;") (by decide +kernel)
  have hf16 := hts (.fieldLink RX4 16 "SiloPads" "saved" "[LSiloPads$Yard;") (by decide +kernel)
  have hmq := hm (cQ C - 1) (by omega)
  refine lv_aload_n hx hb dX4_undo_0 rfl (lv_at hl 0 rfl) ?_
  refine g_get (ci := 4) (C := RX4) (T := TX4) (M := 8) hx hb hts hinX4 hown hK hG (by omega) cW_o rfl 2 (by decide) hf20 rfl rfl dX4_undo_1 ?_
  refine lv_if_ne (tgt := 17) hx hb dX4_undo_4 (by decide) (fun c_4 => ?_) (fun c_4 => ?_)
  · skip
    have c_4 : ¬ (cQ C) = 0 := fun h9 => c_4 ((nI_eq (a := cQ C) (b := 0) (by omega) (by omega)).mpr h9)
    refine lv_aload_n hx hb dX4_undo_17 rfl (lv_at hl 0 rfl) ?_
    refine lv_dup hx hb dX4_undo_18 rfl ?_
    refine g_get (ci := 4) (C := RX4) (T := TX4) (M := 8) hx hb hts hinX4 hown hK hG (by omega) cW_o rfl 2 (by decide) hf20 rfl rfl dX4_undo_19 ?_
    refine lv_iconst (v := 1) hx hb dX4_undo_22 (by decide) ?_
    refine lv_isub hx hb dX4_undo_23 ?_
    refine lv_toN (k := (cQ C) - 1) (pk_sub (a := cQ C) (b := 1) (by omega)) ?_
    refine g_put (ci := 4) (C := RX4) (T := TX4) (M := 8) (ty := .int) hx hb hts hinX4 tyX4 tyX4_ok nmX4 hown hK hG hS (by omega) cW_o rfl 2 (by decide) hf20 rfl rfl rfl rfl rfl (Nat.le_of_ble_eq_true rfl) dX4_undo_24 rfl (fun H locs hG hS => ?_)
    have hG : GW D N L (gA N L s.heap.size) (cW cy L F (cY C, cV C, cM C, (cQ C) - 1, cB C, cL C, cR C, cT C, cU C)) _ := hG.to cW_uo
    refine lv_aload_n hx hb dX4_undo_27 rfl (lv_at hl 0 rfl) ?_
    refine g_get (ci := 4) (C := RX4) (T := TX4) (M := 8) hx hb hts hinX4 hown hK hG (by omega) cW_o rfl 0 (by decide) hf10 rfl rfl dX4_undo_28 ?_
    refine lv_aload_n hx hb dX4_undo_31 rfl (lv_at hl 0 rfl) ?_
    refine g_get (ci := 4) (C := RX4) (T := TX4) (M := 8) hx hb hts hinX4 hown hK hG (by omega) cW_o rfl 1 (by decide) hf16 rfl rfl dX4_undo_32 ?_
    refine lv_aload_n hx hb dX4_undo_35 rfl (lv_at hl 0 rfl) ?_
    refine g_get (ci := 4) (C := RX4) (T := TX4) (M := 8) hx hb hts hinX4 hown hK hG (by omega) cW_o rfl 2 (by decide) hf20 rfl rfl dX4_undo_36 ?_
    refine g_aald (j := 30 + 22 * ((cM C) ((cQ C) - 1))) hx hb hK hG (by omega) cW_v (t0 := 3) rfl (k := (cQ C) - 1) rfl (by omega) (by decide) rfl dX4_undo_39 ?_
    have hG : GW D N L (gA N L s.heap.size) (yW cy L (yW cy L (cW cy L F (cY C, cV C, cM C, (cQ C) - 1, cB C, cL C, cR C, cT C, cU C)) (30 + 22 * ((cM C) ((cQ C) - 1))) ((cV C) ((cM C) ((cQ C) - 1)))) (1) (cY C)) _ := hG.to (by rw [cW_V0 (p := ((cM C) ((cQ C) - 1))) (by omega), cW_Y0 ])
    refine g_cVv (As := [.ref (L (30 + 22 * ((cM C) ((cQ C) - 1))))]) (rest := []) hx hb hml hown hts hK hA hG hS (k_X3_becomeLike l D cy N L _ (30 + 22 * ((cM C) ((cQ C) - 1))) ((cV C) ((cM C) ((cQ C) - 1))) 1 (cY C)  (by omega) (by omega) (by omega)  ) (cwV 1 hts gX4_undo_X3_becomeLike rfl rfl rfl (by decide +kernel) ⟨Nat.le_of_ble_eq_true rfl, Nat.le_of_ble_eq_true rfl⟩) (by omega) yW_o (ci := 3) rfl rfl rfl rfl hl.1 (Nat.le_of_ble_eq_true rfl) dX4_undo_40 ⟨Nat.zero_le _, Nat.zero_le _⟩ (fun H locs hG hS => ?_)
    have hG : GW D N L (gA N L s.heap.size) (cW cy L F (y_like (cY C) ((cV C) ((cM C) ((cQ C) - 1))), cV C, cM C, (cQ C) - 1, cB C, cL C, cR C, cT C, cU C)) _ := hG.to (by rw [cW_V0 (p := ((cM C) ((cQ C) - 1))) (by omega), cW_Y ] <;> rfl)
    refine lv_aload_n hx hb dX4_undo_43 rfl (lv_at hl 0 rfl) ?_
    refine g_get (ci := 4) (C := RX4) (T := TX4) (M := 8) hx hb hts hinX4 hown hK hG (by omega) cW_o rfl 2 (by decide) hf20 rfl rfl dX4_undo_44 ?_
    exact g_iret hx hb hr hlocks hK hG hS rfl dX4_undo_47 ⟨(congrArg (fun z9 => some (Value.int z9)) (by first | (simp only [c_4, if_true, if_false, not_true_eq_false, not_false_eq_true]; done) | (simp [c_4]; done) | rfl)), (by first | (simp only [c_4, if_true, if_false, not_true_eq_false, not_false_eq_true]; done) | (simp [c_4]; done) | rfl)⟩
  · skip
    have c_4 : (cQ C) = 0 := (nI_eq (a := cQ C) (b := 0) (by omega) (by omega)).mp c_4
    exfalso; omega
set_option maxHeartbeats 4000000 in
set_option maxRecDepth 100000 in
theorem k_X4_silo_ok (l : Launch) (D : va_G) (cy : Nat → ClassId) (N : Nat) (L : Nat → Nat) (F : Nat → va_E) (hN : 162 ≤ N) (C : CT) (k : Nat) (v : Int32) (hy : wfY (cY C)) (hk : k < 4) (hv : v = 0 ∨ v = 1 ∨ v = 2 ∨ v = 3 ∨ v = 4 ∨ v = 5) : GM l D cy N L yX4_silo wsX4_silo ({ frames := 7, cells := 0, slots := 0, locals := 150 }) [.ref (L 0), .int (nI k), .int v] (cW cy L F C) (some (.int (y_tellS (cY C) k v))) (cW cy L F C) := by
  refine GM.ofW (cc := cX4_silo) (maxL := 4) (ret := (some .int)) (by decide) rfl (Nat.le_of_ble_eq_true rfl) ?_
  intro p e s m below meth c ls hx hb hr hts hown hlocks hml hK hA hG hS hl
  have hl : lv_has ls 4 [(0, .ref (L 0)), (1, .int (nI k)), (2, .int v)] := hl
  have hf10 := hts (.fieldLink RX4 10 "SiloPads" "now" "LSiloPads$Yard;") (by decide +kernel)
  have hinX4 : ∀ w ∈ u_ws RX4 TX4 8, w ∈ wsX4_silo := by decide +kernel
  have hf94 := hts (.fieldLink RX4 94 "SiloPads$Yard" "silos" "[LSiloPads$Silo;") (by decide +kernel)
  have hinX3 : ∀ w ∈ u_ws RX3 TX3 9, w ∈ wsX4_silo := by decide +kernel
  have hf125 := hts (.fieldLink RX4 125 "SiloPads$Silo" "layers" "I") (by decide +kernel)
  have hinX1 : ∀ w ∈ u_ws RX1 TX1 6, w ∈ wsX4_silo := by decide +kernel
  have hf111 := hts (.fieldLink RX4 111 "SiloPads$Silo" "padsOn" "I") (by decide +kernel)
  have hf141 := hts (.fieldLink RX4 141 "SiloPads$Silo" "arch" "I") (by decide +kernel)
  have hf134 := hts (.fieldLink RX4 134 "SiloPads$Silo" "shakes" "I") (by decide +kernel)
  refine lv_iload_n hx hb dX4_silo_0 rfl (lv_at hl 1 rfl) ?_
  refine g_cSi (As := [.int (nI k)]) (rest := []) hx hb hml hown hts hK hA hG hS (k_X4_isNoSilo l D cy N L _ (nI k) ) (g_cwS 1 hts gX4_silo_X4_isNoSilo rfl rfl rfl (by decide +kernel) ⟨Nat.le_of_ble_eq_true rfl, Nat.le_of_ble_eq_true rfl⟩) rfl rfl hl.1 (Nat.le_of_ble_eq_true rfl) dX4_silo_1 ⟨Nat.zero_le _, Nat.zero_le _⟩ (fun H locs hG hS => ?_)
  refine lv_toI (y := 0) (c_noSilo_k hk) ?_
  refine lv_if_eq (tgt := 17) hx hb dX4_silo_4 (by decide) (fun c_4 => ?_) (fun c_4 => ?_)
  · skip
    refine lv_aload_n hx hb dX4_silo_17 rfl (lv_at hl 0 rfl) ?_
    refine g_get (ci := 4) (C := RX4) (T := TX4) (M := 8) hx hb hts hinX4 hown hK hG (by omega) cW_o rfl 0 (by decide) hf10 rfl rfl dX4_silo_18 ?_
    refine g_get (ci := 3) (C := RX3) (T := TX3) (M := 9) hx hb hts hinX3 hown hK hG (by omega) cW_yo rfl 0 (by decide) hf94 rfl rfl dX4_silo_21 ?_
    refine lv_iload_n hx hb dX4_silo_24 rfl (lv_at hl 1 rfl) ?_
    refine g_aald (j := 1 + 4 + 3 * k) hx hb hK hG (by omega) cW_ys (t0 := 1) rfl (k := k) rfl (by omega) (by decide) rfl dX4_silo_25 ?_
    refine lv_astore_n (lv' := [(3, .ref (L (1 + 4 + 3 * k))), (0, .ref (L 0)), (1, .int (nI k)), (2, .int v)]) hx hb dX4_silo_26 rfl hl (by decide) rfl (fun ls hl => ?_)
    refine lv_iload_n hx hb dX4_silo_27 rfl (lv_at hl 3 rfl) ?_
    refine lv_toI (y := v) rfl ?_
    by_cases c_28_0 : v = 0
    · skip
      refine lv_tableIn (off := 40) (tgt := 68) hx hb dX4_silo_28 (by rw [c_28_0]; decide) (by rw [c_28_0]; decide) (by rw [c_28_0]; decide) (by decide) ?_
      refine lv_aload_n hx hb dX4_silo_68 rfl (lv_at hl 0 rfl) ?_
      have hG : GW D N L (gA N L s.heap.size) (sW cy L (cW cy L F C) (1 + 4 + 3 * k) (yS (cY C) k)) _ := hG.to (by rw [cW_S0 (k := k) (by omega)])
      refine g_cVi (As := []) (rest := []) hx hb hml hown hts hK hA hG hS (k_X1_total l D cy N L _ (1 + 4 + 3 * k) (yS (cY C) k)  (by omega)  (hy k hk)) (cwV 0 hts gX4_silo_X1_total rfl rfl rfl (by decide +kernel) ⟨Nat.le_of_ble_eq_true rfl, Nat.le_of_ble_eq_true rfl⟩) (by omega) sW_o (ci := 1) rfl rfl rfl rfl hl.1 (Nat.le_of_ble_eq_true rfl) dX4_silo_69 ⟨Nat.zero_le _, Nat.zero_le _⟩ (fun H locs hG hS => ?_)
      have hG : GW D N L (gA N L s.heap.size) (cW cy L F C) _ := hG.to (by rw [cW_S0 (k := k) (by omega)] <;> rfl)
      exact g_iret hx hb hr hlocks hK hG hS rfl dX4_silo_72 ⟨(congrArg (fun z9 => some (Value.int z9)) (by simp only [y_tellS, eq_true c_28_0, if_true, if_false])), rfl⟩
    by_cases c_28_1 : v = 1
    · skip
      refine lv_tableIn (off := 45) (tgt := 73) hx hb dX4_silo_28 (by rw [c_28_1]; decide) (by rw [c_28_1]; decide) (by rw [c_28_1]; decide) (by decide) ?_
      refine lv_aload_n hx hb dX4_silo_73 rfl (lv_at hl 0 rfl) ?_
      refine g_get (ci := 1) (C := RX1) (T := TX1) (M := 6) hx hb hts hinX1 hown hK hG (by omega) (cW_so (k := k) (by omega)) rfl 2 (by decide) hf125 rfl rfl dX4_silo_74 ?_
      exact g_iret hx hb hr hlocks hK hG hS rfl dX4_silo_77 ⟨(congrArg (fun z9 => some (Value.int z9)) (by simp only [y_tellS, c_28_0, eq_true c_28_1, if_true, if_false])), rfl⟩
    by_cases c_28_2 : v = 2
    · skip
      refine lv_tableIn (off := 50) (tgt := 78) hx hb dX4_silo_28 (by rw [c_28_2]; decide) (by rw [c_28_2]; decide) (by rw [c_28_2]; decide) (by decide) ?_
      refine lv_aload_n hx hb dX4_silo_78 rfl (lv_at hl 0 rfl) ?_
      refine g_get (ci := 1) (C := RX1) (T := TX1) (M := 6) hx hb hts hinX1 hown hK hG (by omega) (cW_so (k := k) (by omega)) rfl 3 (by decide) hf111 rfl rfl dX4_silo_79 ?_
      exact g_iret hx hb hr hlocks hK hG hS rfl dX4_silo_82 ⟨(congrArg (fun z9 => some (Value.int z9)) (by simp only [y_tellS, c_28_0, c_28_1, eq_true c_28_2, if_true, if_false])), rfl⟩
    by_cases c_28_3 : v = 3
    · skip
      refine lv_tableIn (off := 55) (tgt := 83) hx hb dX4_silo_28 (by rw [c_28_3]; decide) (by rw [c_28_3]; decide) (by rw [c_28_3]; decide) (by decide) ?_
      refine lv_aload_n hx hb dX4_silo_83 rfl (lv_at hl 0 rfl) ?_
      refine g_get (ci := 1) (C := RX1) (T := TX1) (M := 6) hx hb hts hinX1 hown hK hG (by omega) (cW_so (k := k) (by omega)) rfl 4 (by decide) hf141 rfl rfl dX4_silo_84 ?_
      refine lv_if_ne (tgt := 94) hx hb dX4_silo_87 (by decide) (fun c_87 => ?_) (fun c_87 => ?_)
      · skip
        refine lv_iconst (v := 1) hx hb dX4_silo_94 (by decide) ?_
        exact g_iret hx hb hr hlocks hK hG hS rfl dX4_silo_95 ⟨(congrArg (fun z9 => some (Value.int z9)) (by simp only [y_tellS, c_28_0, c_28_1, c_28_2, eq_true c_28_3, c_87, if_true, if_false])), rfl⟩
      · skip
        refine lv_iconst (v := 0) hx hb dX4_silo_90 (by decide) ?_
        refine lv_goto (tgt := 95) hx hb dX4_silo_91 (by decide) ?_
        exact g_iret hx hb hr hlocks hK hG hS rfl dX4_silo_95 ⟨(congrArg (fun z9 => some (Value.int z9)) (by simp only [y_tellS, c_28_0, c_28_1, c_28_2, eq_true c_28_3, eq_true c_87, if_true, if_false])), rfl⟩
    by_cases c_28_4 : v = 4
    · skip
      refine lv_tableIn (off := 68) (tgt := 96) hx hb dX4_silo_28 (by rw [c_28_4]; decide) (by rw [c_28_4]; decide) (by rw [c_28_4]; decide) (by decide) ?_
      refine lv_aload_n hx hb dX4_silo_96 rfl (lv_at hl 0 rfl) ?_
      refine g_get (ci := 1) (C := RX1) (T := TX1) (M := 6) hx hb hts hinX1 hown hK hG (by omega) (cW_so (k := k) (by omega)) rfl 5 (by decide) hf134 rfl rfl dX4_silo_97 ?_
      exact g_iret hx hb hr hlocks hK hG hS rfl dX4_silo_100 ⟨(congrArg (fun z9 => some (Value.int z9)) (by simp only [y_tellS, c_28_0, c_28_1, c_28_2, c_28_3, eq_true c_28_4, if_true, if_false])), rfl⟩
    by_cases c_28_5 : v = 5
    · skip
      refine lv_tableIn (off := 73) (tgt := 101) hx hb dX4_silo_28 (by rw [c_28_5]; decide) (by rw [c_28_5]; decide) (by rw [c_28_5]; decide) (by decide) ?_
      refine lv_aload_n hx hb dX4_silo_101 rfl (lv_at hl 1 rfl) ?_
      refine lv_aload_n hx hb dX4_silo_102 rfl (lv_at hl 0 rfl) ?_
      refine lv_aload_n hx hb dX4_silo_103 rfl (lv_at hl 0 rfl) ?_
      refine g_get (ci := 1) (C := RX1) (T := TX1) (M := 6) hx hb hts hinX1 hown hK hG (by omega) (cW_so (k := k) (by omega)) rfl 3 (by decide) hf111 rfl rfl dX4_silo_104 ?_
      have hG : GW D N L (gA N L s.heap.size) (sW cy L (cW cy L F C) (1 + 4 + 3 * k) (yS (cY C) k)) _ := hG.to (by rw [cW_S0 (k := k) (by omega)])
      refine g_cVi (As := [.ref (L (1 + 4 + 3 * k)), .int (sP (yS (cY C) k))]) (rest := []) hx hb hml hown hts hK hA hG hS (k_X4_outInHour l D cy N L _ (1 + 4 + 3 * k) (yS (cY C) k)  (yZ (cY C)) (by omega) (by omega) (cE_cW (F := F) (c := C)) (sP (yS (cY C) k)) (hy k hk)) (cwV 2 hts gX4_silo_X4_outInHour rfl rfl rfl (by decide +kernel) ⟨Nat.le_of_ble_eq_true rfl, Nat.le_of_ble_eq_true rfl⟩) (by omega) (by rw [sW_n (by omega)]; exact cW_o) (ci := 4) rfl rfl rfl rfl hl.1 (Nat.le_of_ble_eq_true rfl) dX4_silo_107 ⟨Nat.zero_le _, Nat.zero_le _⟩ (fun H locs hG hS => ?_)
      have hG : GW D N L (gA N L s.heap.size) (cW cy L F C) _ := hG.to (by rw [cW_S0 (k := k) (by omega)] <;> rfl)
      exact g_iret hx hb hr hlocks hK hG hS rfl dX4_silo_110 ⟨(congrArg (fun z9 => some (Value.int z9)) (by simp only [y_tellS, c_28_0, c_28_1, c_28_2, c_28_3, c_28_4, eq_true c_28_5, if_true, if_false])), rfl⟩
    rcases hv with h9 | h9 | h9 | h9 | h9 | h9 <;> first | exact absurd h9 c_28_0 | exact absurd h9 c_28_1 | exact absurd h9 c_28_2 | exact absurd h9 c_28_3 | exact absurd h9 c_28_4 | exact absurd h9 c_28_5
  · skip
    exact absurd c_4 (by decide)
set_option maxHeartbeats 4000000 in
set_option maxRecDepth 100000 in
theorem k_X4_layer_ok (l : Launch) (D : va_G) (cy : Nat → ClassId) (N : Nat) (L : Nat → Nat) (F : Nat → va_E) (hN : 162 ≤ N) (C : CT) (k j : Nat) (v : Int32) (hy : wfY (cY C)) (hk : k < 4) (hj : j < sN (yS (cY C) k)) (hv : v = 0 ∨ v = 1 ∨ v = 2) : GM l D cy N L yX4_layer wsX4_layer ({ frames := 7, cells := 0, slots := 0, locals := 150 }) [.ref (L 0), .int (nI k), .int (nI j), .int v] (cW cy L F C) (some (.int (y_tellL (cY C) k j v))) (cW cy L F C) := by
  refine GM.ofW (cc := cX4_layer) (maxL := 5) (ret := (some .int)) (by decide) rfl (Nat.le_of_ble_eq_true rfl) ?_
  intro p e s m below meth c ls hx hb hr hts hown hlocks hml hK hA hG hS hl
  have hl : lv_has ls 5 [(0, .ref (L 0)), (1, .int (nI k)), (2, .int (nI j)), (3, .int v)] := hl
  have hf10 := hts (.fieldLink RX4 10 "SiloPads" "now" "LSiloPads$Yard;") (by decide +kernel)
  have hinX4 : ∀ w ∈ u_ws RX4 TX4 8, w ∈ wsX4_layer := by decide +kernel
  have hf94 := hts (.fieldLink RX4 94 "SiloPads$Yard" "silos" "[LSiloPads$Silo;") (by decide +kernel)
  have hinX3 : ∀ w ∈ u_ws RX3 TX3 9, w ∈ wsX4_layer := by decide +kernel
  have hf125 := hts (.fieldLink RX4 125 "SiloPads$Silo" "layers" "I") (by decide +kernel)
  have hinX1 : ∀ w ∈ u_ws RX1 TX1 6, w ∈ wsX4_layer := by decide +kernel
  have hf201 := hts (.fieldLink RX4 201 "SiloPads$Silo" "tonnes" "[I") (by decide +kernel)
  have hf203 := hts (.fieldLink RX4 203 "SiloPads$Silo" "ages" "[I") (by decide +kernel)
  have hn10 := hy k hk
  refine lv_iload_n hx hb dX4_layer_0 rfl (lv_at hl 1 rfl) ?_
  refine g_cSi (As := [.int (nI k)]) (rest := []) hx hb hml hown hts hK hA hG hS (k_X4_isNoSilo l D cy N L _ (nI k) ) (g_cwS 1 hts gX4_layer_X4_isNoSilo rfl rfl rfl (by decide +kernel) ⟨Nat.le_of_ble_eq_true rfl, Nat.le_of_ble_eq_true rfl⟩) rfl rfl hl.1 (Nat.le_of_ble_eq_true rfl) dX4_layer_1 ⟨Nat.zero_le _, Nat.zero_le _⟩ (fun H locs hG hS => ?_)
  refine lv_toI (y := 0) (c_noSilo_k hk) ?_
  refine lv_if_eq (tgt := 17) hx hb dX4_layer_4 (by decide) (fun c_4 => ?_) (fun c_4 => ?_)
  · skip
    refine lv_aload_n hx hb dX4_layer_17 rfl (lv_at hl 0 rfl) ?_
    refine g_get (ci := 4) (C := RX4) (T := TX4) (M := 8) hx hb hts hinX4 hown hK hG (by omega) cW_o rfl 0 (by decide) hf10 rfl rfl dX4_layer_18 ?_
    refine g_get (ci := 3) (C := RX3) (T := TX3) (M := 9) hx hb hts hinX3 hown hK hG (by omega) cW_yo rfl 0 (by decide) hf94 rfl rfl dX4_layer_21 ?_
    refine lv_iload_n hx hb dX4_layer_24 rfl (lv_at hl 1 rfl) ?_
    refine g_aald (j := 1 + 4 + 3 * k) hx hb hK hG (by omega) cW_ys (t0 := 1) rfl (k := k) rfl (by omega) (by decide) rfl dX4_layer_25 ?_
    refine lv_astore (lv' := [(4, .ref (L (1 + 4 + 3 * k))), (0, .ref (L 0)), (1, .int (nI k)), (2, .int (nI j)), (3, .int v)]) hx hb dX4_layer_26 hl (by decide) rfl (fun ls hl => ?_)
    refine lv_iload_n hx hb dX4_layer_28 rfl (lv_at hl 3 rfl) ?_
    refine lv_if_lt (tgt := 41) hx hb dX4_layer_29 (by decide) (fun c_29 => ?_) (fun c_29 => ?_)
    · skip
      have c_29 : j < 0 := (nI_ltI (a := j) (b := 0) (by omega) (by omega)).mp c_29
      exfalso; omega
    · skip
      have c_29 : ¬ j < 0 := fun h9 => c_29 ((nI_ltI (a := j) (b := 0) (by omega) (by omega)).mpr h9)
      refine lv_iload_n hx hb dX4_layer_32 rfl (lv_at hl 3 rfl) ?_
      refine lv_aload hx hb dX4_layer_33 (lv_at hl 0 rfl) ?_
      refine g_get (ci := 1) (C := RX1) (T := TX1) (M := 6) hx hb hts hinX1 hown hK hG (by omega) (cW_so (k := k) (by omega)) rfl 2 (by decide) hf125 rfl rfl dX4_layer_35 ?_
      refine lv_icmp_lt (tgt := 51) hx hb dX4_layer_38 (by decide) (fun c_38 => ?_) (fun c_38 => ?_)
      · skip
        have c_38 : j < (sN (yS (cY C) k)) := (nI_ltI (a := j) (b := sN (yS (cY C) k)) (by omega) (by omega)).mp c_38
        refine lv_iload_n hx hb dX4_layer_51 rfl (lv_at hl 4 rfl) ?_
        refine lv_toI (y := v) rfl ?_
        by_cases c_52_0 : v = 0
        · skip
          refine lv_tableIn (off := 28) (tgt := 80) hx hb dX4_layer_52 (by rw [c_52_0]; decide) (by rw [c_52_0]; decide) (by rw [c_52_0]; decide) (by decide) ?_
          refine lv_aload hx hb dX4_layer_80 (lv_at hl 0 rfl) ?_
          refine g_get (ci := 1) (C := RX1) (T := TX1) (M := 6) hx hb hts hinX1 hown hK hG (by omega) (cW_so (k := k) (by omega)) rfl 0 (by decide) hf201 rfl rfl dX4_layer_82 ?_
          refine lv_iload_n hx hb dX4_layer_85 rfl (lv_at hl 3 rfl) ?_
          refine g_iald hx hb hK hG (by omega) (cW_st (k := k) (by omega)) (k := j) rfl (by omega) (by decide) dX4_layer_86 ?_
          exact g_iret hx hb hr hlocks hK hG hS rfl dX4_layer_87 ⟨(congrArg (fun z9 => some (Value.int z9)) (by simp only [y_tellL, c_29, c_38, eq_true c_52_0, if_true, if_false])), rfl⟩
        by_cases c_52_1 : v = 1
        · skip
          refine lv_tableIn (off := 36) (tgt := 88) hx hb dX4_layer_52 (by rw [c_52_1]; decide) (by rw [c_52_1]; decide) (by rw [c_52_1]; decide) (by decide) ?_
          refine lv_aload hx hb dX4_layer_88 (lv_at hl 0 rfl) ?_
          refine g_get (ci := 1) (C := RX1) (T := TX1) (M := 6) hx hb hts hinX1 hown hK hG (by omega) (cW_so (k := k) (by omega)) rfl 1 (by decide) hf203 rfl rfl dX4_layer_90 ?_
          refine lv_iload_n hx hb dX4_layer_93 rfl (lv_at hl 3 rfl) ?_
          refine g_iald hx hb hK hG (by omega) (cW_sa (k := k) (by omega)) (k := j) rfl (by omega) (by decide) dX4_layer_94 ?_
          exact g_iret hx hb hr hlocks hK hG hS rfl dX4_layer_95 ⟨(congrArg (fun z9 => some (Value.int z9)) (by simp only [y_tellL, c_29, c_38, c_52_0, eq_true c_52_1, if_true, if_false])), rfl⟩
        by_cases c_52_2 : v = 2
        · skip
          refine lv_tableIn (off := 44) (tgt := 96) hx hb dX4_layer_52 (by rw [c_52_2]; decide) (by rw [c_52_2]; decide) (by rw [c_52_2]; decide) (by decide) ?_
          refine lv_aload_n hx hb dX4_layer_96 rfl (lv_at hl 1 rfl) ?_
          refine lv_aload hx hb dX4_layer_97 (lv_at hl 0 rfl) ?_
          refine g_get (ci := 1) (C := RX1) (T := TX1) (M := 6) hx hb hts hinX1 hown hK hG (by omega) (cW_so (k := k) (by omega)) rfl 1 (by decide) hf203 rfl rfl dX4_layer_99 ?_
          refine lv_iload_n hx hb dX4_layer_102 rfl (lv_at hl 3 rfl) ?_
          refine g_iald hx hb hK hG (by omega) (cW_sa (k := k) (by omega)) (k := j) rfl (by omega) (by decide) dX4_layer_103 ?_
          refine g_cVi (As := [.int ((sA (yS (cY C) k)) j)]) (rest := []) hx hb hml hown hts hK hA hG hS (k_X4_hardnessAt l D cy N L _  (yZ (cY C)) (by omega) (cE_cW (F := F) (c := C)) ((sA (yS (cY C) k)) j) ) (cwV 1 hts gX4_layer_X4_hardnessAt rfl rfl rfl (by decide +kernel) ⟨Nat.le_of_ble_eq_true rfl, Nat.le_of_ble_eq_true rfl⟩) (by omega) cW_o (ci := 4) rfl rfl rfl rfl hl.1 (Nat.le_of_ble_eq_true rfl) dX4_layer_104 ⟨Nat.zero_le _, Nat.zero_le _⟩ (fun H locs hG hS => ?_)
          exact g_iret hx hb hr hlocks hK hG hS rfl dX4_layer_107 ⟨(congrArg (fun z9 => some (Value.int z9)) (by simp only [y_tellL, c_29, c_38, c_52_0, c_52_1, eq_true c_52_2, if_true, if_false])), rfl⟩
        rcases hv with h9 | h9 | h9 <;> first | exact absurd h9 c_52_0 | exact absurd h9 c_52_1 | exact absurd h9 c_52_2
      · skip
        have c_38 : ¬ j < (sN (yS (cY C) k)) := fun h9 => c_38 ((nI_ltI (a := j) (b := sN (yS (cY C) k)) (by omega) (by omega)).mpr h9)
        exfalso; omega
  · skip
    exact absurd c_4 (by decide)
set_option maxHeartbeats 4000000 in
set_option maxRecDepth 100000 in
theorem k_X4_shipOf_ok (l : Launch) (D : va_G) (cy : Nat → ClassId) (N : Nat) (L : Nat → Nat) (F : Nat → va_E) (hN : 162 ≤ N) (C : CT) (j : Nat) (v : Int32) (hj : j < 6) (hv : v = 0 ∨ v = 1) : GM l D cy N L yX4_shipOf wsX4_shipOf ({ frames := 7, cells := 0, slots := 0, locals := 150 }) [.ref (L 0), .int (nI j), .int v] (cW cy L F C) (some (.int (y_tellH (cY C) j v))) (cW cy L F C) := by
  refine GM.ofW (cc := cX4_shipOf) (maxL := 3) (ret := (some .int)) (by decide) rfl (Nat.le_of_ble_eq_true rfl) ?_
  intro p e s m below meth c ls hx hb hr hts hown hlocks hml hK hA hG hS hl
  have hl : lv_has ls 3 [(0, .ref (L 0)), (1, .int (nI j)), (2, .int v)] := hl
  have hf10 := hts (.fieldLink RX4 10 "SiloPads" "now" "LSiloPads$Yard;") (by decide +kernel)
  have hinX4 : ∀ w ∈ u_ws RX4 TX4 8, w ∈ wsX4_shipOf := by decide +kernel
  have hf71 := hts (.fieldLink RX4 71 "SiloPads$Yard" "ships" "[LSiloPads$Ship;") (by decide +kernel)
  have hinX3 : ∀ w ∈ u_ws RX3 TX3 9, w ∈ wsX4_shipOf := by decide +kernel
  have hf78 := hts (.fieldLink RX4 78 "SiloPads$Ship" "hold" "I") (by decide +kernel)
  have hinX0 : ∀ w ∈ u_ws RX0 TX0 2, w ∈ wsX4_shipOf := by decide +kernel
  have hf75 := hts (.fieldLink RX4 75 "SiloPads$Ship" "tonnes" "I") (by decide +kernel)
  refine lv_iload_n hx hb dX4_shipOf_0 rfl (lv_at hl 1 rfl) ?_
  refine g_cSi (As := [.int (nI j)]) (rest := []) hx hb hml hown hts hK hA hG hS (k_X4_isNoShip l D cy N L _ (nI j) ) (g_cwS 1 hts gX4_shipOf_X4_isNoShip rfl rfl rfl (by decide +kernel) ⟨Nat.le_of_ble_eq_true rfl, Nat.le_of_ble_eq_true rfl⟩) rfl rfl hl.1 (Nat.le_of_ble_eq_true rfl) dX4_shipOf_1 ⟨Nat.zero_le _, Nat.zero_le _⟩ (fun H locs hG hS => ?_)
  refine lv_toI (y := 0) (c_noShip_j hj) ?_
  refine lv_if_eq (tgt := 17) hx hb dX4_shipOf_4 (by decide) (fun c_4 => ?_) (fun c_4 => ?_)
  · skip
    refine lv_iload_n hx hb dX4_shipOf_17 rfl (lv_at hl 2 rfl) ?_
    refine lv_if_eq (tgt := 36) hx hb dX4_shipOf_18 (by decide) (fun c_18 => ?_) (fun c_18 => ?_)
    · skip
      refine lv_iload_n hx hb dX4_shipOf_36 rfl (lv_at hl 2 rfl) ?_
      refine lv_if_ne (tgt := 55) hx hb dX4_shipOf_37 (by decide) (fun c_37 => ?_) (fun c_37 => ?_)
      · skip
        refine lv_aload_n hx hb dX4_shipOf_55 rfl (lv_at hl 0 rfl) ?_
        refine g_get (ci := 4) (C := RX4) (T := TX4) (M := 8) hx hb hts hinX4 hown hK hG (by omega) cW_o rfl 0 (by decide) hf10 rfl rfl dX4_shipOf_56 ?_
        refine g_get (ci := 3) (C := RX3) (T := TX3) (M := 9) hx hb hts hinX3 hown hK hG (by omega) cW_yo rfl 1 (by decide) hf71 rfl rfl dX4_shipOf_59 ?_
        refine lv_iload_n hx hb dX4_shipOf_62 rfl (lv_at hl 1 rfl) ?_
        refine g_aald (j := 1 + 16 + j) hx hb hK hG (by omega) cW_yh (t0 := 2) rfl (k := j) rfl (by omega) (by decide) rfl dX4_shipOf_63 ?_
        refine g_get (ci := 0) (C := RX0) (T := TX0) (M := 2) hx hb hts hinX0 hown hK hG (by omega) (cW_sh (j := j) (by omega)) rfl 1 (by decide) hf78 rfl rfl dX4_shipOf_64 ?_
        exact g_iret hx hb hr hlocks hK hG hS rfl dX4_shipOf_67 ⟨(congrArg (fun z9 => some (Value.int z9)) (by first | (simp only [y_tellH, eq_true c_18, c_37, if_true, if_false]; done) | (rcases hv with h9 | h9 <;> first | exact absurd h9 c_37 | exact absurd c_37 (by rw [h9]; decide) | (simp only [y_tellH, h9]; rfl)))), rfl⟩
      · skip
        refine lv_aload_n hx hb dX4_shipOf_40 rfl (lv_at hl 0 rfl) ?_
        refine g_get (ci := 4) (C := RX4) (T := TX4) (M := 8) hx hb hts hinX4 hown hK hG (by omega) cW_o rfl 0 (by decide) hf10 rfl rfl dX4_shipOf_41 ?_
        refine g_get (ci := 3) (C := RX3) (T := TX3) (M := 9) hx hb hts hinX3 hown hK hG (by omega) cW_yo rfl 1 (by decide) hf71 rfl rfl dX4_shipOf_44 ?_
        refine lv_iload_n hx hb dX4_shipOf_47 rfl (lv_at hl 1 rfl) ?_
        refine g_aald (j := 1 + 16 + j) hx hb hK hG (by omega) cW_yh (t0 := 2) rfl (k := j) rfl (by omega) (by decide) rfl dX4_shipOf_48 ?_
        refine g_get (ci := 0) (C := RX0) (T := TX0) (M := 2) hx hb hts hinX0 hown hK hG (by omega) (cW_sh (j := j) (by omega)) rfl 0 (by decide) hf75 rfl rfl dX4_shipOf_49 ?_
        refine lv_goto (tgt := 67) hx hb dX4_shipOf_52 (by decide) ?_
        exact g_iret hx hb hr hlocks hK hG hS rfl dX4_shipOf_67 ⟨(congrArg (fun z9 => some (Value.int z9)) (by first | (simp only [y_tellH, eq_true c_18, eq_true c_37, if_true, if_false]; done) | (rcases hv with h9 | h9 <;> first | exact absurd h9 c_37 | exact absurd c_37 (by rw [h9]; decide) | (simp only [y_tellH, h9]; rfl)))), rfl⟩
    · skip
      refine lv_iload_n hx hb dX4_shipOf_21 rfl (lv_at hl 2 rfl) ?_
      refine lv_iconst (v := 1) hx hb dX4_shipOf_22 (by decide) ?_
      refine lv_icmp_eq (tgt := 36) hx hb dX4_shipOf_23 (by decide) (fun c_23 => ?_) (fun c_23 => ?_)
      · skip
        refine lv_iload_n hx hb dX4_shipOf_36 rfl (lv_at hl 2 rfl) ?_
        refine lv_if_ne (tgt := 55) hx hb dX4_shipOf_37 (by decide) (fun c_37 => ?_) (fun c_37 => ?_)
        · skip
          refine lv_aload_n hx hb dX4_shipOf_55 rfl (lv_at hl 0 rfl) ?_
          refine g_get (ci := 4) (C := RX4) (T := TX4) (M := 8) hx hb hts hinX4 hown hK hG (by omega) cW_o rfl 0 (by decide) hf10 rfl rfl dX4_shipOf_56 ?_
          refine g_get (ci := 3) (C := RX3) (T := TX3) (M := 9) hx hb hts hinX3 hown hK hG (by omega) cW_yo rfl 1 (by decide) hf71 rfl rfl dX4_shipOf_59 ?_
          refine lv_iload_n hx hb dX4_shipOf_62 rfl (lv_at hl 1 rfl) ?_
          refine g_aald (j := 1 + 16 + j) hx hb hK hG (by omega) cW_yh (t0 := 2) rfl (k := j) rfl (by omega) (by decide) rfl dX4_shipOf_63 ?_
          refine g_get (ci := 0) (C := RX0) (T := TX0) (M := 2) hx hb hts hinX0 hown hK hG (by omega) (cW_sh (j := j) (by omega)) rfl 1 (by decide) hf78 rfl rfl dX4_shipOf_64 ?_
          exact g_iret hx hb hr hlocks hK hG hS rfl dX4_shipOf_67 ⟨(congrArg (fun z9 => some (Value.int z9)) (by first | (simp only [y_tellH, c_18, eq_true c_23, c_37, if_true, if_false]; done) | (rcases hv with h9 | h9 <;> first | exact absurd h9 c_37 | exact absurd c_37 (by rw [h9]; decide) | (simp only [y_tellH, h9]; rfl)))), rfl⟩
        · skip
          refine lv_aload_n hx hb dX4_shipOf_40 rfl (lv_at hl 0 rfl) ?_
          refine g_get (ci := 4) (C := RX4) (T := TX4) (M := 8) hx hb hts hinX4 hown hK hG (by omega) cW_o rfl 0 (by decide) hf10 rfl rfl dX4_shipOf_41 ?_
          refine g_get (ci := 3) (C := RX3) (T := TX3) (M := 9) hx hb hts hinX3 hown hK hG (by omega) cW_yo rfl 1 (by decide) hf71 rfl rfl dX4_shipOf_44 ?_
          refine lv_iload_n hx hb dX4_shipOf_47 rfl (lv_at hl 1 rfl) ?_
          refine g_aald (j := 1 + 16 + j) hx hb hK hG (by omega) cW_yh (t0 := 2) rfl (k := j) rfl (by omega) (by decide) rfl dX4_shipOf_48 ?_
          refine g_get (ci := 0) (C := RX0) (T := TX0) (M := 2) hx hb hts hinX0 hown hK hG (by omega) (cW_sh (j := j) (by omega)) rfl 0 (by decide) hf75 rfl rfl dX4_shipOf_49 ?_
          refine lv_goto (tgt := 67) hx hb dX4_shipOf_52 (by decide) ?_
          exact g_iret hx hb hr hlocks hK hG hS rfl dX4_shipOf_67 ⟨(congrArg (fun z9 => some (Value.int z9)) (by first | (simp only [y_tellH, c_18, eq_true c_23, eq_true c_37, if_true, if_false]; done) | (rcases hv with h9 | h9 <;> first | exact absurd h9 c_37 | exact absurd c_37 (by rw [h9]; decide) | (simp only [y_tellH, h9]; rfl)))), rfl⟩
      · skip
        rcases hv with h9 | h9 <;> first | exact absurd h9 c_18 | exact absurd h9 c_23
  · skip
    exact absurd c_4 (by decide)
set_option maxHeartbeats 4000000 in
set_option maxRecDepth 100000 in
theorem k_X4_whyNot_ok (l : Launch) (D : va_G) (cy : Nat → ClassId) (N : Nat) (L : Nat → Nat) (F : Nat → va_E) (hN : 162 ≤ N) (C : CT) (k j : Nat) (hy : wfY (cY C)) (hk : k < 4) (hj : j < 6) : GM l D cy N L yX4_whyNot wsX4_whyNot ({ frames := 7, cells := 0, slots := 0, locals := 150 }) [.ref (L 0), .int (nI k), .int (nI j)] (cW cy L F C) (some (.int (y_why (cY C) k j))) (cW cy L F C) := by
  refine GM.ofW (cc := cX4_whyNot) (maxL := 4) (ret := (some .int)) (by decide) rfl (Nat.le_of_ble_eq_true rfl) ?_
  intro p e s m below meth c ls hx hb hr hts hown hlocks hml hK hA hG hS hl
  have hl : lv_has ls 4 [(0, .ref (L 0)), (1, .int (nI k)), (2, .int (nI j))] := hl
  have hf10 := hts (.fieldLink RX4 10 "SiloPads" "now" "LSiloPads$Yard;") (by decide +kernel)
  have hinX4 : ∀ w ∈ u_ws RX4 TX4 8, w ∈ wsX4_whyNot := by decide +kernel
  have hf94 := hts (.fieldLink RX4 94 "SiloPads$Yard" "silos" "[LSiloPads$Silo;") (by decide +kernel)
  have hinX3 : ∀ w ∈ u_ws RX3 TX3 9, w ∈ wsX4_whyNot := by decide +kernel
  have hf125 := hts (.fieldLink RX4 125 "SiloPads$Silo" "layers" "I") (by decide +kernel)
  have hinX1 : ∀ w ∈ u_ws RX1 TX1 6, w ∈ wsX4_whyNot := by decide +kernel
  have hf141 := hts (.fieldLink RX4 141 "SiloPads$Silo" "arch" "I") (by decide +kernel)
  have hf71 := hts (.fieldLink RX4 71 "SiloPads$Yard" "ships" "[LSiloPads$Ship;") (by decide +kernel)
  have hf111 := hts (.fieldLink RX4 111 "SiloPads$Silo" "padsOn" "I") (by decide +kernel)
  have hn10 := hy k hk
  refine lv_iload_n hx hb dX4_whyNot_0 rfl (lv_at hl 1 rfl) ?_
  refine g_cSi (As := [.int (nI k)]) (rest := []) hx hb hml hown hts hK hA hG hS (k_X4_isNoSilo l D cy N L _ (nI k) ) (g_cwS 1 hts gX4_whyNot_X4_isNoSilo rfl rfl rfl (by decide +kernel) ⟨Nat.le_of_ble_eq_true rfl, Nat.le_of_ble_eq_true rfl⟩) rfl rfl hl.1 (Nat.le_of_ble_eq_true rfl) dX4_whyNot_1 ⟨Nat.zero_le _, Nat.zero_le _⟩ (fun H locs hG hS => ?_)
  refine lv_toI (y := 0) (c_noSilo_k hk) ?_
  refine lv_if_ne (tgt := 14) hx hb dX4_whyNot_4 (by decide) (fun c_4 => ?_) (fun c_4 => ?_)
  · skip
    exact absurd c_4 (by decide)
  · skip
    refine lv_iload_n hx hb dX4_whyNot_7 rfl (lv_at hl 2 rfl) ?_
    refine g_cSi (As := [.int (nI j)]) (rest := []) hx hb hml hown hts hK hA hG hS (k_X4_isNoShip l D cy N L _ (nI j) ) (g_cwS 1 hts gX4_whyNot_X4_isNoShip rfl rfl rfl (by decide +kernel) ⟨Nat.le_of_ble_eq_true rfl, Nat.le_of_ble_eq_true rfl⟩) rfl rfl hl.1 (Nat.le_of_ble_eq_true rfl) dX4_whyNot_8 ⟨Nat.zero_le _, Nat.zero_le _⟩ (fun H locs hG hS => ?_)
    refine lv_toI (y := 0) (c_noShip_j hj) ?_
    refine lv_if_eq (tgt := 24) hx hb dX4_whyNot_11 (by decide) (fun c_11 => ?_) (fun c_11 => ?_)
    · skip
      refine lv_aload_n hx hb dX4_whyNot_24 rfl (lv_at hl 0 rfl) ?_
      refine g_get (ci := 4) (C := RX4) (T := TX4) (M := 8) hx hb hts hinX4 hown hK hG (by omega) cW_o rfl 0 (by decide) hf10 rfl rfl dX4_whyNot_25 ?_
      refine g_get (ci := 3) (C := RX3) (T := TX3) (M := 9) hx hb hts hinX3 hown hK hG (by omega) cW_yo rfl 0 (by decide) hf94 rfl rfl dX4_whyNot_28 ?_
      refine lv_iload_n hx hb dX4_whyNot_31 rfl (lv_at hl 1 rfl) ?_
      refine g_aald (j := 1 + 4 + 3 * k) hx hb hK hG (by omega) cW_ys (t0 := 1) rfl (k := k) rfl (by omega) (by decide) rfl dX4_whyNot_32 ?_
      refine lv_astore_n (lv' := [(3, .ref (L (1 + 4 + 3 * k))), (0, .ref (L 0)), (1, .int (nI k)), (2, .int (nI j))]) hx hb dX4_whyNot_33 rfl hl (by decide) rfl (fun ls hl => ?_)
      refine lv_aload_n hx hb dX4_whyNot_34 rfl (lv_at hl 0 rfl) ?_
      refine g_get (ci := 1) (C := RX1) (T := TX1) (M := 6) hx hb hts hinX1 hown hK hG (by omega) (cW_so (k := k) (by omega)) rfl 2 (by decide) hf125 rfl rfl dX4_whyNot_35 ?_
      refine lv_if_ne (tgt := 43) hx hb dX4_whyNot_38 (by decide) (fun c_38 => ?_) (fun c_38 => ?_)
      · skip
        have c_38 : ¬ (sN (yS (cY C) k)) = 0 := fun h9 => c_38 ((nI_eq (a := sN (yS (cY C) k)) (b := 0) (by omega) (by omega)).mpr h9)
        refine lv_aload_n hx hb dX4_whyNot_43 rfl (lv_at hl 0 rfl) ?_
        refine g_get (ci := 1) (C := RX1) (T := TX1) (M := 6) hx hb hts hinX1 hown hK hG (by omega) (cW_so (k := k) (by omega)) rfl 4 (by decide) hf141 rfl rfl dX4_whyNot_44 ?_
        refine lv_iconst (v := 2) hx hb dX4_whyNot_47 (by decide) ?_
        refine lv_icmp_ne (tgt := 53) hx hb dX4_whyNot_48 (by decide) (fun c_48 => ?_) (fun c_48 => ?_)
        · skip
          refine lv_aload_n hx hb dX4_whyNot_53 rfl (lv_at hl 1 rfl) ?_
          refine g_get (ci := 4) (C := RX4) (T := TX4) (M := 8) hx hb hts hinX4 hown hK hG (by omega) cW_o rfl 0 (by decide) hf10 rfl rfl dX4_whyNot_54 ?_
          refine g_get (ci := 3) (C := RX3) (T := TX3) (M := 9) hx hb hts hinX3 hown hK hG (by omega) cW_yo rfl 1 (by decide) hf71 rfl rfl dX4_whyNot_57 ?_
          refine lv_iload_n hx hb dX4_whyNot_60 rfl (lv_at hl 3 rfl) ?_
          refine g_aald (j := 1 + 16 + j) hx hb hK hG (by omega) cW_yh (t0 := 2) rfl (k := j) rfl (by omega) (by decide) rfl dX4_whyNot_61 ?_
          have hG : GW D N L (gA N L s.heap.size) (hW (cW cy L F C) (1 + 16 + j) (yH (cY C) j)) _ := hG.to (by rw [cW_H0 (j := j) (by omega)])
          refine g_cVi (As := []) (rest := []) hx hb hml hown hts hK hA hG hS (k_X0_room l D cy N L _ (1 + 16 + j) (yH (cY C) j)  (by omega)  ) (cwV 0 hts gX4_whyNot_X0_room rfl rfl rfl (by decide +kernel) ⟨Nat.le_of_ble_eq_true rfl, Nat.le_of_ble_eq_true rfl⟩) (by omega) hW_o (ci := 0) rfl rfl rfl rfl hl.1 (Nat.le_of_ble_eq_true rfl) dX4_whyNot_62 ⟨Nat.zero_le _, Nat.zero_le _⟩ (fun H locs hG hS => ?_)
          have hG : GW D N L (gA N L s.heap.size) (cW cy L F C) _ := hG.to (by rw [cW_H0 (j := j) (by omega)] <;> rfl)
          refine lv_if_ne (tgt := 70) hx hb dX4_whyNot_65 (by decide) (fun c_65 => ?_) (fun c_65 => ?_)
          · skip
            refine lv_aload_n hx hb dX4_whyNot_70 rfl (lv_at hl 1 rfl) ?_
            refine lv_aload_n hx hb dX4_whyNot_71 rfl (lv_at hl 0 rfl) ?_
            refine lv_aload_n hx hb dX4_whyNot_72 rfl (lv_at hl 0 rfl) ?_
            refine g_get (ci := 1) (C := RX1) (T := TX1) (M := 6) hx hb hts hinX1 hown hK hG (by omega) (cW_so (k := k) (by omega)) rfl 3 (by decide) hf111 rfl rfl dX4_whyNot_73 ?_
            have hG : GW D N L (gA N L s.heap.size) (sW cy L (cW cy L F C) (1 + 4 + 3 * k) (yS (cY C) k)) _ := hG.to (by rw [cW_S0 (k := k) (by omega)])
            refine g_cVi (As := [.ref (L (1 + 4 + 3 * k)), .int (sP (yS (cY C) k))]) (rest := []) hx hb hml hown hts hK hA hG hS (k_X4_outInHour l D cy N L _ (1 + 4 + 3 * k) (yS (cY C) k)  (yZ (cY C)) (by omega) (by omega) (cE_cW (F := F) (c := C)) (sP (yS (cY C) k)) (hy k hk)) (cwV 2 hts gX4_whyNot_X4_outInHour rfl rfl rfl (by decide +kernel) ⟨Nat.le_of_ble_eq_true rfl, Nat.le_of_ble_eq_true rfl⟩) (by omega) (by rw [sW_n (by omega)]; exact cW_o) (ci := 4) rfl rfl rfl rfl hl.1 (Nat.le_of_ble_eq_true rfl) dX4_whyNot_76 ⟨Nat.zero_le _, Nat.zero_le _⟩ (fun H locs hG hS => ?_)
            have hG : GW D N L (gA N L s.heap.size) (cW cy L F C) _ := hG.to (by rw [cW_S0 (k := k) (by omega)] <;> rfl)
            refine lv_if_ne (tgt := 86) hx hb dX4_whyNot_79 (by decide) (fun c_79 => ?_) (fun c_79 => ?_)
            · skip
              refine lv_iconst (v := 0) hx hb dX4_whyNot_86 (by decide) ?_
              exact g_iret hx hb hr hlocks hK hG hS rfl dX4_whyNot_87 ⟨(congrArg (fun z9 => some (Value.int z9)) (by simp only [y_why, c_38, c_48, c_65, c_79, if_true, if_false])), rfl⟩
            · skip
              refine lv_iconst (v := 4) hx hb dX4_whyNot_82 (by decide) ?_
              refine lv_goto (tgt := 87) hx hb dX4_whyNot_83 (by decide) ?_
              exact g_iret hx hb hr hlocks hK hG hS rfl dX4_whyNot_87 ⟨(congrArg (fun z9 => some (Value.int z9)) (by simp only [y_why, c_38, c_48, c_65, eq_true c_79, if_true, if_false])), rfl⟩
          · skip
            refine lv_iconst (v := 3) hx hb dX4_whyNot_68 (by decide) ?_
            exact g_iret hx hb hr hlocks hK hG hS rfl dX4_whyNot_69 ⟨(congrArg (fun z9 => some (Value.int z9)) (by simp only [y_why, c_38, c_48, eq_true c_65, if_true, if_false])), rfl⟩
        · skip
          refine lv_iconst (v := 2) hx hb dX4_whyNot_51 (by decide) ?_
          exact g_iret hx hb hr hlocks hK hG hS rfl dX4_whyNot_52 ⟨(congrArg (fun z9 => some (Value.int z9)) (by simp only [y_why, c_38, eq_true c_48, if_true, if_false])), rfl⟩
      · skip
        have c_38 : (sN (yS (cY C) k)) = 0 := (nI_eq (a := sN (yS (cY C) k)) (b := 0) (by omega) (by omega)).mp c_38
        refine lv_iconst (v := 1) hx hb dX4_whyNot_41 (by decide) ?_
        exact g_iret hx hb hr hlocks hK hG hS rfl dX4_whyNot_42 ⟨(congrArg (fun z9 => some (Value.int z9)) (by simp only [y_why, eq_true c_38, if_true, if_false])), rfl⟩
    · skip
      exact absurd c_11 (by decide)
set_option maxHeartbeats 4000000 in
set_option maxRecDepth 100000 in
theorem k_X4_shakesNeeded_ok (l : Launch) (D : va_G) (cy : Nat → ClassId) (N : Nat) (L : Nat → Nat) (F : Nat → va_E) (hN : 162 ≤ N) (C : CT) (k : Nat) (hy : wfY (cY C)) (hk : k < 4) (hn1 : 1 ≤ sN (yS (cY C) k) ∨ sC (yS (cY C) k) = 2 ∨ sC (yS (cY C) k) = 0) : GM l D cy N L yX4_shakesNeeded wsX4_shakesNeeded ({ frames := 7, cells := 0, slots := 0, locals := 150 }) [.ref (L 0), .int (nI k)] (cW cy L F C) (some (.int (c_brk (yZ (cY C)) (yS (cY C) k)))) (cW cy L F C) := by
  refine GM.ofW (cc := cX4_shakesNeeded) (maxL := 2) (ret := (some .int)) (by decide) rfl (Nat.le_of_ble_eq_true rfl) ?_
  intro p e s m below meth c ls hx hb hr hts hown hlocks hml hK hA hG hS hl
  have hl : lv_has ls 2 [(0, .ref (L 0)), (1, .int (nI k))] := hl
  have hf10 := hts (.fieldLink RX4 10 "SiloPads" "now" "LSiloPads$Yard;") (by decide +kernel)
  have hinX4 : ∀ w ∈ u_ws RX4 TX4 8, w ∈ wsX4_shakesNeeded := by decide +kernel
  have hf94 := hts (.fieldLink RX4 94 "SiloPads$Yard" "silos" "[LSiloPads$Silo;") (by decide +kernel)
  have hinX3 : ∀ w ∈ u_ws RX3 TX3 9, w ∈ wsX4_shakesNeeded := by decide +kernel
  refine lv_iload_n hx hb dX4_shakesNeeded_0 rfl (lv_at hl 1 rfl) ?_
  refine g_cSi (As := [.int (nI k)]) (rest := []) hx hb hml hown hts hK hA hG hS (k_X4_isNoSilo l D cy N L _ (nI k) ) (g_cwS 1 hts gX4_shakesNeeded_X4_isNoSilo rfl rfl rfl (by decide +kernel) ⟨Nat.le_of_ble_eq_true rfl, Nat.le_of_ble_eq_true rfl⟩) rfl rfl hl.1 (Nat.le_of_ble_eq_true rfl) dX4_shakesNeeded_1 ⟨Nat.zero_le _, Nat.zero_le _⟩ (fun H locs hG hS => ?_)
  refine lv_toI (y := 0) (c_noSilo_k hk) ?_
  refine lv_if_eq (tgt := 17) hx hb dX4_shakesNeeded_4 (by decide) (fun c_4 => ?_) (fun c_4 => ?_)
  · skip
    refine lv_aload_n hx hb dX4_shakesNeeded_17 rfl (lv_at hl 0 rfl) ?_
    refine lv_aload_n hx hb dX4_shakesNeeded_18 rfl (lv_at hl 0 rfl) ?_
    refine g_get (ci := 4) (C := RX4) (T := TX4) (M := 8) hx hb hts hinX4 hown hK hG (by omega) cW_o rfl 0 (by decide) hf10 rfl rfl dX4_shakesNeeded_19 ?_
    refine g_get (ci := 3) (C := RX3) (T := TX3) (M := 9) hx hb hts hinX3 hown hK hG (by omega) cW_yo rfl 0 (by decide) hf94 rfl rfl dX4_shakesNeeded_22 ?_
    refine lv_iload_n hx hb dX4_shakesNeeded_25 rfl (lv_at hl 1 rfl) ?_
    refine g_aald (j := 1 + 4 + 3 * k) hx hb hK hG (by omega) cW_ys (t0 := 1) rfl (k := k) rfl (by omega) (by decide) rfl dX4_shakesNeeded_26 ?_
    have hG : GW D N L (gA N L s.heap.size) (sW cy L (cW cy L F C) (1 + 4 + 3 * k) (yS (cY C) k)) _ := hG.to (by rw [cW_S0 (k := k) (by omega)])
    refine g_cVi (As := [.ref (L (1 + 4 + 3 * k))]) (rest := []) hx hb hml hown hts hK hA hG hS (k_X4_shakesToBreak l D cy N L _ (1 + 4 + 3 * k) (yS (cY C) k)  (yZ (cY C)) (by omega) (by omega) (cE_cW (F := F) (c := C))  (hy k hk) (hn1)) (cwV 1 hts gX4_shakesNeeded_X4_shakesToBreak rfl rfl rfl (by decide +kernel) ⟨Nat.le_of_ble_eq_true rfl, Nat.le_of_ble_eq_true rfl⟩) (by omega) (by rw [sW_n (by omega)]; exact cW_o) (ci := 4) rfl rfl rfl rfl hl.1 (Nat.le_of_ble_eq_true rfl) dX4_shakesNeeded_27 ⟨Nat.zero_le _, Nat.zero_le _⟩ (fun H locs hG hS => ?_)
    have hG : GW D N L (gA N L s.heap.size) (cW cy L F C) _ := hG.to (by rw [cW_S0 (k := k) (by omega)] <;> rfl)
    exact g_iret hx hb hr hlocks hK hG hS rfl dX4_shakesNeeded_30 ⟨rfl, rfl⟩
  · skip
    exact absurd c_4 (by decide)
