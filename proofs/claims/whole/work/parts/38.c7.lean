set_option maxHeartbeats 4000000 in
set_option maxRecDepth 100000 in
theorem k_X4_ifFlowed_ok (l : Launch) (D : va_G) (cy : Nat → ClassId) (N : Nat) (L : Nat → Nat) (F : Nat → va_E) (hN : 162 ≤ N) (C : CT) (k j q : Nat) (u : Int32) (hy : wfY (cY C)) (hk : k < 4) (hj : j < 6) (h1 : 1 ≤ q) (h2 : q ≤ 24) (hu1 : ¬ u < 0) (hu2 : u ≤ 4) : GM l D cy N L yX4_ifFlowed wsX4_ifFlowed ({ frames := 7, cells := 0, slots := 0, locals := 150 }) [.ref (L 0), .int (nI k), .int (nI j), .int (nI q), .int u] (cW cy L F C) (some (.int (c_ifR C k j q u))) (cW cy L F (c_ifS C k j q u)) := by
  refine GM.ofW (cc := cX4_ifFlowed) (maxL := 5) (ret := (some .int)) (by decide) rfl (Nat.le_of_ble_eq_true rfl) ?_
  intro p e s m below meth c ls hx hb hr hts hown hlocks hml hK hA hG hS hl
  have hl : lv_has ls 5 [(0, .ref (L 0)), (1, .int (nI k)), (2, .int (nI j)), (3, .int (nI q)), (4, .int u)] := hl
  have hf41 := hts (.fieldLink RX4 41 "SiloPads" "trialSilo" "LSiloPads$Silo;") (by decide +kernel)
  have hinX4 : ∀ w ∈ u_ws RX4 TX4 8, w ∈ wsX4_ifFlowed := by decide +kernel
  have hf10 := hts (.fieldLink RX4 10 "SiloPads" "now" "LSiloPads$Yard;") (by decide +kernel)
  have hf94 := hts (.fieldLink RX4 94 "SiloPads$Yard" "silos" "[LSiloPads$Silo;") (by decide +kernel)
  have hinX3 : ∀ w ∈ u_ws RX3 TX3 9, w ∈ wsX4_ifFlowed := by decide +kernel
  have hf111 := hts (.fieldLink RX4 111 "SiloPads$Silo" "padsOn" "I") (by decide +kernel)
  have hinX1 : ∀ w ∈ u_ws RX1 TX1 6, w ∈ wsX4_ifFlowed := by decide +kernel
  have hf48 := hts (.fieldLink RX4 48 "SiloPads" "trialShip" "LSiloPads$Ship;") (by decide +kernel)
  have hf71 := hts (.fieldLink RX4 71 "SiloPads$Yard" "ships" "[LSiloPads$Ship;") (by decide +kernel)
  refine lv_iload_n hx hb dX4_ifFlowed_0 rfl (lv_at hl 1 rfl) ?_
  refine g_cSi (As := [.int (nI k)]) (rest := []) hx hb hml hown hts hK hA hG hS (k_X4_isNoSilo l D cy N L _ (nI k) ) (g_cwS 1 hts gX4_ifFlowed_X4_isNoSilo rfl rfl rfl (by decide +kernel) ⟨Nat.le_of_ble_eq_true rfl, Nat.le_of_ble_eq_true rfl⟩) rfl rfl hl.1 (Nat.le_of_ble_eq_true rfl) dX4_ifFlowed_1 ⟨Nat.zero_le _, Nat.zero_le _⟩ (fun H locs hG hS => ?_)
  refine lv_toI (y := 0) (c_noSilo_k hk) ?_
  refine lv_if_ne (tgt := 14) hx hb dX4_ifFlowed_4 (by decide) (fun c_4 => ?_) (fun c_4 => ?_)
  · skip
    exact absurd c_4 (by decide)
  · skip
    refine lv_iload_n hx hb dX4_ifFlowed_7 rfl (lv_at hl 2 rfl) ?_
    refine g_cSi (As := [.int (nI j)]) (rest := []) hx hb hml hown hts hK hA hG hS (k_X4_isNoShip l D cy N L _ (nI j) ) (g_cwS 1 hts gX4_ifFlowed_X4_isNoShip rfl rfl rfl (by decide +kernel) ⟨Nat.le_of_ble_eq_true rfl, Nat.le_of_ble_eq_true rfl⟩) rfl rfl hl.1 (Nat.le_of_ble_eq_true rfl) dX4_ifFlowed_8 ⟨Nat.zero_le _, Nat.zero_le _⟩ (fun H locs hG hS => ?_)
    refine lv_toI (y := 0) (c_noShip_j hj) ?_
    refine lv_if_eq (tgt := 24) hx hb dX4_ifFlowed_11 (by decide) (fun c_11 => ?_) (fun c_11 => ?_)
    · skip
      refine lv_iload_n hx hb dX4_ifFlowed_24 rfl (lv_at hl 3 rfl) ?_
      refine lv_iconst (v := 1) hx hb dX4_ifFlowed_25 (by decide) ?_
      refine lv_icmp_lt (tgt := 46) hx hb dX4_ifFlowed_26 (by decide) (fun c_26 => ?_) (fun c_26 => ?_)
      · skip
        have c_26 : q < 1 := (nI_ltI (a := q) (b := 1) (by omega) (by omega)).mp c_26
        exfalso; omega
      · skip
        have c_26 : ¬ q < 1 := fun h9 => c_26 ((nI_ltI (a := q) (b := 1) (by omega) (by omega)).mpr h9)
        refine lv_iload_n hx hb dX4_ifFlowed_29 rfl (lv_at hl 3 rfl) ?_
        refine lv_bipush (v := 24) hx hb dX4_ifFlowed_30 (by decide) ?_
        refine lv_icmp_gt (tgt := 46) hx hb dX4_ifFlowed_32 (by decide) (fun c_32 => ?_) (fun c_32 => ?_)
        · skip
          have c_32 : 24 < q := (nI_ltI (a := 24) (b := q) (by omega) (by omega)).mp c_32
          exfalso; omega
        · skip
          have c_32 : ¬ 24 < q := fun h9 => c_32 ((nI_ltI (a := 24) (b := q) (by omega) (by omega)).mpr h9)
          refine lv_iload hx hb dX4_ifFlowed_35 (lv_at hl 4 rfl) ?_
          refine lv_if_lt (tgt := 46) hx hb dX4_ifFlowed_37 (by decide) (fun c_37 => ?_) (fun c_37 => ?_)
          · skip
            exact absurd c_37 hu1
          · skip
            refine lv_iload hx hb dX4_ifFlowed_40 (lv_at hl 4 rfl) ?_
            refine lv_iconst (v := 4) hx hb dX4_ifFlowed_42 (by decide) ?_
            refine lv_icmp_le (tgt := 56) hx hb dX4_ifFlowed_43 (by decide) (fun c_43 => ?_) (fun c_43 => ?_)
            · skip
              refine lv_aload_n hx hb dX4_ifFlowed_56 rfl (lv_at hl 0 rfl) ?_
              refine g_get (ci := 4) (C := RX4) (T := TX4) (M := 8) hx hb hts hinX4 hown hK hG (by omega) cW_o rfl 6 (by decide) hf41 rfl rfl dX4_ifFlowed_57 ?_
              refine lv_aload_n hx hb dX4_ifFlowed_60 rfl (lv_at hl 0 rfl) ?_
              refine g_get (ci := 4) (C := RX4) (T := TX4) (M := 8) hx hb hts hinX4 hown hK hG (by omega) cW_o rfl 0 (by decide) hf10 rfl rfl dX4_ifFlowed_61 ?_
              refine g_get (ci := 3) (C := RX3) (T := TX3) (M := 9) hx hb hts hinX3 hown hK hG (by omega) cW_yo rfl 0 (by decide) hf94 rfl rfl dX4_ifFlowed_64 ?_
              refine lv_iload_n hx hb dX4_ifFlowed_67 rfl (lv_at hl 1 rfl) ?_
              refine g_aald (j := 1 + 4 + 3 * k) hx hb hK hG (by omega) cW_ys (t0 := 1) rfl (k := k) rfl (by omega) (by decide) rfl dX4_ifFlowed_68 ?_
              have hG : GW D N L (gA N L s.heap.size) (sW cy L (sW cy L (cW cy L F C) (1 + 4 + 3 * k) (yS (cY C) k)) (26) (cT C)) _ := hG.to (by rw [cW_S0 (k := k) (by omega), cW_T0 ])
              refine g_cVv (As := [.ref (L (1 + 4 + 3 * k))]) (rest := []) hx hb hml hown hts hK hA hG hS (k_X1_becomeLike l D cy N L _ (1 + 4 + 3 * k) (yS (cY C) k) 26 (cT C)  (by omega) (by omega) (by omega)  ) (cwV 1 hts gX4_ifFlowed_X1_becomeLike rfl rfl rfl (by decide +kernel) ⟨Nat.le_of_ble_eq_true rfl, Nat.le_of_ble_eq_true rfl⟩) (by omega) sW_o (ci := 1) rfl rfl rfl rfl hl.1 (Nat.le_of_ble_eq_true rfl) dX4_ifFlowed_69 ⟨Nat.zero_le _, Nat.zero_le _⟩ (fun H locs hG hS => ?_)
              have hG : GW D N L (gA N L s.heap.size) (cW cy L F (cY C, cV C, cM C, cQ C, cB C, cL C, cR C, (cpN (sT (cT C)) (sT (yS (cY C) k)) (0) (0) 10, cpN (sA (cT C)) (sA (yS (cY C) k)) (0) (0) 10, sN (yS (cY C) k), sP (yS (cY C) k), sC (yS (cY C) k), sK (yS (cY C) k)), cU C)) _ := hG.to (by rw [cW_S0 (k := k) (by omega), cW_T ] <;> rfl)
              have hG : GW D N L _ (cW cy L F (cY C, cV C, cM C, cQ C, cB C, cL C, cR C, s_like (cT C) (yS (cY C) k), cU C)) _ := hG.to (rfl)
              refine lv_aload_n hx hb dX4_ifFlowed_72 rfl (lv_at hl 0 rfl) ?_
              refine g_get (ci := 4) (C := RX4) (T := TX4) (M := 8) hx hb hts hinX4 hown hK hG (by omega) cW_o rfl 6 (by decide) hf41 rfl rfl dX4_ifFlowed_73 ?_
              refine lv_iload hx hb dX4_ifFlowed_76 (lv_at hl 4 rfl) ?_
              refine g_put (ci := 1) (C := RX1) (T := TX1) (M := 6) (ty := .int) hx hb hts hinX1 tyX1 tyX1_ok nmX1 hown hK hG hS (by omega) cW_to rfl 3 (by decide) hf111 rfl rfl rfl rfl rfl (Nat.le_of_ble_eq_true rfl) dX4_ifFlowed_78 rfl (fun H locs hG hS => ?_)
              have hG : GW D N L (gA N L s.heap.size) (cW cy L F (cY C, cV C, cM C, cQ C, cB C, cL C, cR C, (sT (s_like (cT C) (yS (cY C) k)), sA (s_like (cT C) (yS (cY C) k)), sN (s_like (cT C) (yS (cY C) k)), u, sC (s_like (cT C) (yS (cY C) k)), sK (s_like (cT C) (yS (cY C) k))), cU C)) _ := hG.to cW_uto
              have hG : GW D N L _ (cW cy L F (cY C, cV C, cM C, cQ C, cB C, cL C, cR C, c_tr C k u, cU C)) _ := hG.to (rfl)
              refine lv_aload_n hx hb dX4_ifFlowed_81 rfl (lv_at hl 0 rfl) ?_
              refine g_get (ci := 4) (C := RX4) (T := TX4) (M := 8) hx hb hts hinX4 hown hK hG (by omega) cW_o rfl 7 (by decide) hf48 rfl rfl dX4_ifFlowed_82 ?_
              refine lv_aload_n hx hb dX4_ifFlowed_85 rfl (lv_at hl 0 rfl) ?_
              refine g_get (ci := 4) (C := RX4) (T := TX4) (M := 8) hx hb hts hinX4 hown hK hG (by omega) cW_o rfl 0 (by decide) hf10 rfl rfl dX4_ifFlowed_86 ?_
              refine g_get (ci := 3) (C := RX3) (T := TX3) (M := 9) hx hb hts hinX3 hown hK hG (by omega) cW_yo rfl 1 (by decide) hf71 rfl rfl dX4_ifFlowed_89 ?_
              refine lv_iload_n hx hb dX4_ifFlowed_92 rfl (lv_at hl 2 rfl) ?_
              refine g_aald (j := 1 + 16 + j) hx hb hK hG (by omega) cW_yh (t0 := 2) rfl (k := j) rfl (by omega) (by decide) rfl dX4_ifFlowed_93 ?_
              have hG : GW D N L (gA N L s.heap.size) (hW (hW (cW cy L F (cY C, cV C, cM C, cQ C, cB C, cL C, cR C, c_tr C k u, cU C)) (1 + 16 + j) (yH (cY C) j)) (29) (cU C)) _ := hG.to (by rw [cW_H0 (j := j) (by omega), cW_U0 ])
              refine g_cVv (As := [.ref (L (1 + 16 + j))]) (rest := []) hx hb hml hown hts hK hA hG hS (k_X0_becomeLike l D cy N L _ (1 + 16 + j) (yH (cY C) j) 29 (cU C)  (by omega) (by omega) (by omega)  ) (cwV 1 hts gX4_ifFlowed_X0_becomeLike rfl rfl rfl (by decide +kernel) ⟨Nat.le_of_ble_eq_true rfl, Nat.le_of_ble_eq_true rfl⟩) (by omega) hW_o (ci := 0) rfl rfl rfl rfl hl.1 (Nat.le_of_ble_eq_true rfl) dX4_ifFlowed_94 ⟨Nat.zero_le _, Nat.zero_le _⟩ (fun H locs hG hS => ?_)
              have hG : GW D N L (gA N L s.heap.size) (cW cy L F (cY C, cV C, cM C, cQ C, cB C, cL C, cR C, c_tr C k u, (hT (yH (cY C) j), hH (yH (cY C) j)))) _ := hG.to (by rw [cW_H0 (j := j) (by omega), cW_U ] <;> rfl)
              have hG : GW D N L _ (cW cy L F (cY C, cV C, cM C, cQ C, cB C, cL C, cR C, c_tr C k u, c_tu C j)) _ := hG.to (rfl)
              refine lv_aload_n hx hb dX4_ifFlowed_97 rfl (lv_at hl 0 rfl) ?_
              refine lv_aload_n hx hb dX4_ifFlowed_98 rfl (lv_at hl 0 rfl) ?_
              refine g_get (ci := 4) (C := RX4) (T := TX4) (M := 8) hx hb hts hinX4 hown hK hG (by omega) cW_o rfl 6 (by decide) hf41 rfl rfl dX4_ifFlowed_99 ?_
              refine lv_aload_n hx hb dX4_ifFlowed_102 rfl (lv_at hl 0 rfl) ?_
              refine g_get (ci := 4) (C := RX4) (T := TX4) (M := 8) hx hb hts hinX4 hown hK hG (by omega) cW_o rfl 7 (by decide) hf48 rfl rfl dX4_ifFlowed_103 ?_
              refine lv_iload_n hx hb dX4_ifFlowed_106 rfl (lv_at hl 3 rfl) ?_
              have hG : GW D N L (gA N L s.heap.size) (hW (sW cy L (cW cy L F (cY C, cV C, cM C, cQ C, cB C, cL C, cR C, c_tr C k u, c_tu C j)) (26) (c_tr C k u)) (29) (c_tu C j)) _ := hG.to (by rw [cW_T0 , cW_U0 ])
              refine g_cVi (As := [.ref (L 26), .ref (L 29), .int (nI q)]) (rest := []) hx hb hml hown hts hK hA hG hS (k_X4_pour l D cy N L _ 26 (c_tr C k u) 29 (c_tu C j)  (yZ (cY C)) (by omega) (by omega) (by omega) (by omega) (by omega) (cE_cW (F := F) (c := (cY C, cV C, cM C, cQ C, cB C, cL C, cR C, c_tr C k u, c_tu C j))) q (hy k hk) (by omega)) (cwV 3 hts gX4_ifFlowed_X4_pour rfl rfl rfl (by decide +kernel) ⟨Nat.le_of_ble_eq_true rfl, Nat.le_of_ble_eq_true rfl⟩) (by omega) (by rw [hW_n (by omega), sW_n (by omega)]; exact cW_o) (ci := 4) rfl rfl rfl rfl hl.1 (Nat.le_of_ble_eq_true rfl) dX4_ifFlowed_107 ⟨Nat.zero_le _, Nat.zero_le _⟩ (fun H locs hG hS => ?_)
              have hG : GW D N L (gA N L s.heap.size) (cW cy L F (cY C, cV C, cM C, cQ C, cB C, cL C, cR C, (c_poS (yZ (cY C)) (c_tr C k u) (c_tu C j) q).1, (c_poS (yZ (cY C)) (c_tr C k u) (c_tu C j) q).2)) _ := hG.to (by rw [cW_T , cW_U ] <;> rfl)
              exact g_iret hx hb hr hlocks hK hG hS rfl dX4_ifFlowed_110 ⟨(congrArg (fun z9 => some (Value.int z9)) (by rfl)), (by rfl)⟩
            · skip
              exact absurd hu2 c_43
    · skip
      exact absurd c_11 (by decide)
