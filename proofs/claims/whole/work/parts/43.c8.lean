set_option maxHeartbeats 4000000 in
set_option maxRecDepth 100000 in
theorem k_X4_unload_t1 (l : Launch) (hst : l.stackTraces = false) (D : va_G) (cy : Nat → ClassId) (N : Nat) (L : Nat → Nat) (F : Nat → va_E) (hN : 162 ≤ N) (C : CT) (a b t : Int32) (h : ¬ c_noSilo a = 0 ∨ ¬ c_noShip b = 0) : GX l D cy N L yX4_unload wsX4_unload ({ frames := 7, cells := 1, slots := 6, locals := 150 }) [.ref (L 0), .int a, .int b, .int t] (cW cy L F C) xI := by
  refine GX.ofW (cc := cX4_unload) (maxL := 4) (ret := (some .int)) (by decide) rfl (Nat.le_of_ble_eq_true rfl) ?_
  intro p e s m below meth c ls hx hb hr hts hown hlocks hml hK hA hG hS hl hno
  have hl : lv_has ls 4 [(0, .ref (L 0)), (1, .int a), (2, .int b), (3, .int t)] := hl
  refine lv_iload_n hx hb dX4_unload_0 rfl (lv_at hl 1 rfl) ?_
  refine g_cSi (As := [.int a]) (rest := []) hx hb hml hown hts hK hA hG hS (k_X4_isNoSilo l D cy N L _ a ) (g_cwS 1 hts gX4_unload_X4_isNoSilo rfl rfl rfl (by decide +kernel) ⟨Nat.le_of_ble_eq_true rfl, Nat.le_of_ble_eq_true rfl⟩) rfl rfl hl.1 (Nat.le_of_ble_eq_true rfl) dX4_unload_1 ⟨Nat.zero_le _, Nat.zero_le _⟩ (fun H locs hG hS => ?_)
  refine lv_if_ne (tgt := 14) hx hb dX4_unload_4 (by decide) (fun c_4 => ?_) (fun c_4 => ?_)
  · skip
    exact g_thr (cls := xI) (ik := 56) (is := 90) (ic := 60) (text := "no such silo or ship") hx hb hst hown hts hlocks hml hK hG hS hno hl.1 (by decide) (by decide +kernel) (by decide +kernel) (by decide +kernel) (by decide +kernel) (by decide +kernel) (by decide +kernel) (by decide +kernel) dX4_unload_14 dX4_unload_17 dX4_unload_18 dX4_unload_20 dX4_unload_23 ⟨Nat.le_of_ble_eq_true rfl, Nat.le_of_ble_eq_true rfl, Nat.le_of_ble_eq_true rfl, Nat.le_of_ble_eq_true rfl⟩
  · skip
    refine lv_iload_n hx hb dX4_unload_7 rfl (lv_at hl 2 rfl) ?_
    refine g_cSi (As := [.int b]) (rest := []) hx hb hml hown hts hK hA hG hS (k_X4_isNoShip l D cy N L _ b ) (g_cwS 1 hts gX4_unload_X4_isNoShip rfl rfl rfl (by decide +kernel) ⟨Nat.le_of_ble_eq_true rfl, Nat.le_of_ble_eq_true rfl⟩) rfl rfl hl.1 (Nat.le_of_ble_eq_true rfl) dX4_unload_8 ⟨Nat.zero_le _, Nat.zero_le _⟩ (fun H locs hG hS => ?_)
    refine lv_if_eq (tgt := 24) hx hb dX4_unload_11 (by decide) (fun c_11 => ?_) (fun c_11 => ?_)
    · skip
      exact (fun h8 => h8.elim (fun h9 => absurd c_4 h9) (fun h9 => absurd c_11 h9)) h
    · skip
      exact g_thr (cls := xI) (ik := 56) (is := 90) (ic := 60) (text := "no such silo or ship") hx hb hst hown hts hlocks hml hK hG hS hno hl.1 (by decide) (by decide +kernel) (by decide +kernel) (by decide +kernel) (by decide +kernel) (by decide +kernel) (by decide +kernel) (by decide +kernel) dX4_unload_14 dX4_unload_17 dX4_unload_18 dX4_unload_20 dX4_unload_23 ⟨Nat.le_of_ble_eq_true rfl, Nat.le_of_ble_eq_true rfl, Nat.le_of_ble_eq_true rfl, Nat.le_of_ble_eq_true rfl⟩
set_option maxHeartbeats 4000000 in
set_option maxRecDepth 100000 in
theorem k_X4_flow_t1 (l : Launch) (hst : l.stackTraces = false) (D : va_G) (cy : Nat → ClassId) (N : Nat) (L : Nat → Nat) (F : Nat → va_E) (hN : 162 ≤ N) (C : CT) (a b t : Int32) (h : ¬ c_noSilo a = 0 ∨ ¬ c_noShip b = 0) : GX l D cy N L yX4_flow wsX4_flow ({ frames := 7, cells := 1, slots := 6, locals := 150 }) [.ref (L 0), .int a, .int b, .int t] (cW cy L F C) xI := by
  refine GX.ofW (cc := cX4_flow) (maxL := 4) (ret := (some .int)) (by decide) rfl (Nat.le_of_ble_eq_true rfl) ?_
  intro p e s m below meth c ls hx hb hr hts hown hlocks hml hK hA hG hS hl hno
  have hl : lv_has ls 4 [(0, .ref (L 0)), (1, .int a), (2, .int b), (3, .int t)] := hl
  refine lv_iload_n hx hb dX4_flow_0 rfl (lv_at hl 1 rfl) ?_
  refine g_cSi (As := [.int a]) (rest := []) hx hb hml hown hts hK hA hG hS (k_X4_isNoSilo l D cy N L _ a ) (g_cwS 1 hts gX4_flow_X4_isNoSilo rfl rfl rfl (by decide +kernel) ⟨Nat.le_of_ble_eq_true rfl, Nat.le_of_ble_eq_true rfl⟩) rfl rfl hl.1 (Nat.le_of_ble_eq_true rfl) dX4_flow_1 ⟨Nat.zero_le _, Nat.zero_le _⟩ (fun H locs hG hS => ?_)
  refine lv_if_ne (tgt := 14) hx hb dX4_flow_4 (by decide) (fun c_4 => ?_) (fun c_4 => ?_)
  · skip
    exact g_thr (cls := xI) (ik := 56) (is := 90) (ic := 60) (text := "no such silo or ship") hx hb hst hown hts hlocks hml hK hG hS hno hl.1 (by decide) (by decide +kernel) (by decide +kernel) (by decide +kernel) (by decide +kernel) (by decide +kernel) (by decide +kernel) (by decide +kernel) dX4_flow_14 dX4_flow_17 dX4_flow_18 dX4_flow_20 dX4_flow_23 ⟨Nat.le_of_ble_eq_true rfl, Nat.le_of_ble_eq_true rfl, Nat.le_of_ble_eq_true rfl, Nat.le_of_ble_eq_true rfl⟩
  · skip
    refine lv_iload_n hx hb dX4_flow_7 rfl (lv_at hl 2 rfl) ?_
    refine g_cSi (As := [.int b]) (rest := []) hx hb hml hown hts hK hA hG hS (k_X4_isNoShip l D cy N L _ b ) (g_cwS 1 hts gX4_flow_X4_isNoShip rfl rfl rfl (by decide +kernel) ⟨Nat.le_of_ble_eq_true rfl, Nat.le_of_ble_eq_true rfl⟩) rfl rfl hl.1 (Nat.le_of_ble_eq_true rfl) dX4_flow_8 ⟨Nat.zero_le _, Nat.zero_le _⟩ (fun H locs hG hS => ?_)
    refine lv_if_eq (tgt := 24) hx hb dX4_flow_11 (by decide) (fun c_11 => ?_) (fun c_11 => ?_)
    · skip
      exact (fun h8 => h8.elim (fun h9 => absurd c_4 h9) (fun h9 => absurd c_11 h9)) h
    · skip
      exact g_thr (cls := xI) (ik := 56) (is := 90) (ic := 60) (text := "no such silo or ship") hx hb hst hown hts hlocks hml hK hG hS hno hl.1 (by decide) (by decide +kernel) (by decide +kernel) (by decide +kernel) (by decide +kernel) (by decide +kernel) (by decide +kernel) (by decide +kernel) dX4_flow_14 dX4_flow_17 dX4_flow_18 dX4_flow_20 dX4_flow_23 ⟨Nat.le_of_ble_eq_true rfl, Nat.le_of_ble_eq_true rfl, Nat.le_of_ble_eq_true rfl, Nat.le_of_ble_eq_true rfl⟩
set_option maxHeartbeats 4000000 in
set_option maxRecDepth 100000 in
theorem k_X4_unload_t2 (l : Launch) (hst : l.stackTraces = false) (D : va_G) (cy : Nat → ClassId) (N : Nat) (L : Nat → Nat) (F : Nat → va_E) (hN : 162 ≤ N) (C : CT) (k j : Nat) (t : Int32) (hk : k < 4) (hj : j < 6) (h : t < 1 ∨ ¬ t ≤ 500) : GX l D cy N L yX4_unload wsX4_unload ({ frames := 7, cells := 1, slots := 6, locals := 150 }) [.ref (L 0), .int (nI k), .int (nI j), .int t] (cW cy L F C) xA := by
  refine GX.ofW (cc := cX4_unload) (maxL := 4) (ret := (some .int)) (by decide) rfl (Nat.le_of_ble_eq_true rfl) ?_
  intro p e s m below meth c ls hx hb hr hts hown hlocks hml hK hA hG hS hl hno
  have hl : lv_has ls 4 [(0, .ref (L 0)), (1, .int (nI k)), (2, .int (nI j)), (3, .int t)] := hl
  refine lv_iload_n hx hb dX4_unload_0 rfl (lv_at hl 1 rfl) ?_
  refine g_cSi (As := [.int (nI k)]) (rest := []) hx hb hml hown hts hK hA hG hS (k_X4_isNoSilo l D cy N L _ (nI k) ) (g_cwS 1 hts gX4_unload_X4_isNoSilo rfl rfl rfl (by decide +kernel) ⟨Nat.le_of_ble_eq_true rfl, Nat.le_of_ble_eq_true rfl⟩) rfl rfl hl.1 (Nat.le_of_ble_eq_true rfl) dX4_unload_1 ⟨Nat.zero_le _, Nat.zero_le _⟩ (fun H locs hG hS => ?_)
  refine lv_toI (y := 0) (c_noSilo_k hk) ?_
  refine lv_if_ne (tgt := 14) hx hb dX4_unload_4 (by decide) (fun c_4 => ?_) (fun c_4 => ?_)
  · skip
    exact absurd c_4 (by decide)
  · skip
    refine lv_iload_n hx hb dX4_unload_7 rfl (lv_at hl 2 rfl) ?_
    refine g_cSi (As := [.int (nI j)]) (rest := []) hx hb hml hown hts hK hA hG hS (k_X4_isNoShip l D cy N L _ (nI j) ) (g_cwS 1 hts gX4_unload_X4_isNoShip rfl rfl rfl (by decide +kernel) ⟨Nat.le_of_ble_eq_true rfl, Nat.le_of_ble_eq_true rfl⟩) rfl rfl hl.1 (Nat.le_of_ble_eq_true rfl) dX4_unload_8 ⟨Nat.zero_le _, Nat.zero_le _⟩ (fun H locs hG hS => ?_)
    refine lv_toI (y := 0) (c_noShip_j hj) ?_
    refine lv_if_eq (tgt := 24) hx hb dX4_unload_11 (by decide) (fun c_11 => ?_) (fun c_11 => ?_)
    · skip
      refine lv_iload_n hx hb dX4_unload_24 rfl (lv_at hl 3 rfl) ?_
      refine lv_iconst (v := 1) hx hb dX4_unload_25 (by decide) ?_
      refine lv_icmp_lt (tgt := 36) hx hb dX4_unload_26 (by decide) (fun c_26 => ?_) (fun c_26 => ?_)
      · skip
        exact g_thr (cls := xA) (ik := 63) (is := 92) (ic := 67) (text := "tonnes out of range") hx hb hst hown hts hlocks hml hK hG hS hno hl.1 (by decide) (by decide +kernel) (by decide +kernel) (by decide +kernel) (by decide +kernel) (by decide +kernel) (by decide +kernel) (by decide +kernel) dX4_unload_36 dX4_unload_39 dX4_unload_40 dX4_unload_42 dX4_unload_45 ⟨Nat.le_of_ble_eq_true rfl, Nat.le_of_ble_eq_true rfl, Nat.le_of_ble_eq_true rfl, Nat.le_of_ble_eq_true rfl⟩
      · skip
        refine lv_iload_n hx hb dX4_unload_29 rfl (lv_at hl 3 rfl) ?_
        refine lv_sipush (v := 500) hx hb dX4_unload_30 (by decide) ?_
        refine lv_icmp_le (tgt := 46) hx hb dX4_unload_33 (by decide) (fun c_33 => ?_) (fun c_33 => ?_)
        · skip
          exact (fun h8 => h8.elim (fun h9 => absurd h9 c_26) (fun h9 => absurd c_33 h9)) h
        · skip
          exact g_thr (cls := xA) (ik := 63) (is := 92) (ic := 67) (text := "tonnes out of range") hx hb hst hown hts hlocks hml hK hG hS hno hl.1 (by decide) (by decide +kernel) (by decide +kernel) (by decide +kernel) (by decide +kernel) (by decide +kernel) (by decide +kernel) (by decide +kernel) dX4_unload_36 dX4_unload_39 dX4_unload_40 dX4_unload_42 dX4_unload_45 ⟨Nat.le_of_ble_eq_true rfl, Nat.le_of_ble_eq_true rfl, Nat.le_of_ble_eq_true rfl, Nat.le_of_ble_eq_true rfl⟩
    · skip
      exact absurd c_11 (by decide)
set_option maxHeartbeats 4000000 in
set_option maxRecDepth 100000 in
theorem k_X4_flow_t2 (l : Launch) (hst : l.stackTraces = false) (D : va_G) (cy : Nat → ClassId) (N : Nat) (L : Nat → Nat) (F : Nat → va_E) (hN : 162 ≤ N) (C : CT) (k j : Nat) (t : Int32) (hk : k < 4) (hj : j < 6) (h : t < 1 ∨ ¬ t ≤ 24) : GX l D cy N L yX4_flow wsX4_flow ({ frames := 7, cells := 1, slots := 6, locals := 150 }) [.ref (L 0), .int (nI k), .int (nI j), .int t] (cW cy L F C) xA := by
  refine GX.ofW (cc := cX4_flow) (maxL := 4) (ret := (some .int)) (by decide) rfl (Nat.le_of_ble_eq_true rfl) ?_
  intro p e s m below meth c ls hx hb hr hts hown hlocks hml hK hA hG hS hl hno
  have hl : lv_has ls 4 [(0, .ref (L 0)), (1, .int (nI k)), (2, .int (nI j)), (3, .int t)] := hl
  refine lv_iload_n hx hb dX4_flow_0 rfl (lv_at hl 1 rfl) ?_
  refine g_cSi (As := [.int (nI k)]) (rest := []) hx hb hml hown hts hK hA hG hS (k_X4_isNoSilo l D cy N L _ (nI k) ) (g_cwS 1 hts gX4_flow_X4_isNoSilo rfl rfl rfl (by decide +kernel) ⟨Nat.le_of_ble_eq_true rfl, Nat.le_of_ble_eq_true rfl⟩) rfl rfl hl.1 (Nat.le_of_ble_eq_true rfl) dX4_flow_1 ⟨Nat.zero_le _, Nat.zero_le _⟩ (fun H locs hG hS => ?_)
  refine lv_toI (y := 0) (c_noSilo_k hk) ?_
  refine lv_if_ne (tgt := 14) hx hb dX4_flow_4 (by decide) (fun c_4 => ?_) (fun c_4 => ?_)
  · skip
    exact absurd c_4 (by decide)
  · skip
    refine lv_iload_n hx hb dX4_flow_7 rfl (lv_at hl 2 rfl) ?_
    refine g_cSi (As := [.int (nI j)]) (rest := []) hx hb hml hown hts hK hA hG hS (k_X4_isNoShip l D cy N L _ (nI j) ) (g_cwS 1 hts gX4_flow_X4_isNoShip rfl rfl rfl (by decide +kernel) ⟨Nat.le_of_ble_eq_true rfl, Nat.le_of_ble_eq_true rfl⟩) rfl rfl hl.1 (Nat.le_of_ble_eq_true rfl) dX4_flow_8 ⟨Nat.zero_le _, Nat.zero_le _⟩ (fun H locs hG hS => ?_)
    refine lv_toI (y := 0) (c_noShip_j hj) ?_
    refine lv_if_eq (tgt := 24) hx hb dX4_flow_11 (by decide) (fun c_11 => ?_) (fun c_11 => ?_)
    · skip
      refine lv_iload_n hx hb dX4_flow_24 rfl (lv_at hl 3 rfl) ?_
      refine lv_iconst (v := 1) hx hb dX4_flow_25 (by decide) ?_
      refine lv_icmp_lt (tgt := 35) hx hb dX4_flow_26 (by decide) (fun c_26 => ?_) (fun c_26 => ?_)
      · skip
        exact g_thr (cls := xA) (ik := 63) (is := 102) (ic := 67) (text := "hours out of range") hx hb hst hown hts hlocks hml hK hG hS hno hl.1 (by decide) (by decide +kernel) (by decide +kernel) (by decide +kernel) (by decide +kernel) (by decide +kernel) (by decide +kernel) (by decide +kernel) dX4_flow_35 dX4_flow_38 dX4_flow_39 dX4_flow_41 dX4_flow_44 ⟨Nat.le_of_ble_eq_true rfl, Nat.le_of_ble_eq_true rfl, Nat.le_of_ble_eq_true rfl, Nat.le_of_ble_eq_true rfl⟩
      · skip
        refine lv_iload_n hx hb dX4_flow_29 rfl (lv_at hl 3 rfl) ?_
        refine lv_bipush (v := 24) hx hb dX4_flow_30 (by decide) ?_
        refine lv_icmp_le (tgt := 45) hx hb dX4_flow_32 (by decide) (fun c_32 => ?_) (fun c_32 => ?_)
        · skip
          exact (fun h8 => h8.elim (fun h9 => absurd h9 c_26) (fun h9 => absurd c_32 h9)) h
        · skip
          exact g_thr (cls := xA) (ik := 63) (is := 102) (ic := 67) (text := "hours out of range") hx hb hst hown hts hlocks hml hK hG hS hno hl.1 (by decide) (by decide +kernel) (by decide +kernel) (by decide +kernel) (by decide +kernel) (by decide +kernel) (by decide +kernel) (by decide +kernel) dX4_flow_35 dX4_flow_38 dX4_flow_39 dX4_flow_41 dX4_flow_44 ⟨Nat.le_of_ble_eq_true rfl, Nat.le_of_ble_eq_true rfl, Nat.le_of_ble_eq_true rfl, Nat.le_of_ble_eq_true rfl⟩
    · skip
      exact absurd c_11 (by decide)
set_option maxHeartbeats 4000000 in
set_option maxRecDepth 100000 in
theorem k_X4_ship_t1 (l : Launch) (hst : l.stackTraces = false) (D : va_G) (cy : Nat → ClassId) (N : Nat) (L : Nat → Nat) (F : Nat → va_E) (hN : 162 ≤ N) (C : CT) (a u t : Int32) (h : ¬ c_noShip a = 0) : GX l D cy N L yX4_ship wsX4_ship ({ frames := 7, cells := 1, slots := 6, locals := 150 }) [.ref (L 0), .int a, .int u, .int t] (cW cy L F C) xI := by
  refine GX.ofW (cc := cX4_ship) (maxL := 6) (ret := (some .int)) (by decide) rfl (Nat.le_of_ble_eq_true rfl) ?_
  intro p e s m below meth c ls hx hb hr hts hown hlocks hml hK hA hG hS hl hno
  have hl : lv_has ls 6 [(0, .ref (L 0)), (1, .int a), (2, .int u), (3, .int t)] := hl
  refine lv_iload_n hx hb dX4_ship_0 rfl (lv_at hl 1 rfl) ?_
  refine g_cSi (As := [.int a]) (rest := []) hx hb hml hown hts hK hA hG hS (k_X4_isNoShip l D cy N L _ a ) (g_cwS 1 hts gX4_ship_X4_isNoShip rfl rfl rfl (by decide +kernel) ⟨Nat.le_of_ble_eq_true rfl, Nat.le_of_ble_eq_true rfl⟩) rfl rfl hl.1 (Nat.le_of_ble_eq_true rfl) dX4_ship_1 ⟨Nat.zero_le _, Nat.zero_le _⟩ (fun H locs hG hS => ?_)
  refine lv_if_eq (tgt := 17) hx hb dX4_ship_4 (by decide) (fun c_4 => ?_) (fun c_4 => ?_)
  · skip
    exact absurd c_4 h
  · skip
    exact g_thr (cls := xI) (ik := 56) (is := 58) (ic := 60) (text := "no such ship") hx hb hst hown hts hlocks hml hK hG hS hno hl.1 (by decide) (by decide +kernel) (by decide +kernel) (by decide +kernel) (by decide +kernel) (by decide +kernel) (by decide +kernel) (by decide +kernel) dX4_ship_7 dX4_ship_10 dX4_ship_11 dX4_ship_13 dX4_ship_16 ⟨Nat.le_of_ble_eq_true rfl, Nat.le_of_ble_eq_true rfl, Nat.le_of_ble_eq_true rfl, Nat.le_of_ble_eq_true rfl⟩
set_option maxHeartbeats 4000000 in
set_option maxRecDepth 100000 in
theorem k_X4_ship_t2 (l : Launch) (hst : l.stackTraces = false) (D : va_G) (cy : Nat → ClassId) (N : Nat) (L : Nat → Nat) (F : Nat → va_E) (hN : 162 ≤ N) (C : CT) (j : Nat) (u t : Int32) (hj : j < 6) (h : u < 0 ∨ 900 < u ∨ t < 0 ∨ ¬ t ≤ u) : GX l D cy N L yX4_ship wsX4_ship ({ frames := 7, cells := 1, slots := 6, locals := 150 }) [.ref (L 0), .int (nI j), .int u, .int t] (cW cy L F C) xA := by
  refine GX.ofW (cc := cX4_ship) (maxL := 6) (ret := (some .int)) (by decide) rfl (Nat.le_of_ble_eq_true rfl) ?_
  intro p e s m below meth c ls hx hb hr hts hown hlocks hml hK hA hG hS hl hno
  have hl : lv_has ls 6 [(0, .ref (L 0)), (1, .int (nI j)), (2, .int u), (3, .int t)] := hl
  refine lv_iload_n hx hb dX4_ship_0 rfl (lv_at hl 1 rfl) ?_
  refine g_cSi (As := [.int (nI j)]) (rest := []) hx hb hml hown hts hK hA hG hS (k_X4_isNoShip l D cy N L _ (nI j) ) (g_cwS 1 hts gX4_ship_X4_isNoShip rfl rfl rfl (by decide +kernel) ⟨Nat.le_of_ble_eq_true rfl, Nat.le_of_ble_eq_true rfl⟩) rfl rfl hl.1 (Nat.le_of_ble_eq_true rfl) dX4_ship_1 ⟨Nat.zero_le _, Nat.zero_le _⟩ (fun H locs hG hS => ?_)
  refine lv_toI (y := 0) (c_noShip_j hj) ?_
  refine lv_if_eq (tgt := 17) hx hb dX4_ship_4 (by decide) (fun c_4 => ?_) (fun c_4 => ?_)
  · skip
    refine lv_iload_n hx hb dX4_ship_17 rfl (lv_at hl 2 rfl) ?_
    refine lv_if_lt (tgt := 37) hx hb dX4_ship_18 (by decide) (fun c_18 => ?_) (fun c_18 => ?_)
    · skip
      exact g_thr (cls := xA) (ik := 63) (is := 65) (ic := 67) (text := "hold or tonnes out of range") hx hb hst hown hts hlocks hml hK hG hS hno hl.1 (by decide) (by decide +kernel) (by decide +kernel) (by decide +kernel) (by decide +kernel) (by decide +kernel) (by decide +kernel) (by decide +kernel) dX4_ship_37 dX4_ship_40 dX4_ship_41 dX4_ship_43 dX4_ship_46 ⟨Nat.le_of_ble_eq_true rfl, Nat.le_of_ble_eq_true rfl, Nat.le_of_ble_eq_true rfl, Nat.le_of_ble_eq_true rfl⟩
    · skip
      refine lv_iload_n hx hb dX4_ship_21 rfl (lv_at hl 2 rfl) ?_
      refine lv_sipush (v := 900) hx hb dX4_ship_22 (by decide) ?_
      refine lv_icmp_gt (tgt := 37) hx hb dX4_ship_25 (by decide) (fun c_25 => ?_) (fun c_25 => ?_)
      · skip
        exact g_thr (cls := xA) (ik := 63) (is := 65) (ic := 67) (text := "hold or tonnes out of range") hx hb hst hown hts hlocks hml hK hG hS hno hl.1 (by decide) (by decide +kernel) (by decide +kernel) (by decide +kernel) (by decide +kernel) (by decide +kernel) (by decide +kernel) (by decide +kernel) dX4_ship_37 dX4_ship_40 dX4_ship_41 dX4_ship_43 dX4_ship_46 ⟨Nat.le_of_ble_eq_true rfl, Nat.le_of_ble_eq_true rfl, Nat.le_of_ble_eq_true rfl, Nat.le_of_ble_eq_true rfl⟩
      · skip
        refine lv_iload_n hx hb dX4_ship_28 rfl (lv_at hl 3 rfl) ?_
        refine lv_if_lt (tgt := 37) hx hb dX4_ship_29 (by decide) (fun c_29 => ?_) (fun c_29 => ?_)
        · skip
          exact g_thr (cls := xA) (ik := 63) (is := 65) (ic := 67) (text := "hold or tonnes out of range") hx hb hst hown hts hlocks hml hK hG hS hno hl.1 (by decide) (by decide +kernel) (by decide +kernel) (by decide +kernel) (by decide +kernel) (by decide +kernel) (by decide +kernel) (by decide +kernel) dX4_ship_37 dX4_ship_40 dX4_ship_41 dX4_ship_43 dX4_ship_46 ⟨Nat.le_of_ble_eq_true rfl, Nat.le_of_ble_eq_true rfl, Nat.le_of_ble_eq_true rfl, Nat.le_of_ble_eq_true rfl⟩
        · skip
          refine lv_iload_n hx hb dX4_ship_32 rfl (lv_at hl 3 rfl) ?_
          refine lv_iload_n hx hb dX4_ship_33 rfl (lv_at hl 2 rfl) ?_
          refine lv_icmp_le (tgt := 47) hx hb dX4_ship_34 (by decide) (fun c_34 => ?_) (fun c_34 => ?_)
          · skip
            exact (fun h8 => h8.elim (fun h9 => absurd h9 c_18) (fun h8 => h8.elim (fun h9 => absurd h9 c_25) (fun h8 => h8.elim (fun h9 => absurd h9 c_29) (fun h9 => absurd c_34 h9)))) h
          · skip
            exact g_thr (cls := xA) (ik := 63) (is := 65) (ic := 67) (text := "hold or tonnes out of range") hx hb hst hown hts hlocks hml hK hG hS hno hl.1 (by decide) (by decide +kernel) (by decide +kernel) (by decide +kernel) (by decide +kernel) (by decide +kernel) (by decide +kernel) (by decide +kernel) dX4_ship_37 dX4_ship_40 dX4_ship_41 dX4_ship_43 dX4_ship_46 ⟨Nat.le_of_ble_eq_true rfl, Nat.le_of_ble_eq_true rfl, Nat.le_of_ble_eq_true rfl, Nat.le_of_ble_eq_true rfl⟩
  · skip
    exact absurd c_4 (by decide)
set_option maxHeartbeats 4000000 in
set_option maxRecDepth 100000 in
theorem k_X4_pads_t1 (l : Launch) (hst : l.stackTraces = false) (D : va_G) (cy : Nat → ClassId) (N : Nat) (L : Nat → Nat) (F : Nat → va_E) (hN : 162 ≤ N) (C : CT) (a b : Int32) (h : ¬ c_noSilo a = 0) : GX l D cy N L yX4_pads wsX4_pads ({ frames := 7, cells := 1, slots := 6, locals := 150 }) [.ref (L 0), .int a, .int b] (cW cy L F C) xI := by
  refine GX.ofW (cc := cX4_pads) (maxL := 4) (ret := (some .int)) (by decide) rfl (Nat.le_of_ble_eq_true rfl) ?_
  intro p e s m below meth c ls hx hb hr hts hown hlocks hml hK hA hG hS hl hno
  have hl : lv_has ls 4 [(0, .ref (L 0)), (1, .int a), (2, .int b)] := hl
  refine lv_iload_n hx hb dX4_pads_0 rfl (lv_at hl 1 rfl) ?_
  refine g_cSi (As := [.int a]) (rest := []) hx hb hml hown hts hK hA hG hS (k_X4_isNoSilo l D cy N L _ a ) (g_cwS 1 hts gX4_pads_X4_isNoSilo rfl rfl rfl (by decide +kernel) ⟨Nat.le_of_ble_eq_true rfl, Nat.le_of_ble_eq_true rfl⟩) rfl rfl hl.1 (Nat.le_of_ble_eq_true rfl) dX4_pads_1 ⟨Nat.zero_le _, Nat.zero_le _⟩ (fun H locs hG hS => ?_)
  refine lv_if_eq (tgt := 17) hx hb dX4_pads_4 (by decide) (fun c_4 => ?_) (fun c_4 => ?_)
  · skip
    exact absurd c_4 h
  · skip
    exact g_thr (cls := xI) (ik := 56) (is := 107) (ic := 60) (text := "no such silo") hx hb hst hown hts hlocks hml hK hG hS hno hl.1 (by decide) (by decide +kernel) (by decide +kernel) (by decide +kernel) (by decide +kernel) (by decide +kernel) (by decide +kernel) (by decide +kernel) dX4_pads_7 dX4_pads_10 dX4_pads_11 dX4_pads_13 dX4_pads_16 ⟨Nat.le_of_ble_eq_true rfl, Nat.le_of_ble_eq_true rfl, Nat.le_of_ble_eq_true rfl, Nat.le_of_ble_eq_true rfl⟩
set_option maxHeartbeats 4000000 in
set_option maxRecDepth 100000 in
theorem k_X4_pads_t2 (l : Launch) (hst : l.stackTraces = false) (D : va_G) (cy : Nat → ClassId) (N : Nat) (L : Nat → Nat) (F : Nat → va_E) (hN : 162 ≤ N) (C : CT) (k : Nat) (b : Int32) (hk : k < 4) (h : b < 0 ∨ ¬ b ≤ 4) : GX l D cy N L yX4_pads wsX4_pads ({ frames := 7, cells := 1, slots := 6, locals := 150 }) [.ref (L 0), .int (nI k), .int b] (cW cy L F C) xA := by
  refine GX.ofW (cc := cX4_pads) (maxL := 4) (ret := (some .int)) (by decide) rfl (Nat.le_of_ble_eq_true rfl) ?_
  intro p e s m below meth c ls hx hb hr hts hown hlocks hml hK hA hG hS hl hno
  have hl : lv_has ls 4 [(0, .ref (L 0)), (1, .int (nI k)), (2, .int b)] := hl
  refine lv_iload_n hx hb dX4_pads_0 rfl (lv_at hl 1 rfl) ?_
  refine g_cSi (As := [.int (nI k)]) (rest := []) hx hb hml hown hts hK hA hG hS (k_X4_isNoSilo l D cy N L _ (nI k) ) (g_cwS 1 hts gX4_pads_X4_isNoSilo rfl rfl rfl (by decide +kernel) ⟨Nat.le_of_ble_eq_true rfl, Nat.le_of_ble_eq_true rfl⟩) rfl rfl hl.1 (Nat.le_of_ble_eq_true rfl) dX4_pads_1 ⟨Nat.zero_le _, Nat.zero_le _⟩ (fun H locs hG hS => ?_)
  refine lv_toI (y := 0) (c_noSilo_k hk) ?_
  refine lv_if_eq (tgt := 17) hx hb dX4_pads_4 (by decide) (fun c_4 => ?_) (fun c_4 => ?_)
  · skip
    refine lv_iload_n hx hb dX4_pads_17 rfl (lv_at hl 2 rfl) ?_
    refine lv_if_lt (tgt := 26) hx hb dX4_pads_18 (by decide) (fun c_18 => ?_) (fun c_18 => ?_)
    · skip
      exact g_thr (cls := xA) (ik := 63) (is := 109) (ic := 67) (text := "pads out of range") hx hb hst hown hts hlocks hml hK hG hS hno hl.1 (by decide) (by decide +kernel) (by decide +kernel) (by decide +kernel) (by decide +kernel) (by decide +kernel) (by decide +kernel) (by decide +kernel) dX4_pads_26 dX4_pads_29 dX4_pads_30 dX4_pads_32 dX4_pads_35 ⟨Nat.le_of_ble_eq_true rfl, Nat.le_of_ble_eq_true rfl, Nat.le_of_ble_eq_true rfl, Nat.le_of_ble_eq_true rfl⟩
    · skip
      refine lv_iload_n hx hb dX4_pads_21 rfl (lv_at hl 2 rfl) ?_
      refine lv_iconst (v := 4) hx hb dX4_pads_22 (by decide) ?_
      refine lv_icmp_le (tgt := 36) hx hb dX4_pads_23 (by decide) (fun c_23 => ?_) (fun c_23 => ?_)
      · skip
        exact (fun h8 => h8.elim (fun h9 => absurd h9 c_18) (fun h9 => absurd c_23 h9)) h
      · skip
        exact g_thr (cls := xA) (ik := 63) (is := 109) (ic := 67) (text := "pads out of range") hx hb hst hown hts hlocks hml hK hG hS hno hl.1 (by decide) (by decide +kernel) (by decide +kernel) (by decide +kernel) (by decide +kernel) (by decide +kernel) (by decide +kernel) (by decide +kernel) dX4_pads_26 dX4_pads_29 dX4_pads_30 dX4_pads_32 dX4_pads_35 ⟨Nat.le_of_ble_eq_true rfl, Nat.le_of_ble_eq_true rfl, Nat.le_of_ble_eq_true rfl, Nat.le_of_ble_eq_true rfl⟩
  · skip
    exact absurd c_4 (by decide)
set_option maxHeartbeats 4000000 in
set_option maxRecDepth 100000 in
theorem k_X4_pads_t3 (l : Launch) (hst : l.stackTraces = false) (D : va_G) (cy : Nat → ClassId) (N : Nat) (L : Nat → Nat) (F : Nat → va_E) (hN : 162 ≤ N) (C : CT) (k : Nat) (b : Int32) (hk : k < 4) (h1 : ¬ b < 0) (h2 : b ≤ 4) (h : ¬ y_pads (cY C) 4 - sP (yS (cY C) k) + b ≤ yZ (cY C) 0) : GX l D cy N L yX4_pads wsX4_pads ({ frames := 7, cells := 1, slots := 6, locals := 150 }) [.ref (L 0), .int (nI k), .int b] (cW cy L F C) xS := by
  refine GX.ofW (cc := cX4_pads) (maxL := 4) (ret := (some .int)) (by decide) rfl (Nat.le_of_ble_eq_true rfl) ?_
  intro p e s m below meth c ls hx hb hr hts hown hlocks hml hK hA hG hS hl hno
  have hl : lv_has ls 4 [(0, .ref (L 0)), (1, .int (nI k)), (2, .int b)] := hl
  have hf10 := hts (.fieldLink RX4 10 "SiloPads" "now" "LSiloPads$Yard;") (by decide +kernel)
  have hinX4 : ∀ w ∈ u_ws RX4 TX4 8, w ∈ wsX4_pads := by decide +kernel
  have hf94 := hts (.fieldLink RX4 94 "SiloPads$Yard" "silos" "[LSiloPads$Silo;") (by decide +kernel)
  have hinX3 : ∀ w ∈ u_ws RX3 TX3 9, w ∈ wsX4_pads := by decide +kernel
  have hf111 := hts (.fieldLink RX4 111 "SiloPads$Silo" "padsOn" "I") (by decide +kernel)
  have hinX1 : ∀ w ∈ u_ws RX1 TX1 6, w ∈ wsX4_pads := by decide +kernel
  have hf117 := hts (.fieldLink RX4 117 "SiloPads$Yard" "settings" "[I") (by decide +kernel)
  refine lv_iload_n hx hb dX4_pads_0 rfl (lv_at hl 1 rfl) ?_
  refine g_cSi (As := [.int (nI k)]) (rest := []) hx hb hml hown hts hK hA hG hS (k_X4_isNoSilo l D cy N L _ (nI k) ) (g_cwS 1 hts gX4_pads_X4_isNoSilo rfl rfl rfl (by decide +kernel) ⟨Nat.le_of_ble_eq_true rfl, Nat.le_of_ble_eq_true rfl⟩) rfl rfl hl.1 (Nat.le_of_ble_eq_true rfl) dX4_pads_1 ⟨Nat.zero_le _, Nat.zero_le _⟩ (fun H locs hG hS => ?_)
  refine lv_toI (y := 0) (c_noSilo_k hk) ?_
  refine lv_if_eq (tgt := 17) hx hb dX4_pads_4 (by decide) (fun c_4 => ?_) (fun c_4 => ?_)
  · skip
    refine lv_iload_n hx hb dX4_pads_17 rfl (lv_at hl 2 rfl) ?_
    refine lv_if_lt (tgt := 26) hx hb dX4_pads_18 (by decide) (fun c_18 => ?_) (fun c_18 => ?_)
    · skip
      exact absurd c_18 h1
    · skip
      refine lv_iload_n hx hb dX4_pads_21 rfl (lv_at hl 2 rfl) ?_
      refine lv_iconst (v := 4) hx hb dX4_pads_22 (by decide) ?_
      refine lv_icmp_le (tgt := 36) hx hb dX4_pads_23 (by decide) (fun c_23 => ?_) (fun c_23 => ?_)
      · skip
        refine lv_aload_n hx hb dX4_pads_36 rfl (lv_at hl 0 rfl) ?_
        refine g_get (ci := 4) (C := RX4) (T := TX4) (M := 8) hx hb hts hinX4 hown hK hG (by omega) cW_o rfl 0 (by decide) hf10 rfl rfl dX4_pads_37 ?_
        refine g_get (ci := 3) (C := RX3) (T := TX3) (M := 9) hx hb hts hinX3 hown hK hG (by omega) cW_yo rfl 0 (by decide) hf94 rfl rfl dX4_pads_40 ?_
        refine lv_iload_n hx hb dX4_pads_43 rfl (lv_at hl 1 rfl) ?_
        refine g_aald (j := 1 + 4 + 3 * k) hx hb hK hG (by omega) cW_ys (t0 := 1) rfl (k := k) rfl (by omega) (by decide) rfl dX4_pads_44 ?_
        refine g_get (ci := 1) (C := RX1) (T := TX1) (M := 6) hx hb hts hinX1 hown hK hG (by omega) (cW_so (k := k) (by omega)) rfl 3 (by decide) hf111 rfl rfl dX4_pads_45 ?_
        refine lv_istore_n (lv' := [(3, .int (sP (yS (cY C) k))), (0, .ref (L 0)), (1, .int (nI k)), (2, .int b)]) hx hb dX4_pads_48 rfl hl (by decide) rfl (fun ls hl => ?_)
        refine lv_aload_n hx hb dX4_pads_49 rfl (lv_at hl 1 rfl) ?_
        refine g_get (ci := 4) (C := RX4) (T := TX4) (M := 8) hx hb hts hinX4 hown hK hG (by omega) cW_o rfl 0 (by decide) hf10 rfl rfl dX4_pads_50 ?_
        have hG : GW D N L (gA N L s.heap.size) (yW cy L (cW cy L F C) (1) (cY C)) _ := hG.to (by rw [cW_Y0 ])
        refine g_cVi (As := []) (rest := []) hx hb hml hown hts hK hA hG hS (k_X3_padsOn l D cy N L _ 1 (cY C)  (by omega)  ) (cwV 0 hts gX4_pads_X3_padsOn rfl rfl rfl (by decide +kernel) ⟨Nat.le_of_ble_eq_true rfl, Nat.le_of_ble_eq_true rfl⟩) (by omega) yW_o (ci := 3) rfl rfl rfl rfl hl.1 (Nat.le_of_ble_eq_true rfl) dX4_pads_53 ⟨Nat.zero_le _, Nat.zero_le _⟩ (fun H locs hG hS => ?_)
        have hG : GW D N L (gA N L s.heap.size) (cW cy L F C) _ := hG.to (by rw [cW_Y0 ] <;> rfl)
        refine lv_iload_n hx hb dX4_pads_56 rfl (lv_at hl 0 rfl) ?_
        refine lv_isub hx hb dX4_pads_57 ?_
        refine lv_iload_n hx hb dX4_pads_58 rfl (lv_at hl 3 rfl) ?_
        refine lv_iadd hx hb dX4_pads_59 ?_
        refine lv_aload_n hx hb dX4_pads_60 rfl (lv_at hl 1 rfl) ?_
        refine g_get (ci := 4) (C := RX4) (T := TX4) (M := 8) hx hb hts hinX4 hown hK hG (by omega) cW_o rfl 0 (by decide) hf10 rfl rfl dX4_pads_61 ?_
        refine g_get (ci := 3) (C := RX3) (T := TX3) (M := 9) hx hb hts hinX3 hown hK hG (by omega) cW_yo rfl 2 (by decide) hf117 rfl rfl dX4_pads_64 ?_
        refine lv_iconst (v := 0) hx hb dX4_pads_67 (by decide) ?_
        refine g_iald hx hb hK hG (by omega) cW_yz (k := 0) rfl (by omega) (by decide) dX4_pads_68 ?_
        refine lv_icmp_le (tgt := 82) hx hb dX4_pads_69 (by decide) (fun c_69 => ?_) (fun c_69 => ?_)
        · skip
          exact absurd c_69 h
        · skip
          exact g_thr (cls := xS) (ik := 120) (is := 122) (ic := 124) (text := "the blower does not bear them") hx hb hst hown hts hlocks hml hK hG hS hno hl.1 (by decide) (by decide +kernel) (by decide +kernel) (by decide +kernel) (by decide +kernel) (by decide +kernel) (by decide +kernel) (by decide +kernel) dX4_pads_72 dX4_pads_75 dX4_pads_76 dX4_pads_78 dX4_pads_81 ⟨Nat.le_of_ble_eq_true rfl, Nat.le_of_ble_eq_true rfl, Nat.le_of_ble_eq_true rfl, Nat.le_of_ble_eq_true rfl⟩
      · skip
        exact absurd h2 c_23
  · skip
    exact absurd c_4 (by decide)
set_option maxHeartbeats 4000000 in
set_option maxRecDepth 100000 in
theorem k_X4_shake_t1 (l : Launch) (hst : l.stackTraces = false) (D : va_G) (cy : Nat → ClassId) (N : Nat) (L : Nat → Nat) (F : Nat → va_E) (hN : 162 ≤ N) (C : CT) (a : Int32) (h : ¬ c_noSilo a = 0) : GX l D cy N L yX4_shake wsX4_shake ({ frames := 7, cells := 1, slots := 6, locals := 150 }) [.ref (L 0), .int a] (cW cy L F C) xI := by
  refine GX.ofW (cc := cX4_shake) (maxL := 4) (ret := (some .int)) (by decide) rfl (Nat.le_of_ble_eq_true rfl) ?_
  intro p e s m below meth c ls hx hb hr hts hown hlocks hml hK hA hG hS hl hno
  have hl : lv_has ls 4 [(0, .ref (L 0)), (1, .int a)] := hl
  refine lv_iload_n hx hb dX4_shake_0 rfl (lv_at hl 1 rfl) ?_
  refine g_cSi (As := [.int a]) (rest := []) hx hb hml hown hts hK hA hG hS (k_X4_isNoSilo l D cy N L _ a ) (g_cwS 1 hts gX4_shake_X4_isNoSilo rfl rfl rfl (by decide +kernel) ⟨Nat.le_of_ble_eq_true rfl, Nat.le_of_ble_eq_true rfl⟩) rfl rfl hl.1 (Nat.le_of_ble_eq_true rfl) dX4_shake_1 ⟨Nat.zero_le _, Nat.zero_le _⟩ (fun H locs hG hS => ?_)
  refine lv_if_eq (tgt := 17) hx hb dX4_shake_4 (by decide) (fun c_4 => ?_) (fun c_4 => ?_)
  · skip
    exact absurd c_4 h
  · skip
    exact g_thr (cls := xI) (ik := 56) (is := 107) (ic := 60) (text := "no such silo") hx hb hst hown hts hlocks hml hK hG hS hno hl.1 (by decide) (by decide +kernel) (by decide +kernel) (by decide +kernel) (by decide +kernel) (by decide +kernel) (by decide +kernel) (by decide +kernel) dX4_shake_7 dX4_shake_10 dX4_shake_11 dX4_shake_13 dX4_shake_16 ⟨Nat.le_of_ble_eq_true rfl, Nat.le_of_ble_eq_true rfl, Nat.le_of_ble_eq_true rfl, Nat.le_of_ble_eq_true rfl⟩
set_option maxHeartbeats 4000000 in
set_option maxRecDepth 100000 in
theorem k_X4_shake_t2 (l : Launch) (hst : l.stackTraces = false) (D : va_G) (cy : Nat → ClassId) (N : Nat) (L : Nat → Nat) (F : Nat → va_E) (hN : 162 ≤ N) (C : CT) (k : Nat) (hk : k < 4) (h : sN (yS (cY C) k) = 0) : GX l D cy N L yX4_shake wsX4_shake ({ frames := 7, cells := 1, slots := 6, locals := 150 }) [.ref (L 0), .int (nI k)] (cW cy L F C) xS := by
  refine GX.ofW (cc := cX4_shake) (maxL := 4) (ret := (some .int)) (by decide) rfl (Nat.le_of_ble_eq_true rfl) ?_
  intro p e s m below meth c ls hx hb hr hts hown hlocks hml hK hA hG hS hl hno
  have hl : lv_has ls 4 [(0, .ref (L 0)), (1, .int (nI k))] := hl
  have hf10 := hts (.fieldLink RX4 10 "SiloPads" "now" "LSiloPads$Yard;") (by decide +kernel)
  have hinX4 : ∀ w ∈ u_ws RX4 TX4 8, w ∈ wsX4_shake := by decide +kernel
  have hf94 := hts (.fieldLink RX4 94 "SiloPads$Yard" "silos" "[LSiloPads$Silo;") (by decide +kernel)
  have hinX3 : ∀ w ∈ u_ws RX3 TX3 9, w ∈ wsX4_shake := by decide +kernel
  have hf125 := hts (.fieldLink RX4 125 "SiloPads$Silo" "layers" "I") (by decide +kernel)
  have hinX1 : ∀ w ∈ u_ws RX1 TX1 6, w ∈ wsX4_shake := by decide +kernel
  refine lv_iload_n hx hb dX4_shake_0 rfl (lv_at hl 1 rfl) ?_
  refine g_cSi (As := [.int (nI k)]) (rest := []) hx hb hml hown hts hK hA hG hS (k_X4_isNoSilo l D cy N L _ (nI k) ) (g_cwS 1 hts gX4_shake_X4_isNoSilo rfl rfl rfl (by decide +kernel) ⟨Nat.le_of_ble_eq_true rfl, Nat.le_of_ble_eq_true rfl⟩) rfl rfl hl.1 (Nat.le_of_ble_eq_true rfl) dX4_shake_1 ⟨Nat.zero_le _, Nat.zero_le _⟩ (fun H locs hG hS => ?_)
  refine lv_toI (y := 0) (c_noSilo_k hk) ?_
  refine lv_if_eq (tgt := 17) hx hb dX4_shake_4 (by decide) (fun c_4 => ?_) (fun c_4 => ?_)
  · skip
    refine lv_aload_n hx hb dX4_shake_17 rfl (lv_at hl 0 rfl) ?_
    refine g_get (ci := 4) (C := RX4) (T := TX4) (M := 8) hx hb hts hinX4 hown hK hG (by omega) cW_o rfl 0 (by decide) hf10 rfl rfl dX4_shake_18 ?_
    refine g_get (ci := 3) (C := RX3) (T := TX3) (M := 9) hx hb hts hinX3 hown hK hG (by omega) cW_yo rfl 0 (by decide) hf94 rfl rfl dX4_shake_21 ?_
    refine lv_iload_n hx hb dX4_shake_24 rfl (lv_at hl 1 rfl) ?_
    refine g_aald (j := 1 + 4 + 3 * k) hx hb hK hG (by omega) cW_ys (t0 := 1) rfl (k := k) rfl (by omega) (by decide) rfl dX4_shake_25 ?_
    refine lv_astore_n (lv' := [(2, .ref (L (1 + 4 + 3 * k))), (0, .ref (L 0)), (1, .int (nI k))]) hx hb dX4_shake_26 rfl hl (by decide) rfl (fun ls hl => ?_)
    refine lv_aload_n hx hb dX4_shake_27 rfl (lv_at hl 0 rfl) ?_
    refine g_get (ci := 1) (C := RX1) (T := TX1) (M := 6) hx hb hts hinX1 hown hK hG (by omega) (cW_so (k := k) (by omega)) rfl 2 (by decide) hf125 rfl rfl dX4_shake_28 ?_
    refine lv_if_ne (tgt := 44) hx hb dX4_shake_31 (by decide) (fun c_31 => ?_) (fun c_31 => ?_)
    · skip
      have c_31 : ¬ (sN (yS (cY C) k)) = 0 := fun h9 => c_31 ((nI_eq (a := sN (yS (cY C) k)) (b := 0) (by omega) (by omega)).mpr h9)
      exfalso; omega
    · skip
      have c_31 : (sN (yS (cY C) k)) = 0 := (nI_eq (a := sN (yS (cY C) k)) (b := 0) (by omega) (by omega)).mp c_31
      exact g_thr (cls := xS) (ik := 120) (is := 128) (ic := 124) (text := "no layers") hx hb hst hown hts hlocks hml hK hG hS hno hl.1 (by decide) (by decide +kernel) (by decide +kernel) (by decide +kernel) (by decide +kernel) (by decide +kernel) (by decide +kernel) (by decide +kernel) dX4_shake_34 dX4_shake_37 dX4_shake_38 dX4_shake_40 dX4_shake_43 ⟨Nat.le_of_ble_eq_true rfl, Nat.le_of_ble_eq_true rfl, Nat.le_of_ble_eq_true rfl, Nat.le_of_ble_eq_true rfl⟩
  · skip
    exact absurd c_4 (by decide)
set_option maxHeartbeats 4000000 in
set_option maxRecDepth 100000 in
theorem k_X4_pass_t1 (l : Launch) (hst : l.stackTraces = false) (D : va_G) (cy : Nat → ClassId) (N : Nat) (L : Nat → Nat) (F : Nat → va_E) (hN : 162 ≤ N) (C : CT) (a : Int32) (h : a < 1 ∨ ¬ a ≤ 30) : GX l D cy N L yX4_pass wsX4_pass ({ frames := 7, cells := 1, slots := 6, locals := 150 }) [.ref (L 0), .int a] (cW cy L F C) xA := by
  refine GX.ofW (cc := cX4_pass) (maxL := 2) (ret := (some .int)) (by decide) rfl (Nat.le_of_ble_eq_true rfl) ?_
  intro p e s m below meth c ls hx hb hr hts hown hlocks hml hK hA hG hS hl hno
  have hl : lv_has ls 2 [(0, .ref (L 0)), (1, .int a)] := hl
  refine lv_iload_n hx hb dX4_pass_0 rfl (lv_at hl 1 rfl) ?_
  refine lv_iconst (v := 1) hx hb dX4_pass_1 (by decide) ?_
  refine lv_icmp_lt (tgt := 11) hx hb dX4_pass_2 (by decide) (fun c_2 => ?_) (fun c_2 => ?_)
  · skip
    exact g_thr (cls := xA) (ik := 63) (is := 144) (ic := 67) (text := "days out of range") hx hb hst hown hts hlocks hml hK hG hS hno hl.1 (by decide) (by decide +kernel) (by decide +kernel) (by decide +kernel) (by decide +kernel) (by decide +kernel) (by decide +kernel) (by decide +kernel) dX4_pass_11 dX4_pass_14 dX4_pass_15 dX4_pass_17 dX4_pass_20 ⟨Nat.le_of_ble_eq_true rfl, Nat.le_of_ble_eq_true rfl, Nat.le_of_ble_eq_true rfl, Nat.le_of_ble_eq_true rfl⟩
  · skip
    refine lv_iload_n hx hb dX4_pass_5 rfl (lv_at hl 1 rfl) ?_
    refine lv_bipush (v := 30) hx hb dX4_pass_6 (by decide) ?_
    refine lv_icmp_le (tgt := 21) hx hb dX4_pass_8 (by decide) (fun c_8 => ?_) (fun c_8 => ?_)
    · skip
      exact (fun h8 => h8.elim (fun h9 => absurd h9 c_2) (fun h9 => absurd c_8 h9)) h
    · skip
      exact g_thr (cls := xA) (ik := 63) (is := 144) (ic := 67) (text := "days out of range") hx hb hst hown hts hlocks hml hK hG hS hno hl.1 (by decide) (by decide +kernel) (by decide +kernel) (by decide +kernel) (by decide +kernel) (by decide +kernel) (by decide +kernel) (by decide +kernel) dX4_pass_11 dX4_pass_14 dX4_pass_15 dX4_pass_17 dX4_pass_20 ⟨Nat.le_of_ble_eq_true rfl, Nat.le_of_ble_eq_true rfl, Nat.le_of_ble_eq_true rfl, Nat.le_of_ble_eq_true rfl⟩
set_option maxHeartbeats 4000000 in
set_option maxRecDepth 100000 in
theorem k_X4_set_t1 (l : Launch) (hst : l.stackTraces = false) (D : va_G) (cy : Nat → ClassId) (N : Nat) (L : Nat → Nat) (F : Nat → va_E) (hN : 162 ≤ N) (C : CT) (a b : Int32) (h : a < 0 ∨ ¬ a < nI 4) : GX l D cy N L yX4_set wsX4_set ({ frames := 7, cells := 1, slots := 6, locals := 150 }) [.ref (L 0), .int a, .int b] (cW cy L F C) xI := by
  refine GX.ofW (cc := cX4_set) (maxL := 4) (ret := (some .int)) (by decide) rfl (Nat.le_of_ble_eq_true rfl) ?_
  intro p e s m below meth c ls hx hb hr hts hown hlocks hml hK hA hG hS hl hno
  have hl : lv_has ls 4 [(0, .ref (L 0)), (1, .int a), (2, .int b)] := hl
  have hf10 := hts (.fieldLink RX4 10 "SiloPads" "now" "LSiloPads$Yard;") (by decide +kernel)
  have hinX4 : ∀ w ∈ u_ws RX4 TX4 8, w ∈ wsX4_set := by decide +kernel
  have hf117 := hts (.fieldLink RX4 117 "SiloPads$Yard" "settings" "[I") (by decide +kernel)
  have hinX3 : ∀ w ∈ u_ws RX3 TX3 9, w ∈ wsX4_set := by decide +kernel
  refine lv_iload_n hx hb dX4_set_0 rfl (lv_at hl 1 rfl) ?_
  refine lv_if_lt (tgt := 16) hx hb dX4_set_1 (by decide) (fun c_1 => ?_) (fun c_1 => ?_)
  · skip
    exact g_thr (cls := xI) (ik := 56) (is := 150) (ic := 60) (text := "no such setting") hx hb hst hown hts hlocks hml hK hG hS hno hl.1 (by decide) (by decide +kernel) (by decide +kernel) (by decide +kernel) (by decide +kernel) (by decide +kernel) (by decide +kernel) (by decide +kernel) dX4_set_16 dX4_set_19 dX4_set_20 dX4_set_22 dX4_set_25 ⟨Nat.le_of_ble_eq_true rfl, Nat.le_of_ble_eq_true rfl, Nat.le_of_ble_eq_true rfl, Nat.le_of_ble_eq_true rfl⟩
  · skip
    refine lv_iload_n hx hb dX4_set_4 rfl (lv_at hl 1 rfl) ?_
    refine lv_aload_n hx hb dX4_set_5 rfl (lv_at hl 0 rfl) ?_
    refine g_get (ci := 4) (C := RX4) (T := TX4) (M := 8) hx hb hts hinX4 hown hK hG (by omega) cW_o rfl 0 (by decide) hf10 rfl rfl dX4_set_6 ?_
    refine g_get (ci := 3) (C := RX3) (T := TX3) (M := 9) hx hb hts hinX3 hown hK hG (by omega) cW_yo rfl 2 (by decide) hf117 rfl rfl dX4_set_9 ?_
    refine g_alen (t0 := 0) (v := nI 4) hx hb hK hG (by omega) cW_yz rfl rfl dX4_set_12 ?_
    refine lv_icmp_lt (tgt := 26) hx hb dX4_set_13 (by decide) (fun c_13 => ?_) (fun c_13 => ?_)
    · skip
      exact (fun h8 => h8.elim (fun h9 => absurd h9 c_1) (fun h9 => absurd c_13 h9)) h
    · skip
      exact g_thr (cls := xI) (ik := 56) (is := 150) (ic := 60) (text := "no such setting") hx hb hst hown hts hlocks hml hK hG hS hno hl.1 (by decide) (by decide +kernel) (by decide +kernel) (by decide +kernel) (by decide +kernel) (by decide +kernel) (by decide +kernel) (by decide +kernel) dX4_set_16 dX4_set_19 dX4_set_20 dX4_set_22 dX4_set_25 ⟨Nat.le_of_ble_eq_true rfl, Nat.le_of_ble_eq_true rfl, Nat.le_of_ble_eq_true rfl, Nat.le_of_ble_eq_true rfl⟩
set_option maxHeartbeats 4000000 in
set_option maxRecDepth 100000 in
theorem k_X4_set_t2 (l : Launch) (hst : l.stackTraces = false) (D : va_G) (cy : Nat → ClassId) (N : Nat) (L : Nat → Nat) (F : Nat → va_E) (hN : 162 ≤ N) (C : CT) (i : Nat) (b : Int32) (hi : i < 4) (h : b < z_least i ∨ ¬ b ≤ z_most i) : GX l D cy N L yX4_set wsX4_set ({ frames := 7, cells := 1, slots := 6, locals := 150 }) [.ref (L 0), .int (nI i), .int b] (cW cy L F C) xA := by
  refine GX.ofW (cc := cX4_set) (maxL := 4) (ret := (some .int)) (by decide) rfl (Nat.le_of_ble_eq_true rfl) ?_
  intro p e s m below meth c ls hx hb hr hts hown hlocks hml hK hA hG hS hl hno
  have hl : lv_has ls 4 [(0, .ref (L 0)), (1, .int (nI i)), (2, .int b)] := hl
  have hf10 := hts (.fieldLink RX4 10 "SiloPads" "now" "LSiloPads$Yard;") (by decide +kernel)
  have hinX4 : ∀ w ∈ u_ws RX4 TX4 8, w ∈ wsX4_set := by decide +kernel
  have hf117 := hts (.fieldLink RX4 117 "SiloPads$Yard" "settings" "[I") (by decide +kernel)
  have hinX3 : ∀ w ∈ u_ws RX3 TX3 9, w ∈ wsX4_set := by decide +kernel
  refine lv_iload_n hx hb dX4_set_0 rfl (lv_at hl 1 rfl) ?_
  refine lv_if_lt (tgt := 16) hx hb dX4_set_1 (by decide) (fun c_1 => ?_) (fun c_1 => ?_)
  · skip
    have c_1 : i < 0 := (nI_ltI (a := i) (b := 0) (by omega) (by omega)).mp c_1
    exfalso; omega
  · skip
    have c_1 : ¬ i < 0 := fun h9 => c_1 ((nI_ltI (a := i) (b := 0) (by omega) (by omega)).mpr h9)
    refine lv_iload_n hx hb dX4_set_4 rfl (lv_at hl 1 rfl) ?_
    refine lv_aload_n hx hb dX4_set_5 rfl (lv_at hl 0 rfl) ?_
    refine g_get (ci := 4) (C := RX4) (T := TX4) (M := 8) hx hb hts hinX4 hown hK hG (by omega) cW_o rfl 0 (by decide) hf10 rfl rfl dX4_set_6 ?_
    refine g_get (ci := 3) (C := RX3) (T := TX3) (M := 9) hx hb hts hinX3 hown hK hG (by omega) cW_yo rfl 2 (by decide) hf117 rfl rfl dX4_set_9 ?_
    refine g_alen (t0 := 0) (v := nI 4) hx hb hK hG (by omega) cW_yz rfl rfl dX4_set_12 ?_
    refine lv_icmp_lt (tgt := 26) hx hb dX4_set_13 (by decide) (fun c_13 => ?_) (fun c_13 => ?_)
    · skip
      have c_13 : i < 4 := (nI_ltI (a := i) (b := 4) (by omega) (by omega)).mp c_13
      refine lv_iload_n hx hb dX4_set_26 rfl (lv_at hl 2 rfl) ?_
      obtain ⟨t27, hZ27, hT27⟩ := hK.2.2.2.2.1
      refine g_gets (ref := "") (f := z_least) hx hb hS hZ27 hown (hts (.fieldLink RX4 152 "SiloPads" "SETTING_LEAST" "[I") (by decide +kernel)) dX4_set_27 ?_
      refine lv_iload_n hx hb dX4_set_30 rfl (lv_at hl 1 rfl) ?_
      refine g_sald hx hb hS hT27 (k := i) rfl (by omega) dX4_set_31 ?_
      refine lv_icmp_lt (tgt := 44) hx hb dX4_set_32 (by decide) (fun c_32 => ?_) (fun c_32 => ?_)
      · skip
        exact g_thr (cls := xA) (ik := 63) (is := 158) (ic := 67) (text := "value out of range") hx hb hst hown hts hlocks hml hK hG hS hno hl.1 (by decide) (by decide +kernel) (by decide +kernel) (by decide +kernel) (by decide +kernel) (by decide +kernel) (by decide +kernel) (by decide +kernel) dX4_set_44 dX4_set_47 dX4_set_48 dX4_set_50 dX4_set_53 ⟨Nat.le_of_ble_eq_true rfl, Nat.le_of_ble_eq_true rfl, Nat.le_of_ble_eq_true rfl, Nat.le_of_ble_eq_true rfl⟩
      · skip
        refine lv_iload_n hx hb dX4_set_35 rfl (lv_at hl 2 rfl) ?_
        obtain ⟨t36, hZ36, hT36⟩ := hK.2.2.2.2.2.1
        refine g_gets (ref := "") (f := z_least) hx hb hS hZ36 hown (hts (.fieldLink RX4 155 "SiloPads" "SETTING_MOST" "[I") (by decide +kernel)) dX4_set_36 ?_
        refine lv_iload_n hx hb dX4_set_39 rfl (lv_at hl 1 rfl) ?_
        refine g_sald hx hb hS hT36 (k := i) rfl (by omega) dX4_set_40 ?_
        refine lv_icmp_le (tgt := 54) hx hb dX4_set_41 (by decide) (fun c_41 => ?_) (fun c_41 => ?_)
        · skip
          exact (fun h8 => h8.elim (fun h9 => absurd h9 c_32) (fun h9 => absurd c_41 h9)) h
        · skip
          exact g_thr (cls := xA) (ik := 63) (is := 158) (ic := 67) (text := "value out of range") hx hb hst hown hts hlocks hml hK hG hS hno hl.1 (by decide) (by decide +kernel) (by decide +kernel) (by decide +kernel) (by decide +kernel) (by decide +kernel) (by decide +kernel) (by decide +kernel) dX4_set_44 dX4_set_47 dX4_set_48 dX4_set_50 dX4_set_53 ⟨Nat.le_of_ble_eq_true rfl, Nat.le_of_ble_eq_true rfl, Nat.le_of_ble_eq_true rfl, Nat.le_of_ble_eq_true rfl⟩
    · skip
      have c_13 : ¬ i < 4 := fun h9 => c_13 ((nI_ltI (a := i) (b := 4) (by omega) (by omega)).mpr h9)
      exfalso; omega
set_option maxHeartbeats 4000000 in
set_option maxRecDepth 100000 in
theorem k_X4_set_t3 (l : Launch) (hst : l.stackTraces = false) (D : va_G) (cy : Nat → ClassId) (N : Nat) (L : Nat → Nat) (F : Nat → va_E) (hN : 162 ≤ N) (C : CT) (i : Nat) (b : Int32) (hi : i = 0) (h1 : ¬ b < z_least i) (h2 : b ≤ z_most i) (h : ¬ y_pads (cY C) 4 ≤ b) : GX l D cy N L yX4_set wsX4_set ({ frames := 7, cells := 1, slots := 6, locals := 150 }) [.ref (L 0), .int (nI i), .int b] (cW cy L F C) xS := by
  refine GX.ofW (cc := cX4_set) (maxL := 4) (ret := (some .int)) (by decide) rfl (Nat.le_of_ble_eq_true rfl) ?_
  intro p e s m below meth c ls hx hb hr hts hown hlocks hml hK hA hG hS hl hno
  have hl : lv_has ls 4 [(0, .ref (L 0)), (1, .int (nI i)), (2, .int b)] := hl
  have hf10 := hts (.fieldLink RX4 10 "SiloPads" "now" "LSiloPads$Yard;") (by decide +kernel)
  have hinX4 : ∀ w ∈ u_ws RX4 TX4 8, w ∈ wsX4_set := by decide +kernel
  have hf117 := hts (.fieldLink RX4 117 "SiloPads$Yard" "settings" "[I") (by decide +kernel)
  have hinX3 : ∀ w ∈ u_ws RX3 TX3 9, w ∈ wsX4_set := by decide +kernel
  refine lv_iload_n hx hb dX4_set_0 rfl (lv_at hl 1 rfl) ?_
  refine lv_if_lt (tgt := 16) hx hb dX4_set_1 (by decide) (fun c_1 => ?_) (fun c_1 => ?_)
  · skip
    have c_1 : i < 0 := (nI_ltI (a := i) (b := 0) (by omega) (by omega)).mp c_1
    exfalso; omega
  · skip
    have c_1 : ¬ i < 0 := fun h9 => c_1 ((nI_ltI (a := i) (b := 0) (by omega) (by omega)).mpr h9)
    refine lv_iload_n hx hb dX4_set_4 rfl (lv_at hl 1 rfl) ?_
    refine lv_aload_n hx hb dX4_set_5 rfl (lv_at hl 0 rfl) ?_
    refine g_get (ci := 4) (C := RX4) (T := TX4) (M := 8) hx hb hts hinX4 hown hK hG (by omega) cW_o rfl 0 (by decide) hf10 rfl rfl dX4_set_6 ?_
    refine g_get (ci := 3) (C := RX3) (T := TX3) (M := 9) hx hb hts hinX3 hown hK hG (by omega) cW_yo rfl 2 (by decide) hf117 rfl rfl dX4_set_9 ?_
    refine g_alen (t0 := 0) (v := nI 4) hx hb hK hG (by omega) cW_yz rfl rfl dX4_set_12 ?_
    refine lv_icmp_lt (tgt := 26) hx hb dX4_set_13 (by decide) (fun c_13 => ?_) (fun c_13 => ?_)
    · skip
      have c_13 : i < 4 := (nI_ltI (a := i) (b := 4) (by omega) (by omega)).mp c_13
      refine lv_iload_n hx hb dX4_set_26 rfl (lv_at hl 2 rfl) ?_
      obtain ⟨t27, hZ27, hT27⟩ := hK.2.2.2.2.1
      refine g_gets (ref := "") (f := z_least) hx hb hS hZ27 hown (hts (.fieldLink RX4 152 "SiloPads" "SETTING_LEAST" "[I") (by decide +kernel)) dX4_set_27 ?_
      refine lv_iload_n hx hb dX4_set_30 rfl (lv_at hl 1 rfl) ?_
      refine g_sald hx hb hS hT27 (k := i) rfl (by omega) dX4_set_31 ?_
      refine lv_icmp_lt (tgt := 44) hx hb dX4_set_32 (by decide) (fun c_32 => ?_) (fun c_32 => ?_)
      · skip
        exact absurd c_32 h1
      · skip
        refine lv_iload_n hx hb dX4_set_35 rfl (lv_at hl 2 rfl) ?_
        obtain ⟨t36, hZ36, hT36⟩ := hK.2.2.2.2.2.1
        refine g_gets (ref := "") (f := z_least) hx hb hS hZ36 hown (hts (.fieldLink RX4 155 "SiloPads" "SETTING_MOST" "[I") (by decide +kernel)) dX4_set_36 ?_
        refine lv_iload_n hx hb dX4_set_39 rfl (lv_at hl 1 rfl) ?_
        refine g_sald hx hb hS hT36 (k := i) rfl (by omega) dX4_set_40 ?_
        refine lv_icmp_le (tgt := 54) hx hb dX4_set_41 (by decide) (fun c_41 => ?_) (fun c_41 => ?_)
        · skip
          refine lv_iload_n hx hb dX4_set_54 rfl (lv_at hl 1 rfl) ?_
          refine lv_if_ne (tgt := 79) hx hb dX4_set_55 (by decide) (fun c_55 => ?_) (fun c_55 => ?_)
          · skip
            have c_55 : ¬ i = 0 := fun h9 => c_55 ((nI_eq (a := i) (b := 0) (by omega) (by omega)).mpr h9)
            exfalso; omega
          · skip
            have c_55 : i = 0 := (nI_eq (a := i) (b := 0) (by omega) (by omega)).mp c_55
            refine lv_aload_n hx hb dX4_set_58 rfl (lv_at hl 0 rfl) ?_
            refine g_get (ci := 4) (C := RX4) (T := TX4) (M := 8) hx hb hts hinX4 hown hK hG (by omega) cW_o rfl 0 (by decide) hf10 rfl rfl dX4_set_59 ?_
            have hG : GW D N L (gA N L s.heap.size) (yW cy L (cW cy L F C) (1) (cY C)) _ := hG.to (by rw [cW_Y0 ])
            refine g_cVi (As := []) (rest := []) hx hb hml hown hts hK hA hG hS (k_X3_padsOn l D cy N L _ 1 (cY C)  (by omega)  ) (cwV 0 hts gX4_set_X3_padsOn rfl rfl rfl (by decide +kernel) ⟨Nat.le_of_ble_eq_true rfl, Nat.le_of_ble_eq_true rfl⟩) (by omega) yW_o (ci := 3) rfl rfl rfl rfl hl.1 (Nat.le_of_ble_eq_true rfl) dX4_set_62 ⟨Nat.zero_le _, Nat.zero_le _⟩ (fun H locs hG hS => ?_)
            have hG : GW D N L (gA N L s.heap.size) (cW cy L F C) _ := hG.to (by rw [cW_Y0 ] <;> rfl)
            refine lv_iload_n hx hb dX4_set_65 rfl (lv_at hl 2 rfl) ?_
            refine lv_icmp_le (tgt := 79) hx hb dX4_set_66 (by decide) (fun c_66 => ?_) (fun c_66 => ?_)
            · skip
              exact absurd c_66 h
            · skip
              exact g_thr (cls := xS) (ik := 120) (is := 160) (ic := 124) (text := "more pads are on") hx hb hst hown hts hlocks hml hK hG hS hno hl.1 (by decide) (by decide +kernel) (by decide +kernel) (by decide +kernel) (by decide +kernel) (by decide +kernel) (by decide +kernel) (by decide +kernel) dX4_set_69 dX4_set_72 dX4_set_73 dX4_set_75 dX4_set_78 ⟨Nat.le_of_ble_eq_true rfl, Nat.le_of_ble_eq_true rfl, Nat.le_of_ble_eq_true rfl, Nat.le_of_ble_eq_true rfl⟩
        · skip
          exact absurd h2 c_41
    · skip
      have c_13 : ¬ i < 4 := fun h9 => c_13 ((nI_ltI (a := i) (b := 4) (by omega) (by omega)).mpr h9)
      exfalso; omega
set_option maxHeartbeats 4000000 in
set_option maxRecDepth 100000 in
theorem k_X4_append_t1 (l : Launch) (hst : l.stackTraces = false) (D : va_G) (cy : Nat → ClassId) (N : Nat) (L : Nat → Nat) (F : Nat → va_E) (hN : 162 ≤ N) (C : CT) (a : Int32) (h : a < 33 ∨ ¬ a ≤ 126) : GX l D cy N L yX4_append wsX4_append ({ frames := 7, cells := 1, slots := 6, locals := 150 }) [.ref (L 0), .int a] (cW cy L F C) xA := by
  refine GX.ofW (cc := cX4_append) (maxL := 2) (ret := (some .int)) (by decide) rfl (Nat.le_of_ble_eq_true rfl) ?_
  intro p e s m below meth c ls hx hb hr hts hown hlocks hml hK hA hG hS hl hno
  have hl : lv_has ls 2 [(0, .ref (L 0)), (1, .int a)] := hl
  refine lv_iload_n hx hb dX4_append_0 rfl (lv_at hl 1 rfl) ?_
  refine lv_bipush (v := 33) hx hb dX4_append_1 (by decide) ?_
  refine lv_icmp_lt (tgt := 12) hx hb dX4_append_3 (by decide) (fun c_3 => ?_) (fun c_3 => ?_)
  · skip
    exact g_thr (cls := xA) (ik := 63) (is := 162) (ic := 67) (text := "no character of a text") hx hb hst hown hts hlocks hml hK hG hS hno hl.1 (by decide) (by decide +kernel) (by decide +kernel) (by decide +kernel) (by decide +kernel) (by decide +kernel) (by decide +kernel) (by decide +kernel) dX4_append_12 dX4_append_15 dX4_append_16 dX4_append_18 dX4_append_21 ⟨Nat.le_of_ble_eq_true rfl, Nat.le_of_ble_eq_true rfl, Nat.le_of_ble_eq_true rfl, Nat.le_of_ble_eq_true rfl⟩
  · skip
    refine lv_iload_n hx hb dX4_append_6 rfl (lv_at hl 1 rfl) ?_
    refine lv_bipush (v := 126) hx hb dX4_append_7 (by decide) ?_
    refine lv_icmp_le (tgt := 22) hx hb dX4_append_9 (by decide) (fun c_9 => ?_) (fun c_9 => ?_)
    · skip
      exact (fun h8 => h8.elim (fun h9 => absurd h9 c_3) (fun h9 => absurd c_9 h9)) h
    · skip
      exact g_thr (cls := xA) (ik := 63) (is := 162) (ic := 67) (text := "no character of a text") hx hb hst hown hts hlocks hml hK hG hS hno hl.1 (by decide) (by decide +kernel) (by decide +kernel) (by decide +kernel) (by decide +kernel) (by decide +kernel) (by decide +kernel) (by decide +kernel) dX4_append_12 dX4_append_15 dX4_append_16 dX4_append_18 dX4_append_21 ⟨Nat.le_of_ble_eq_true rfl, Nat.le_of_ble_eq_true rfl, Nat.le_of_ble_eq_true rfl, Nat.le_of_ble_eq_true rfl⟩
set_option maxHeartbeats 4000000 in
set_option maxRecDepth 100000 in
theorem k_X4_append_t2 (l : Launch) (hst : l.stackTraces = false) (D : va_G) (cy : Nat → ClassId) (N : Nat) (L : Nat → Nat) (F : Nat → va_E) (hN : 162 ≤ N) (C : CT) (a : Int32) (h1 : ¬ a < 33) (h2 : a ≤ 126) (h : cL C = 60) : GX l D cy N L yX4_append wsX4_append ({ frames := 7, cells := 1, slots := 6, locals := 150 }) [.ref (L 0), .int a] (cW cy L F C) xS := by
  refine GX.ofW (cc := cX4_append) (maxL := 2) (ret := (some .int)) (by decide) rfl (Nat.le_of_ble_eq_true rfl) ?_
  intro p e s m below meth c ls hx hb hr hts hown hlocks hml hK hA hG hS hl hno
  have hl : lv_has ls 2 [(0, .ref (L 0)), (1, .int a)] := hl
  have hf28 := hts (.fieldLink RX4 28 "SiloPads" "length" "I") (by decide +kernel)
  have hinX4 : ∀ w ∈ u_ws RX4 TX4 8, w ∈ wsX4_append := by decide +kernel
  have hf24 := hts (.fieldLink RX4 24 "SiloPads" "codes" "[I") (by decide +kernel)
  refine lv_iload_n hx hb dX4_append_0 rfl (lv_at hl 1 rfl) ?_
  refine lv_bipush (v := 33) hx hb dX4_append_1 (by decide) ?_
  refine lv_icmp_lt (tgt := 12) hx hb dX4_append_3 (by decide) (fun c_3 => ?_) (fun c_3 => ?_)
  · skip
    exact absurd c_3 h1
  · skip
    refine lv_iload_n hx hb dX4_append_6 rfl (lv_at hl 1 rfl) ?_
    refine lv_bipush (v := 126) hx hb dX4_append_7 (by decide) ?_
    refine lv_icmp_le (tgt := 22) hx hb dX4_append_9 (by decide) (fun c_9 => ?_) (fun c_9 => ?_)
    · skip
      refine lv_aload_n hx hb dX4_append_22 rfl (lv_at hl 0 rfl) ?_
      refine g_get (ci := 4) (C := RX4) (T := TX4) (M := 8) hx hb hts hinX4 hown hK hG (by omega) cW_o rfl 4 (by decide) hf28 rfl rfl dX4_append_23 ?_
      refine lv_aload_n hx hb dX4_append_26 rfl (lv_at hl 0 rfl) ?_
      refine g_get (ci := 4) (C := RX4) (T := TX4) (M := 8) hx hb hts hinX4 hown hK hG (by omega) cW_o rfl 3 (by decide) hf24 rfl rfl dX4_append_27 ?_
      refine g_alen (t0 := 0) (v := nI 60) hx hb hK hG (by omega) cW_b rfl rfl dX4_append_30 ?_
      refine lv_icmp_lt (tgt := 44) hx hb dX4_append_31 (by decide) (fun c_31 => ?_) (fun c_31 => ?_)
      · skip
        have c_31 : (cL C) < 60 := (nI_ltI (a := cL C) (b := 60) (by omega) (by omega)).mp c_31
        exfalso; omega
      · skip
        have c_31 : ¬ (cL C) < 60 := fun h9 => c_31 ((nI_ltI (a := cL C) (b := 60) (by omega) (by omega)).mpr h9)
        exact g_thr (cls := xS) (ik := 120) (is := 164) (ic := 124) (text := "the buffer is full") hx hb hst hown hts hlocks hml hK hG hS hno hl.1 (by decide) (by decide +kernel) (by decide +kernel) (by decide +kernel) (by decide +kernel) (by decide +kernel) (by decide +kernel) (by decide +kernel) dX4_append_34 dX4_append_37 dX4_append_38 dX4_append_40 dX4_append_43 ⟨Nat.le_of_ble_eq_true rfl, Nat.le_of_ble_eq_true rfl, Nat.le_of_ble_eq_true rfl, Nat.le_of_ble_eq_true rfl⟩
    · skip
      exact absurd h2 c_9
set_option maxHeartbeats 4000000 in
set_option maxRecDepth 100000 in
theorem k_X4_undo_no (l : Launch) (hst : l.stackTraces = false) (D : va_G) (cy : Nat → ClassId) (N : Nat) (L : Nat → Nat) (F : Nat → va_E) (hN : 162 ≤ N) (C : CT)  (h : cQ C = 0) : GX l D cy N L yX4_undo wsX4_undo ({ frames := 7, cells := 1, slots := 6, locals := 150 }) [.ref (L 0)] (cW cy L F C) xS := by
  refine GX.ofW (cc := cX4_undo) (maxL := 1) (ret := (some .int)) (by decide) rfl (Nat.le_of_ble_eq_true rfl) ?_
  intro p e s m below meth c ls hx hb hr hts hown hlocks hml hK hA hG hS hl hno
  have hl : lv_has ls 1 [(0, .ref (L 0))] := hl
  have hf20 := hts (.fieldLink RX4 20 "SiloPads" "savedStates" "I") (by decide +kernel)
  have hinX4 : ∀ w ∈ u_ws RX4 TX4 8, w ∈ wsX4_undo := by decide +kernel
  refine lv_aload_n hx hb dX4_undo_0 rfl (lv_at hl 0 rfl) ?_
  refine g_get (ci := 4) (C := RX4) (T := TX4) (M := 8) hx hb hts hinX4 hown hK hG (by omega) cW_o rfl 2 (by decide) hf20 rfl rfl dX4_undo_1 ?_
  refine lv_if_ne (tgt := 17) hx hb dX4_undo_4 (by decide) (fun c_4 => ?_) (fun c_4 => ?_)
  · skip
    have c_4 : ¬ (cQ C) = 0 := fun h9 => c_4 ((nI_eq (a := cQ C) (b := 0) (by omega) (by omega)).mpr h9)
    exfalso; omega
  · skip
    have c_4 : (cQ C) = 0 := (nI_eq (a := cQ C) (b := 0) (by omega) (by omega)).mp c_4
    exact g_thr (cls := xS) (ik := 120) (is := 184) (ic := 124) (text := "no saved state") hx hb hst hown hts hlocks hml hK hG hS hno hl.1 (by decide) (by decide +kernel) (by decide +kernel) (by decide +kernel) (by decide +kernel) (by decide +kernel) (by decide +kernel) (by decide +kernel) dX4_undo_7 dX4_undo_10 dX4_undo_11 dX4_undo_13 dX4_undo_16 ⟨Nat.le_of_ble_eq_true rfl, Nat.le_of_ble_eq_true rfl, Nat.le_of_ble_eq_true rfl, Nat.le_of_ble_eq_true rfl⟩
set_option maxHeartbeats 4000000 in
set_option maxRecDepth 100000 in
theorem k_X4_silo_t1 (l : Launch) (hst : l.stackTraces = false) (D : va_G) (cy : Nat → ClassId) (N : Nat) (L : Nat → Nat) (F : Nat → va_E) (hN : 162 ≤ N) (C : CT) (a b : Int32) (h : ¬ c_noSilo a = 0) : GX l D cy N L yX4_silo wsX4_silo ({ frames := 7, cells := 1, slots := 6, locals := 150 }) [.ref (L 0), .int a, .int b] (cW cy L F C) xI := by
  refine GX.ofW (cc := cX4_silo) (maxL := 4) (ret := (some .int)) (by decide) rfl (Nat.le_of_ble_eq_true rfl) ?_
  intro p e s m below meth c ls hx hb hr hts hown hlocks hml hK hA hG hS hl hno
  have hl : lv_has ls 4 [(0, .ref (L 0)), (1, .int a), (2, .int b)] := hl
  refine lv_iload_n hx hb dX4_silo_0 rfl (lv_at hl 1 rfl) ?_
  refine g_cSi (As := [.int a]) (rest := []) hx hb hml hown hts hK hA hG hS (k_X4_isNoSilo l D cy N L _ a ) (g_cwS 1 hts gX4_silo_X4_isNoSilo rfl rfl rfl (by decide +kernel) ⟨Nat.le_of_ble_eq_true rfl, Nat.le_of_ble_eq_true rfl⟩) rfl rfl hl.1 (Nat.le_of_ble_eq_true rfl) dX4_silo_1 ⟨Nat.zero_le _, Nat.zero_le _⟩ (fun H locs hG hS => ?_)
  refine lv_if_eq (tgt := 17) hx hb dX4_silo_4 (by decide) (fun c_4 => ?_) (fun c_4 => ?_)
  · skip
    exact absurd c_4 h
  · skip
    exact g_thr (cls := xI) (ik := 56) (is := 107) (ic := 60) (text := "no such silo") hx hb hst hown hts hlocks hml hK hG hS hno hl.1 (by decide) (by decide +kernel) (by decide +kernel) (by decide +kernel) (by decide +kernel) (by decide +kernel) (by decide +kernel) (by decide +kernel) dX4_silo_7 dX4_silo_10 dX4_silo_11 dX4_silo_13 dX4_silo_16 ⟨Nat.le_of_ble_eq_true rfl, Nat.le_of_ble_eq_true rfl, Nat.le_of_ble_eq_true rfl, Nat.le_of_ble_eq_true rfl⟩
set_option maxHeartbeats 4000000 in
set_option maxRecDepth 100000 in
theorem k_X4_silo_t2 (l : Launch) (hst : l.stackTraces = false) (D : va_G) (cy : Nat → ClassId) (N : Nat) (L : Nat → Nat) (F : Nat → va_E) (hN : 162 ≤ N) (C : CT) (k : Nat) (b : Int32) (hk : k < 4) (n0 : ¬ b = 0) (n1 : ¬ b = 1) (n2 : ¬ b = 2) (n3 : ¬ b = 3) (n4 : ¬ b = 4) (n5 : ¬ b = 5) : GX l D cy N L yX4_silo wsX4_silo ({ frames := 7, cells := 1, slots := 6, locals := 150 }) [.ref (L 0), .int (nI k), .int b] (cW cy L F C) xA := by
  refine GX.ofW (cc := cX4_silo) (maxL := 4) (ret := (some .int)) (by decide) rfl (Nat.le_of_ble_eq_true rfl) ?_
  intro p e s m below meth c ls hx hb hr hts hown hlocks hml hK hA hG hS hl hno
  have hl : lv_has ls 4 [(0, .ref (L 0)), (1, .int (nI k)), (2, .int b)] := hl
  have hf10 := hts (.fieldLink RX4 10 "SiloPads" "now" "LSiloPads$Yard;") (by decide +kernel)
  have hinX4 : ∀ w ∈ u_ws RX4 TX4 8, w ∈ wsX4_silo := by decide +kernel
  have hf94 := hts (.fieldLink RX4 94 "SiloPads$Yard" "silos" "[LSiloPads$Silo;") (by decide +kernel)
  have hinX3 : ∀ w ∈ u_ws RX3 TX3 9, w ∈ wsX4_silo := by decide +kernel
  refine lv_iload_n hx hb dX4_silo_0 rfl (lv_at hl 1 rfl) ?_
  refine g_cSi (As := [.int (nI k)]) (rest := []) hx hb hml hown hts hK hA hG hS (k_X4_isNoSilo l D cy N L _ (nI k) ) (g_cwS 1 hts gX4_silo_X4_isNoSilo rfl rfl rfl (by decide +kernel) ⟨Nat.le_of_ble_eq_true rfl, Nat.le_of_ble_eq_true rfl⟩) rfl rfl hl.1 (Nat.le_of_ble_eq_true rfl) dX4_silo_1 ⟨Nat.zero_le _, Nat.zero_le _⟩ (fun H locs hG hS => ?_)
  refine lv_toI (y := 0) (c_noSilo_k hk) ?_
  refine lv_if_eq (tgt := 17) hx hb dX4_silo_4 (by decide) (fun c_4 => ?_) (fun c_4 => ?_)
  · skip
    refine lv_aload_n hx hb dX4_silo_17 rfl (lv_at hl 0 rfl) ?_
    refine g_get (ci := 4) (C := RX4) (T := TX4) (M := 8) hx hb hts hinX4 hown hK hG (by omega) cW_o rfl 0 (by decide) hf10 rfl rfl dX4_silo_18 ?_
    refine g_get (ci := 3) (C := RX3) (T := TX3) (M := 9) hx hb hts hinX3 hown hK hG (by omega) cW_yo rfl 0 (by decide) hf94 rfl rfl dX4_silo_21 ?_
    refine lv_iload_n hx hb dX4_silo_24 rfl (lv_at hl 1 rfl) ?_
    refine g_aald (j := 1 + 4 + 3 * k) hx hb hK hG (by omega) cW_ys (t0 := 1) rfl (k := k) rfl (by omega) (by decide) rfl dX4_silo_25 ?_
    refine lv_astore_n (lv' := [(3, .ref (L (1 + 4 + 3 * k))), (0, .ref (L 0)), (1, .int (nI k)), (2, .int b)]) hx hb dX4_silo_26 rfl hl (by decide) rfl (fun ls hl => ?_)
    refine lv_iload_n hx hb dX4_silo_27 rfl (lv_at hl 3 rfl) ?_
    refine lv_toI (y := b) rfl ?_
    by_cases c_28_0 : b = 0
    · skip
      exact absurd c_28_0 n0
    by_cases c_28_1 : b = 1
    · skip
      exact absurd c_28_1 n1
    by_cases c_28_2 : b = 2
    · skip
      exact absurd c_28_2 n2
    by_cases c_28_3 : b = 3
    · skip
      exact absurd c_28_3 n3
    by_cases c_28_4 : b = 4
    · skip
      exact absurd c_28_4 n4
    by_cases c_28_5 : b = 5
    · skip
      exact absurd c_28_5 n5
    refine lv_tableOut (tgt := 111) hx hb dX4_silo_28 (by have q0 := sw_ne (n := 0) (by decide) c_28_0; have q1 := sw_ne (n := 1) (by decide) c_28_1; have q2 := sw_ne (n := 2) (by decide) c_28_2; have q3 := sw_ne (n := 3) (by decide) c_28_3; have q4 := sw_ne (n := 4) (by decide) c_28_4; have q5 := sw_ne (n := 5) (by decide) c_28_5; omega) (by decide) ?_
    exact g_thr (cls := xA) (ik := 63) (is := 197) (ic := 67) (text := "no such number of a silo") hx hb hst hown hts hlocks hml hK hG hS hno hl.1 (by decide) (by decide +kernel) (by decide +kernel) (by decide +kernel) (by decide +kernel) (by decide +kernel) (by decide +kernel) (by decide +kernel) dX4_silo_111 dX4_silo_114 dX4_silo_115 dX4_silo_117 dX4_silo_120 ⟨Nat.le_of_ble_eq_true rfl, Nat.le_of_ble_eq_true rfl, Nat.le_of_ble_eq_true rfl, Nat.le_of_ble_eq_true rfl⟩
  · skip
    exact absurd c_4 (by decide)
set_option maxHeartbeats 4000000 in
set_option maxRecDepth 100000 in
theorem k_X4_layer_t1 (l : Launch) (hst : l.stackTraces = false) (D : va_G) (cy : Nat → ClassId) (N : Nat) (L : Nat → Nat) (F : Nat → va_E) (hN : 162 ≤ N) (C : CT) (a b t : Int32) (h : ¬ c_noSilo a = 0) : GX l D cy N L yX4_layer wsX4_layer ({ frames := 7, cells := 1, slots := 6, locals := 150 }) [.ref (L 0), .int a, .int b, .int t] (cW cy L F C) xI := by
  refine GX.ofW (cc := cX4_layer) (maxL := 5) (ret := (some .int)) (by decide) rfl (Nat.le_of_ble_eq_true rfl) ?_
  intro p e s m below meth c ls hx hb hr hts hown hlocks hml hK hA hG hS hl hno
  have hl : lv_has ls 5 [(0, .ref (L 0)), (1, .int a), (2, .int b), (3, .int t)] := hl
  refine lv_iload_n hx hb dX4_layer_0 rfl (lv_at hl 1 rfl) ?_
  refine g_cSi (As := [.int a]) (rest := []) hx hb hml hown hts hK hA hG hS (k_X4_isNoSilo l D cy N L _ a ) (g_cwS 1 hts gX4_layer_X4_isNoSilo rfl rfl rfl (by decide +kernel) ⟨Nat.le_of_ble_eq_true rfl, Nat.le_of_ble_eq_true rfl⟩) rfl rfl hl.1 (Nat.le_of_ble_eq_true rfl) dX4_layer_1 ⟨Nat.zero_le _, Nat.zero_le _⟩ (fun H locs hG hS => ?_)
  refine lv_if_eq (tgt := 17) hx hb dX4_layer_4 (by decide) (fun c_4 => ?_) (fun c_4 => ?_)
  · skip
    exact absurd c_4 h
  · skip
    exact g_thr (cls := xI) (ik := 56) (is := 107) (ic := 60) (text := "no such silo") hx hb hst hown hts hlocks hml hK hG hS hno hl.1 (by decide) (by decide +kernel) (by decide +kernel) (by decide +kernel) (by decide +kernel) (by decide +kernel) (by decide +kernel) (by decide +kernel) dX4_layer_7 dX4_layer_10 dX4_layer_11 dX4_layer_13 dX4_layer_16 ⟨Nat.le_of_ble_eq_true rfl, Nat.le_of_ble_eq_true rfl, Nat.le_of_ble_eq_true rfl, Nat.le_of_ble_eq_true rfl⟩
set_option maxHeartbeats 4000000 in
set_option maxRecDepth 100000 in
theorem k_X4_layer_t1b (l : Launch) (hst : l.stackTraces = false) (D : va_G) (cy : Nat → ClassId) (N : Nat) (L : Nat → Nat) (F : Nat → va_E) (hN : 162 ≤ N) (C : CT) (k : Nat) (b t : Int32) (hk : k < 4) (h : b < 0 ∨ ¬ b < nI (sN (yS (cY C) k))) : GX l D cy N L yX4_layer wsX4_layer ({ frames := 7, cells := 1, slots := 6, locals := 150 }) [.ref (L 0), .int (nI k), .int b, .int t] (cW cy L F C) xI := by
  refine GX.ofW (cc := cX4_layer) (maxL := 5) (ret := (some .int)) (by decide) rfl (Nat.le_of_ble_eq_true rfl) ?_
  intro p e s m below meth c ls hx hb hr hts hown hlocks hml hK hA hG hS hl hno
  have hl : lv_has ls 5 [(0, .ref (L 0)), (1, .int (nI k)), (2, .int b), (3, .int t)] := hl
  have hf10 := hts (.fieldLink RX4 10 "SiloPads" "now" "LSiloPads$Yard;") (by decide +kernel)
  have hinX4 : ∀ w ∈ u_ws RX4 TX4 8, w ∈ wsX4_layer := by decide +kernel
  have hf94 := hts (.fieldLink RX4 94 "SiloPads$Yard" "silos" "[LSiloPads$Silo;") (by decide +kernel)
  have hinX3 : ∀ w ∈ u_ws RX3 TX3 9, w ∈ wsX4_layer := by decide +kernel
  have hf125 := hts (.fieldLink RX4 125 "SiloPads$Silo" "layers" "I") (by decide +kernel)
  have hinX1 : ∀ w ∈ u_ws RX1 TX1 6, w ∈ wsX4_layer := by decide +kernel
  refine lv_iload_n hx hb dX4_layer_0 rfl (lv_at hl 1 rfl) ?_
  refine g_cSi (As := [.int (nI k)]) (rest := []) hx hb hml hown hts hK hA hG hS (k_X4_isNoSilo l D cy N L _ (nI k) ) (g_cwS 1 hts gX4_layer_X4_isNoSilo rfl rfl rfl (by decide +kernel) ⟨Nat.le_of_ble_eq_true rfl, Nat.le_of_ble_eq_true rfl⟩) rfl rfl hl.1 (Nat.le_of_ble_eq_true rfl) dX4_layer_1 ⟨Nat.zero_le _, Nat.zero_le _⟩ (fun H locs hG hS => ?_)
  refine lv_toI (y := 0) (c_noSilo_k hk) ?_
  refine lv_if_eq (tgt := 17) hx hb dX4_layer_4 (by decide) (fun c_4 => ?_) (fun c_4 => ?_)
  · skip
    refine lv_aload_n hx hb dX4_layer_17 rfl (lv_at hl 0 rfl) ?_
    refine g_get (ci := 4) (C := RX4) (T := TX4) (M := 8) hx hb hts hinX4 hown hK hG (by omega) cW_o rfl 0 (by decide) hf10 rfl rfl dX4_layer_18 ?_
    refine g_get (ci := 3) (C := RX3) (T := TX3) (M := 9) hx hb hts hinX3 hown hK hG (by omega) cW_yo rfl 0 (by decide) hf94 rfl rfl dX4_layer_21 ?_
    refine lv_iload_n hx hb dX4_layer_24 rfl (lv_at hl 1 rfl) ?_
    refine g_aald (j := 1 + 4 + 3 * k) hx hb hK hG (by omega) cW_ys (t0 := 1) rfl (k := k) rfl (by omega) (by decide) rfl dX4_layer_25 ?_
    refine lv_astore (lv' := [(4, .ref (L (1 + 4 + 3 * k))), (0, .ref (L 0)), (1, .int (nI k)), (2, .int b), (3, .int t)]) hx hb dX4_layer_26 hl (by decide) rfl (fun ls hl => ?_)
    refine lv_iload_n hx hb dX4_layer_28 rfl (lv_at hl 3 rfl) ?_
    refine lv_if_lt (tgt := 41) hx hb dX4_layer_29 (by decide) (fun c_29 => ?_) (fun c_29 => ?_)
    · skip
      exact g_thr (cls := xI) (ik := 56) (is := 199) (ic := 60) (text := "no such layer") hx hb hst hown hts hlocks hml hK hG hS hno hl.1 (by decide) (by decide +kernel) (by decide +kernel) (by decide +kernel) (by decide +kernel) (by decide +kernel) (by decide +kernel) (by decide +kernel) dX4_layer_41 dX4_layer_44 dX4_layer_45 dX4_layer_47 dX4_layer_50 ⟨Nat.le_of_ble_eq_true rfl, Nat.le_of_ble_eq_true rfl, Nat.le_of_ble_eq_true rfl, Nat.le_of_ble_eq_true rfl⟩
    · skip
      refine lv_iload_n hx hb dX4_layer_32 rfl (lv_at hl 3 rfl) ?_
      refine lv_aload hx hb dX4_layer_33 (lv_at hl 0 rfl) ?_
      refine g_get (ci := 1) (C := RX1) (T := TX1) (M := 6) hx hb hts hinX1 hown hK hG (by omega) (cW_so (k := k) (by omega)) rfl 2 (by decide) hf125 rfl rfl dX4_layer_35 ?_
      refine lv_icmp_lt (tgt := 51) hx hb dX4_layer_38 (by decide) (fun c_38 => ?_) (fun c_38 => ?_)
      · skip
        exact (fun h8 => h8.elim (fun h9 => absurd h9 c_29) (fun h9 => absurd c_38 h9)) h
      · skip
        exact g_thr (cls := xI) (ik := 56) (is := 199) (ic := 60) (text := "no such layer") hx hb hst hown hts hlocks hml hK hG hS hno hl.1 (by decide) (by decide +kernel) (by decide +kernel) (by decide +kernel) (by decide +kernel) (by decide +kernel) (by decide +kernel) (by decide +kernel) dX4_layer_41 dX4_layer_44 dX4_layer_45 dX4_layer_47 dX4_layer_50 ⟨Nat.le_of_ble_eq_true rfl, Nat.le_of_ble_eq_true rfl, Nat.le_of_ble_eq_true rfl, Nat.le_of_ble_eq_true rfl⟩
  · skip
    exact absurd c_4 (by decide)
set_option maxHeartbeats 4000000 in
set_option maxRecDepth 100000 in
theorem k_X4_layer_t2 (l : Launch) (hst : l.stackTraces = false) (D : va_G) (cy : Nat → ClassId) (N : Nat) (L : Nat → Nat) (F : Nat → va_E) (hN : 162 ≤ N) (C : CT) (k j : Nat) (b : Int32) (hk : k < 4) (hj : j < sN (yS (cY C) k)) (hn10 : sN (yS (cY C) k) ≤ 10) (n0 : ¬ b = 0) (n1 : ¬ b = 1) (n2 : ¬ b = 2) : GX l D cy N L yX4_layer wsX4_layer ({ frames := 7, cells := 1, slots := 6, locals := 150 }) [.ref (L 0), .int (nI k), .int (nI j), .int b] (cW cy L F C) xA := by
  refine GX.ofW (cc := cX4_layer) (maxL := 5) (ret := (some .int)) (by decide) rfl (Nat.le_of_ble_eq_true rfl) ?_
  intro p e s m below meth c ls hx hb hr hts hown hlocks hml hK hA hG hS hl hno
  have hl : lv_has ls 5 [(0, .ref (L 0)), (1, .int (nI k)), (2, .int (nI j)), (3, .int b)] := hl
  have hf10 := hts (.fieldLink RX4 10 "SiloPads" "now" "LSiloPads$Yard;") (by decide +kernel)
  have hinX4 : ∀ w ∈ u_ws RX4 TX4 8, w ∈ wsX4_layer := by decide +kernel
  have hf94 := hts (.fieldLink RX4 94 "SiloPads$Yard" "silos" "[LSiloPads$Silo;") (by decide +kernel)
  have hinX3 : ∀ w ∈ u_ws RX3 TX3 9, w ∈ wsX4_layer := by decide +kernel
  have hf125 := hts (.fieldLink RX4 125 "SiloPads$Silo" "layers" "I") (by decide +kernel)
  have hinX1 : ∀ w ∈ u_ws RX1 TX1 6, w ∈ wsX4_layer := by decide +kernel
  refine lv_iload_n hx hb dX4_layer_0 rfl (lv_at hl 1 rfl) ?_
  refine g_cSi (As := [.int (nI k)]) (rest := []) hx hb hml hown hts hK hA hG hS (k_X4_isNoSilo l D cy N L _ (nI k) ) (g_cwS 1 hts gX4_layer_X4_isNoSilo rfl rfl rfl (by decide +kernel) ⟨Nat.le_of_ble_eq_true rfl, Nat.le_of_ble_eq_true rfl⟩) rfl rfl hl.1 (Nat.le_of_ble_eq_true rfl) dX4_layer_1 ⟨Nat.zero_le _, Nat.zero_le _⟩ (fun H locs hG hS => ?_)
  refine lv_toI (y := 0) (c_noSilo_k hk) ?_
  refine lv_if_eq (tgt := 17) hx hb dX4_layer_4 (by decide) (fun c_4 => ?_) (fun c_4 => ?_)
  · skip
    refine lv_aload_n hx hb dX4_layer_17 rfl (lv_at hl 0 rfl) ?_
    refine g_get (ci := 4) (C := RX4) (T := TX4) (M := 8) hx hb hts hinX4 hown hK hG (by omega) cW_o rfl 0 (by decide) hf10 rfl rfl dX4_layer_18 ?_
    refine g_get (ci := 3) (C := RX3) (T := TX3) (M := 9) hx hb hts hinX3 hown hK hG (by omega) cW_yo rfl 0 (by decide) hf94 rfl rfl dX4_layer_21 ?_
    refine lv_iload_n hx hb dX4_layer_24 rfl (lv_at hl 1 rfl) ?_
    refine g_aald (j := 1 + 4 + 3 * k) hx hb hK hG (by omega) cW_ys (t0 := 1) rfl (k := k) rfl (by omega) (by decide) rfl dX4_layer_25 ?_
    refine lv_astore (lv' := [(4, .ref (L (1 + 4 + 3 * k))), (0, .ref (L 0)), (1, .int (nI k)), (2, .int (nI j)), (3, .int b)]) hx hb dX4_layer_26 hl (by decide) rfl (fun ls hl => ?_)
    refine lv_iload_n hx hb dX4_layer_28 rfl (lv_at hl 3 rfl) ?_
    refine lv_if_lt (tgt := 41) hx hb dX4_layer_29 (by decide) (fun c_29 => ?_) (fun c_29 => ?_)
    · skip
      have c_29 : j < 0 := (nI_ltI (a := j) (b := 0) (by omega) (by omega)).mp c_29
      exfalso; omega
    · skip
      have c_29 : ¬ j < 0 := fun h9 => c_29 ((nI_ltI (a := j) (b := 0) (by omega) (by omega)).mpr h9)
      refine lv_iload_n hx hb dX4_layer_32 rfl (lv_at hl 3 rfl) ?_
      refine lv_aload hx hb dX4_layer_33 (lv_at hl 0 rfl) ?_
      refine g_get (ci := 1) (C := RX1) (T := TX1) (M := 6) hx hb hts hinX1 hown hK hG (by omega) (cW_so (k := k) (by omega)) rfl 2 (by decide) hf125 rfl rfl dX4_layer_35 ?_
      refine lv_icmp_lt (tgt := 51) hx hb dX4_layer_38 (by decide) (fun c_38 => ?_) (fun c_38 => ?_)
      · skip
        have c_38 : j < (sN (yS (cY C) k)) := (nI_ltI (a := j) (b := sN (yS (cY C) k)) (by omega) (by omega)).mp c_38
        refine lv_iload_n hx hb dX4_layer_51 rfl (lv_at hl 4 rfl) ?_
        refine lv_toI (y := b) rfl ?_
        by_cases c_52_0 : b = 0
        · skip
          exact absurd c_52_0 n0
        by_cases c_52_1 : b = 1
        · skip
          exact absurd c_52_1 n1
        by_cases c_52_2 : b = 2
        · skip
          exact absurd c_52_2 n2
        refine lv_tableOut (tgt := 108) hx hb dX4_layer_52 (by have q0 := sw_ne (n := 0) (by decide) c_52_0; have q1 := sw_ne (n := 1) (by decide) c_52_1; have q2 := sw_ne (n := 2) (by decide) c_52_2; omega) (by decide) ?_
        exact g_thr (cls := xA) (ik := 63) (is := 209) (ic := 67) (text := "no such number of a layer") hx hb hst hown hts hlocks hml hK hG hS hno hl.1 (by decide) (by decide +kernel) (by decide +kernel) (by decide +kernel) (by decide +kernel) (by decide +kernel) (by decide +kernel) (by decide +kernel) dX4_layer_108 dX4_layer_111 dX4_layer_112 dX4_layer_114 dX4_layer_117 ⟨Nat.le_of_ble_eq_true rfl, Nat.le_of_ble_eq_true rfl, Nat.le_of_ble_eq_true rfl, Nat.le_of_ble_eq_true rfl⟩
      · skip
        have c_38 : ¬ j < (sN (yS (cY C) k)) := fun h9 => c_38 ((nI_ltI (a := j) (b := sN (yS (cY C) k)) (by omega) (by omega)).mpr h9)
        exfalso; omega
  · skip
    exact absurd c_4 (by decide)
set_option maxHeartbeats 4000000 in
set_option maxRecDepth 100000 in
theorem k_X4_shipOf_t1 (l : Launch) (hst : l.stackTraces = false) (D : va_G) (cy : Nat → ClassId) (N : Nat) (L : Nat → Nat) (F : Nat → va_E) (hN : 162 ≤ N) (C : CT) (a b : Int32) (h : ¬ c_noShip a = 0) : GX l D cy N L yX4_shipOf wsX4_shipOf ({ frames := 7, cells := 1, slots := 6, locals := 150 }) [.ref (L 0), .int a, .int b] (cW cy L F C) xI := by
  refine GX.ofW (cc := cX4_shipOf) (maxL := 3) (ret := (some .int)) (by decide) rfl (Nat.le_of_ble_eq_true rfl) ?_
  intro p e s m below meth c ls hx hb hr hts hown hlocks hml hK hA hG hS hl hno
  have hl : lv_has ls 3 [(0, .ref (L 0)), (1, .int a), (2, .int b)] := hl
  refine lv_iload_n hx hb dX4_shipOf_0 rfl (lv_at hl 1 rfl) ?_
  refine g_cSi (As := [.int a]) (rest := []) hx hb hml hown hts hK hA hG hS (k_X4_isNoShip l D cy N L _ a ) (g_cwS 1 hts gX4_shipOf_X4_isNoShip rfl rfl rfl (by decide +kernel) ⟨Nat.le_of_ble_eq_true rfl, Nat.le_of_ble_eq_true rfl⟩) rfl rfl hl.1 (Nat.le_of_ble_eq_true rfl) dX4_shipOf_1 ⟨Nat.zero_le _, Nat.zero_le _⟩ (fun H locs hG hS => ?_)
  refine lv_if_eq (tgt := 17) hx hb dX4_shipOf_4 (by decide) (fun c_4 => ?_) (fun c_4 => ?_)
  · skip
    exact absurd c_4 h
  · skip
    exact g_thr (cls := xI) (ik := 56) (is := 58) (ic := 60) (text := "no such ship") hx hb hst hown hts hlocks hml hK hG hS hno hl.1 (by decide) (by decide +kernel) (by decide +kernel) (by decide +kernel) (by decide +kernel) (by decide +kernel) (by decide +kernel) (by decide +kernel) dX4_shipOf_7 dX4_shipOf_10 dX4_shipOf_11 dX4_shipOf_13 dX4_shipOf_16 ⟨Nat.le_of_ble_eq_true rfl, Nat.le_of_ble_eq_true rfl, Nat.le_of_ble_eq_true rfl, Nat.le_of_ble_eq_true rfl⟩
set_option maxHeartbeats 4000000 in
set_option maxRecDepth 100000 in
theorem k_X4_shipOf_t2 (l : Launch) (hst : l.stackTraces = false) (D : va_G) (cy : Nat → ClassId) (N : Nat) (L : Nat → Nat) (F : Nat → va_E) (hN : 162 ≤ N) (C : CT) (j : Nat) (b : Int32) (hj : j < 6) (n0 : ¬ b = 0) (n1 : ¬ b = 1) : GX l D cy N L yX4_shipOf wsX4_shipOf ({ frames := 7, cells := 1, slots := 6, locals := 150 }) [.ref (L 0), .int (nI j), .int b] (cW cy L F C) xA := by
  refine GX.ofW (cc := cX4_shipOf) (maxL := 3) (ret := (some .int)) (by decide) rfl (Nat.le_of_ble_eq_true rfl) ?_
  intro p e s m below meth c ls hx hb hr hts hown hlocks hml hK hA hG hS hl hno
  have hl : lv_has ls 3 [(0, .ref (L 0)), (1, .int (nI j)), (2, .int b)] := hl
  refine lv_iload_n hx hb dX4_shipOf_0 rfl (lv_at hl 1 rfl) ?_
  refine g_cSi (As := [.int (nI j)]) (rest := []) hx hb hml hown hts hK hA hG hS (k_X4_isNoShip l D cy N L _ (nI j) ) (g_cwS 1 hts gX4_shipOf_X4_isNoShip rfl rfl rfl (by decide +kernel) ⟨Nat.le_of_ble_eq_true rfl, Nat.le_of_ble_eq_true rfl⟩) rfl rfl hl.1 (Nat.le_of_ble_eq_true rfl) dX4_shipOf_1 ⟨Nat.zero_le _, Nat.zero_le _⟩ (fun H locs hG hS => ?_)
  refine lv_toI (y := 0) (c_noShip_j hj) ?_
  refine lv_if_eq (tgt := 17) hx hb dX4_shipOf_4 (by decide) (fun c_4 => ?_) (fun c_4 => ?_)
  · skip
    refine lv_iload_n hx hb dX4_shipOf_17 rfl (lv_at hl 2 rfl) ?_
    refine lv_if_eq (tgt := 36) hx hb dX4_shipOf_18 (by decide) (fun c_18 => ?_) (fun c_18 => ?_)
    · skip
      exact absurd c_18 n0
    · skip
      refine lv_iload_n hx hb dX4_shipOf_21 rfl (lv_at hl 2 rfl) ?_
      refine lv_iconst (v := 1) hx hb dX4_shipOf_22 (by decide) ?_
      refine lv_icmp_eq (tgt := 36) hx hb dX4_shipOf_23 (by decide) (fun c_23 => ?_) (fun c_23 => ?_)
      · skip
        exact absurd c_23 n1
      · skip
        exact g_thr (cls := xA) (ik := 63) (is := 211) (ic := 67) (text := "no such number of a ship") hx hb hst hown hts hlocks hml hK hG hS hno hl.1 (by decide) (by decide +kernel) (by decide +kernel) (by decide +kernel) (by decide +kernel) (by decide +kernel) (by decide +kernel) (by decide +kernel) dX4_shipOf_26 dX4_shipOf_29 dX4_shipOf_30 dX4_shipOf_32 dX4_shipOf_35 ⟨Nat.le_of_ble_eq_true rfl, Nat.le_of_ble_eq_true rfl, Nat.le_of_ble_eq_true rfl, Nat.le_of_ble_eq_true rfl⟩
  · skip
    exact absurd c_4 (by decide)
set_option maxHeartbeats 4000000 in
set_option maxRecDepth 100000 in
theorem k_X4_count_t1 (l : Launch) (hst : l.stackTraces = false) (D : va_G) (cy : Nat → ClassId) (N : Nat) (L : Nat → Nat) (F : Nat → va_E) (hN : 162 ≤ N) (C : CT) (b : Int32) (n0 : ¬ b = 0) (n1 : ¬ b = 1) (n2 : ¬ b = 2) (n3 : ¬ b = 3) (n4 : ¬ b = 4) (n5 : ¬ b = 5) (n6 : ¬ b = 6) (n7 : ¬ b = 7) (n8 : ¬ b = 8) (n9 : ¬ b = 9) (n10 : ¬ b = 10) (n11 : ¬ b = 11) (n12 : ¬ b = 12) (n13 : ¬ b = 13) (n14 : ¬ b = 14) : GX l D cy N L yX4_count wsX4_count ({ frames := 7, cells := 1, slots := 6, locals := 150 }) [.ref (L 0), .int b] (cW cy L F C) xA := by
  refine GX.ofW (cc := cX4_count) (maxL := 2) (ret := (some .int)) (by decide) rfl (Nat.le_of_ble_eq_true rfl) ?_
  intro p e s m below meth c ls hx hb hr hts hown hlocks hml hK hA hG hS hl hno
  have hl : lv_has ls 2 [(0, .ref (L 0)), (1, .int b)] := hl
  refine lv_iload_n hx hb dX4_count_0 rfl (lv_at hl 1 rfl) ?_
  refine lv_toI (y := b) rfl ?_
  by_cases c_1_0 : b = 0
  · skip
    exact absurd c_1_0 n0
  by_cases c_1_1 : b = 1
  · skip
    exact absurd c_1_1 n1
  by_cases c_1_2 : b = 2
  · skip
    exact absurd c_1_2 n2
  by_cases c_1_3 : b = 3
  · skip
    exact absurd c_1_3 n3
  by_cases c_1_4 : b = 4
  · skip
    exact absurd c_1_4 n4
  by_cases c_1_5 : b = 5
  · skip
    exact absurd c_1_5 n5
  by_cases c_1_6 : b = 6
  · skip
    exact absurd c_1_6 n6
  by_cases c_1_7 : b = 7
  · skip
    exact absurd c_1_7 n7
  by_cases c_1_8 : b = 8
  · skip
    exact absurd c_1_8 n8
  by_cases c_1_9 : b = 9
  · skip
    exact absurd c_1_9 n9
  by_cases c_1_10 : b = 10
  · skip
    exact absurd c_1_10 n10
  by_cases c_1_11 : b = 11
  · skip
    exact absurd c_1_11 n11
  by_cases c_1_12 : b = 12
  · skip
    exact absurd c_1_12 n12
  by_cases c_1_13 : b = 13
  · skip
    exact absurd c_1_13 n13
  by_cases c_1_14 : b = 14
  · skip
    exact absurd c_1_14 n14
  refine lv_tableOut (tgt := 174) hx hb dX4_count_1 (by have q0 := sw_ne (n := 0) (by decide) c_1_0; have q1 := sw_ne (n := 1) (by decide) c_1_1; have q2 := sw_ne (n := 2) (by decide) c_1_2; have q3 := sw_ne (n := 3) (by decide) c_1_3; have q4 := sw_ne (n := 4) (by decide) c_1_4; have q5 := sw_ne (n := 5) (by decide) c_1_5; have q6 := sw_ne (n := 6) (by decide) c_1_6; have q7 := sw_ne (n := 7) (by decide) c_1_7; have q8 := sw_ne (n := 8) (by decide) c_1_8; have q9 := sw_ne (n := 9) (by decide) c_1_9; have q10 := sw_ne (n := 10) (by decide) c_1_10; have q11 := sw_ne (n := 11) (by decide) c_1_11; have q12 := sw_ne (n := 12) (by decide) c_1_12; have q13 := sw_ne (n := 13) (by decide) c_1_13; have q14 := sw_ne (n := 14) (by decide) c_1_14; omega) (by decide) ?_
  exact g_thr (cls := xA) (ik := 63) (is := 231) (ic := 67) (text := "no such count") hx hb hst hown hts hlocks hml hK hG hS hno hl.1 (by decide) (by decide +kernel) (by decide +kernel) (by decide +kernel) (by decide +kernel) (by decide +kernel) (by decide +kernel) (by decide +kernel) dX4_count_174 dX4_count_177 dX4_count_178 dX4_count_180 dX4_count_183 ⟨Nat.le_of_ble_eq_true rfl, Nat.le_of_ble_eq_true rfl, Nat.le_of_ble_eq_true rfl, Nat.le_of_ble_eq_true rfl⟩
set_option maxHeartbeats 4000000 in
set_option maxRecDepth 100000 in
theorem k_X4_whyNot_t1 (l : Launch) (hst : l.stackTraces = false) (D : va_G) (cy : Nat → ClassId) (N : Nat) (L : Nat → Nat) (F : Nat → va_E) (hN : 162 ≤ N) (C : CT) (a b : Int32) (h : ¬ c_noSilo a = 0 ∨ ¬ c_noShip b = 0) : GX l D cy N L yX4_whyNot wsX4_whyNot ({ frames := 7, cells := 1, slots := 6, locals := 150 }) [.ref (L 0), .int a, .int b] (cW cy L F C) xI := by
  refine GX.ofW (cc := cX4_whyNot) (maxL := 4) (ret := (some .int)) (by decide) rfl (Nat.le_of_ble_eq_true rfl) ?_
  intro p e s m below meth c ls hx hb hr hts hown hlocks hml hK hA hG hS hl hno
  have hl : lv_has ls 4 [(0, .ref (L 0)), (1, .int a), (2, .int b)] := hl
  refine lv_iload_n hx hb dX4_whyNot_0 rfl (lv_at hl 1 rfl) ?_
  refine g_cSi (As := [.int a]) (rest := []) hx hb hml hown hts hK hA hG hS (k_X4_isNoSilo l D cy N L _ a ) (g_cwS 1 hts gX4_whyNot_X4_isNoSilo rfl rfl rfl (by decide +kernel) ⟨Nat.le_of_ble_eq_true rfl, Nat.le_of_ble_eq_true rfl⟩) rfl rfl hl.1 (Nat.le_of_ble_eq_true rfl) dX4_whyNot_1 ⟨Nat.zero_le _, Nat.zero_le _⟩ (fun H locs hG hS => ?_)
  refine lv_if_ne (tgt := 14) hx hb dX4_whyNot_4 (by decide) (fun c_4 => ?_) (fun c_4 => ?_)
  · skip
    exact g_thr (cls := xI) (ik := 56) (is := 90) (ic := 60) (text := "no such silo or ship") hx hb hst hown hts hlocks hml hK hG hS hno hl.1 (by decide) (by decide +kernel) (by decide +kernel) (by decide +kernel) (by decide +kernel) (by decide +kernel) (by decide +kernel) (by decide +kernel) dX4_whyNot_14 dX4_whyNot_17 dX4_whyNot_18 dX4_whyNot_20 dX4_whyNot_23 ⟨Nat.le_of_ble_eq_true rfl, Nat.le_of_ble_eq_true rfl, Nat.le_of_ble_eq_true rfl, Nat.le_of_ble_eq_true rfl⟩
  · skip
    refine lv_iload_n hx hb dX4_whyNot_7 rfl (lv_at hl 2 rfl) ?_
    refine g_cSi (As := [.int b]) (rest := []) hx hb hml hown hts hK hA hG hS (k_X4_isNoShip l D cy N L _ b ) (g_cwS 1 hts gX4_whyNot_X4_isNoShip rfl rfl rfl (by decide +kernel) ⟨Nat.le_of_ble_eq_true rfl, Nat.le_of_ble_eq_true rfl⟩) rfl rfl hl.1 (Nat.le_of_ble_eq_true rfl) dX4_whyNot_8 ⟨Nat.zero_le _, Nat.zero_le _⟩ (fun H locs hG hS => ?_)
    refine lv_if_eq (tgt := 24) hx hb dX4_whyNot_11 (by decide) (fun c_11 => ?_) (fun c_11 => ?_)
    · skip
      exact (fun h8 => h8.elim (fun h9 => absurd c_4 h9) (fun h9 => absurd c_11 h9)) h
    · skip
      exact g_thr (cls := xI) (ik := 56) (is := 90) (ic := 60) (text := "no such silo or ship") hx hb hst hown hts hlocks hml hK hG hS hno hl.1 (by decide) (by decide +kernel) (by decide +kernel) (by decide +kernel) (by decide +kernel) (by decide +kernel) (by decide +kernel) (by decide +kernel) dX4_whyNot_14 dX4_whyNot_17 dX4_whyNot_18 dX4_whyNot_20 dX4_whyNot_23 ⟨Nat.le_of_ble_eq_true rfl, Nat.le_of_ble_eq_true rfl, Nat.le_of_ble_eq_true rfl, Nat.le_of_ble_eq_true rfl⟩
set_option maxHeartbeats 4000000 in
set_option maxRecDepth 100000 in
theorem k_X4_ifFlowed_t1 (l : Launch) (hst : l.stackTraces = false) (D : va_G) (cy : Nat → ClassId) (N : Nat) (L : Nat → Nat) (F : Nat → va_E) (hN : 162 ≤ N) (C : CT) (a b t u : Int32) (h : ¬ c_noSilo a = 0 ∨ ¬ c_noShip b = 0) : GX l D cy N L yX4_ifFlowed wsX4_ifFlowed ({ frames := 7, cells := 1, slots := 6, locals := 150 }) [.ref (L 0), .int a, .int b, .int t, .int u] (cW cy L F C) xI := by
  refine GX.ofW (cc := cX4_ifFlowed) (maxL := 5) (ret := (some .int)) (by decide) rfl (Nat.le_of_ble_eq_true rfl) ?_
  intro p e s m below meth c ls hx hb hr hts hown hlocks hml hK hA hG hS hl hno
  have hl : lv_has ls 5 [(0, .ref (L 0)), (1, .int a), (2, .int b), (3, .int t), (4, .int u)] := hl
  refine lv_iload_n hx hb dX4_ifFlowed_0 rfl (lv_at hl 1 rfl) ?_
  refine g_cSi (As := [.int a]) (rest := []) hx hb hml hown hts hK hA hG hS (k_X4_isNoSilo l D cy N L _ a ) (g_cwS 1 hts gX4_ifFlowed_X4_isNoSilo rfl rfl rfl (by decide +kernel) ⟨Nat.le_of_ble_eq_true rfl, Nat.le_of_ble_eq_true rfl⟩) rfl rfl hl.1 (Nat.le_of_ble_eq_true rfl) dX4_ifFlowed_1 ⟨Nat.zero_le _, Nat.zero_le _⟩ (fun H locs hG hS => ?_)
  refine lv_if_ne (tgt := 14) hx hb dX4_ifFlowed_4 (by decide) (fun c_4 => ?_) (fun c_4 => ?_)
  · skip
    exact g_thr (cls := xI) (ik := 56) (is := 90) (ic := 60) (text := "no such silo or ship") hx hb hst hown hts hlocks hml hK hG hS hno hl.1 (by decide) (by decide +kernel) (by decide +kernel) (by decide +kernel) (by decide +kernel) (by decide +kernel) (by decide +kernel) (by decide +kernel) dX4_ifFlowed_14 dX4_ifFlowed_17 dX4_ifFlowed_18 dX4_ifFlowed_20 dX4_ifFlowed_23 ⟨Nat.le_of_ble_eq_true rfl, Nat.le_of_ble_eq_true rfl, Nat.le_of_ble_eq_true rfl, Nat.le_of_ble_eq_true rfl⟩
  · skip
    refine lv_iload_n hx hb dX4_ifFlowed_7 rfl (lv_at hl 2 rfl) ?_
    refine g_cSi (As := [.int b]) (rest := []) hx hb hml hown hts hK hA hG hS (k_X4_isNoShip l D cy N L _ b ) (g_cwS 1 hts gX4_ifFlowed_X4_isNoShip rfl rfl rfl (by decide +kernel) ⟨Nat.le_of_ble_eq_true rfl, Nat.le_of_ble_eq_true rfl⟩) rfl rfl hl.1 (Nat.le_of_ble_eq_true rfl) dX4_ifFlowed_8 ⟨Nat.zero_le _, Nat.zero_le _⟩ (fun H locs hG hS => ?_)
    refine lv_if_eq (tgt := 24) hx hb dX4_ifFlowed_11 (by decide) (fun c_11 => ?_) (fun c_11 => ?_)
    · skip
      exact (fun h8 => h8.elim (fun h9 => absurd c_4 h9) (fun h9 => absurd c_11 h9)) h
    · skip
      exact g_thr (cls := xI) (ik := 56) (is := 90) (ic := 60) (text := "no such silo or ship") hx hb hst hown hts hlocks hml hK hG hS hno hl.1 (by decide) (by decide +kernel) (by decide +kernel) (by decide +kernel) (by decide +kernel) (by decide +kernel) (by decide +kernel) (by decide +kernel) dX4_ifFlowed_14 dX4_ifFlowed_17 dX4_ifFlowed_18 dX4_ifFlowed_20 dX4_ifFlowed_23 ⟨Nat.le_of_ble_eq_true rfl, Nat.le_of_ble_eq_true rfl, Nat.le_of_ble_eq_true rfl, Nat.le_of_ble_eq_true rfl⟩
set_option maxHeartbeats 4000000 in
set_option maxRecDepth 100000 in
theorem k_X4_ifFlowed_t2 (l : Launch) (hst : l.stackTraces = false) (D : va_G) (cy : Nat → ClassId) (N : Nat) (L : Nat → Nat) (F : Nat → va_E) (hN : 162 ≤ N) (C : CT) (k j : Nat) (t u : Int32) (hk : k < 4) (hj : j < 6) (h : t < 1 ∨ 24 < t ∨ u < 0 ∨ ¬ u ≤ 4) : GX l D cy N L yX4_ifFlowed wsX4_ifFlowed ({ frames := 7, cells := 1, slots := 6, locals := 150 }) [.ref (L 0), .int (nI k), .int (nI j), .int t, .int u] (cW cy L F C) xA := by
  refine GX.ofW (cc := cX4_ifFlowed) (maxL := 5) (ret := (some .int)) (by decide) rfl (Nat.le_of_ble_eq_true rfl) ?_
  intro p e s m below meth c ls hx hb hr hts hown hlocks hml hK hA hG hS hl hno
  have hl : lv_has ls 5 [(0, .ref (L 0)), (1, .int (nI k)), (2, .int (nI j)), (3, .int t), (4, .int u)] := hl
  refine lv_iload_n hx hb dX4_ifFlowed_0 rfl (lv_at hl 1 rfl) ?_
  refine g_cSi (As := [.int (nI k)]) (rest := []) hx hb hml hown hts hK hA hG hS (k_X4_isNoSilo l D cy N L _ (nI k) ) (g_cwS 1 hts gX4_ifFlowed_X4_isNoSilo rfl rfl rfl (by decide +kernel) ⟨Nat.le_of_ble_eq_true rfl, Nat.le_of_ble_eq_true rfl⟩) rfl rfl hl.1 (Nat.le_of_ble_eq_true rfl) dX4_ifFlowed_1 ⟨Nat.zero_le _, Nat.zero_le _⟩ (fun H locs hG hS => ?_)
  refine lv_toI (y := 0) (c_noSilo_k hk) ?_
  refine lv_if_ne (tgt := 14) hx hb dX4_ifFlowed_4 (by decide) (fun c_4 => ?_) (fun c_4 => ?_)
  · skip
    exact absurd c_4 (by decide)
  · skip
    refine lv_iload_n hx hb dX4_ifFlowed_7 rfl (lv_at hl 2 rfl) ?_
    refine g_cSi (As := [.int (nI j)]) (rest := []) hx hb hml hown hts hK hA hG hS (k_X4_isNoShip l D cy N L _ (nI j) ) (g_cwS 1 hts gX4_ifFlowed_X4_isNoShip rfl rfl rfl (by decide +kernel) ⟨Nat.le_of_ble_eq_true rfl, Nat.le_of_ble_eq_true rfl⟩) rfl rfl hl.1 (Nat.le_of_ble_eq_true rfl) dX4_ifFlowed_8 ⟨Nat.zero_le _, Nat.zero_le _⟩ (fun H locs hG hS => ?_)
    refine lv_toI (y := 0) (c_noShip_j hj) ?_
    refine lv_if_eq (tgt := 24) hx hb dX4_ifFlowed_11 (by decide) (fun c_11 => ?_) (fun c_11 => ?_)
    · skip
      refine lv_iload_n hx hb dX4_ifFlowed_24 rfl (lv_at hl 3 rfl) ?_
      refine lv_iconst (v := 1) hx hb dX4_ifFlowed_25 (by decide) ?_
      refine lv_icmp_lt (tgt := 46) hx hb dX4_ifFlowed_26 (by decide) (fun c_26 => ?_) (fun c_26 => ?_)
      · skip
        exact g_thr (cls := xA) (ik := 63) (is := 236) (ic := 67) (text := "hours or pads out of range") hx hb hst hown hts hlocks hml hK hG hS hno hl.1 (by decide) (by decide +kernel) (by decide +kernel) (by decide +kernel) (by decide +kernel) (by decide +kernel) (by decide +kernel) (by decide +kernel) dX4_ifFlowed_46 dX4_ifFlowed_49 dX4_ifFlowed_50 dX4_ifFlowed_52 dX4_ifFlowed_55 ⟨Nat.le_of_ble_eq_true rfl, Nat.le_of_ble_eq_true rfl, Nat.le_of_ble_eq_true rfl, Nat.le_of_ble_eq_true rfl⟩
      · skip
        refine lv_iload_n hx hb dX4_ifFlowed_29 rfl (lv_at hl 3 rfl) ?_
        refine lv_bipush (v := 24) hx hb dX4_ifFlowed_30 (by decide) ?_
        refine lv_icmp_gt (tgt := 46) hx hb dX4_ifFlowed_32 (by decide) (fun c_32 => ?_) (fun c_32 => ?_)
        · skip
          exact g_thr (cls := xA) (ik := 63) (is := 236) (ic := 67) (text := "hours or pads out of range") hx hb hst hown hts hlocks hml hK hG hS hno hl.1 (by decide) (by decide +kernel) (by decide +kernel) (by decide +kernel) (by decide +kernel) (by decide +kernel) (by decide +kernel) (by decide +kernel) dX4_ifFlowed_46 dX4_ifFlowed_49 dX4_ifFlowed_50 dX4_ifFlowed_52 dX4_ifFlowed_55 ⟨Nat.le_of_ble_eq_true rfl, Nat.le_of_ble_eq_true rfl, Nat.le_of_ble_eq_true rfl, Nat.le_of_ble_eq_true rfl⟩
        · skip
          refine lv_iload hx hb dX4_ifFlowed_35 (lv_at hl 4 rfl) ?_
          refine lv_if_lt (tgt := 46) hx hb dX4_ifFlowed_37 (by decide) (fun c_37 => ?_) (fun c_37 => ?_)
          · skip
            exact g_thr (cls := xA) (ik := 63) (is := 236) (ic := 67) (text := "hours or pads out of range") hx hb hst hown hts hlocks hml hK hG hS hno hl.1 (by decide) (by decide +kernel) (by decide +kernel) (by decide +kernel) (by decide +kernel) (by decide +kernel) (by decide +kernel) (by decide +kernel) dX4_ifFlowed_46 dX4_ifFlowed_49 dX4_ifFlowed_50 dX4_ifFlowed_52 dX4_ifFlowed_55 ⟨Nat.le_of_ble_eq_true rfl, Nat.le_of_ble_eq_true rfl, Nat.le_of_ble_eq_true rfl, Nat.le_of_ble_eq_true rfl⟩
          · skip
            refine lv_iload hx hb dX4_ifFlowed_40 (lv_at hl 4 rfl) ?_
            refine lv_iconst (v := 4) hx hb dX4_ifFlowed_42 (by decide) ?_
            refine lv_icmp_le (tgt := 56) hx hb dX4_ifFlowed_43 (by decide) (fun c_43 => ?_) (fun c_43 => ?_)
            · skip
              exact (fun h8 => h8.elim (fun h9 => absurd h9 c_26) (fun h8 => h8.elim (fun h9 => absurd h9 c_32) (fun h8 => h8.elim (fun h9 => absurd h9 c_37) (fun h9 => absurd c_43 h9)))) h
            · skip
              exact g_thr (cls := xA) (ik := 63) (is := 236) (ic := 67) (text := "hours or pads out of range") hx hb hst hown hts hlocks hml hK hG hS hno hl.1 (by decide) (by decide +kernel) (by decide +kernel) (by decide +kernel) (by decide +kernel) (by decide +kernel) (by decide +kernel) (by decide +kernel) dX4_ifFlowed_46 dX4_ifFlowed_49 dX4_ifFlowed_50 dX4_ifFlowed_52 dX4_ifFlowed_55 ⟨Nat.le_of_ble_eq_true rfl, Nat.le_of_ble_eq_true rfl, Nat.le_of_ble_eq_true rfl, Nat.le_of_ble_eq_true rfl⟩
    · skip
      exact absurd c_11 (by decide)
set_option maxHeartbeats 4000000 in
set_option maxRecDepth 100000 in
theorem k_X4_shakesNeeded_t1 (l : Launch) (hst : l.stackTraces = false) (D : va_G) (cy : Nat → ClassId) (N : Nat) (L : Nat → Nat) (F : Nat → va_E) (hN : 162 ≤ N) (C : CT) (a : Int32) (h : ¬ c_noSilo a = 0) : GX l D cy N L yX4_shakesNeeded wsX4_shakesNeeded ({ frames := 7, cells := 1, slots := 6, locals := 150 }) [.ref (L 0), .int a] (cW cy L F C) xI := by
  refine GX.ofW (cc := cX4_shakesNeeded) (maxL := 2) (ret := (some .int)) (by decide) rfl (Nat.le_of_ble_eq_true rfl) ?_
  intro p e s m below meth c ls hx hb hr hts hown hlocks hml hK hA hG hS hl hno
  have hl : lv_has ls 2 [(0, .ref (L 0)), (1, .int a)] := hl
  refine lv_iload_n hx hb dX4_shakesNeeded_0 rfl (lv_at hl 1 rfl) ?_
  refine g_cSi (As := [.int a]) (rest := []) hx hb hml hown hts hK hA hG hS (k_X4_isNoSilo l D cy N L _ a ) (g_cwS 1 hts gX4_shakesNeeded_X4_isNoSilo rfl rfl rfl (by decide +kernel) ⟨Nat.le_of_ble_eq_true rfl, Nat.le_of_ble_eq_true rfl⟩) rfl rfl hl.1 (Nat.le_of_ble_eq_true rfl) dX4_shakesNeeded_1 ⟨Nat.zero_le _, Nat.zero_le _⟩ (fun H locs hG hS => ?_)
  refine lv_if_eq (tgt := 17) hx hb dX4_shakesNeeded_4 (by decide) (fun c_4 => ?_) (fun c_4 => ?_)
  · skip
    exact absurd c_4 h
  · skip
    exact g_thr (cls := xI) (ik := 56) (is := 107) (ic := 60) (text := "no such silo") hx hb hst hown hts hlocks hml hK hG hS hno hl.1 (by decide) (by decide +kernel) (by decide +kernel) (by decide +kernel) (by decide +kernel) (by decide +kernel) (by decide +kernel) (by decide +kernel) dX4_shakesNeeded_7 dX4_shakesNeeded_10 dX4_shakesNeeded_11 dX4_shakesNeeded_13 dX4_shakesNeeded_16 ⟨Nat.le_of_ble_eq_true rfl, Nat.le_of_ble_eq_true rfl, Nat.le_of_ble_eq_true rfl, Nat.le_of_ble_eq_true rfl⟩
