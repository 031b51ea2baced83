set_option maxHeartbeats 4000000 in
set_option maxRecDepth 100000 in
theorem k_L_holds (l : Launch) (D : va_G) (cy : Nat → ClassId) (N : Nat) (L : Nat → Nat) (F : Nat → va_E) (hN : 162 ≤ N) (C : CT)  (hy : wfY (cY C)) (hn1 : ∀ k, k < 4 → 1 ≤ sN (yS (cY C) k) ∨ sC (yS (cY C) k) = 2 ∨ sC (yS (cY C) k) = 0) (hf : ¬ y_silos (cY C) 4 = 0 → vf_n64 (FP.ddiv (FP.i2d (y_soft (cY C) 4)) (FP.i2d (y_silos (cY C) 4)))) (hlay : ∀ k, k < 4 → ∀ e, e < sN (yS (cY C) k) → ¬ sT (yS (cY C) k) e < 1 ∧ ¬ 500 < sT (yS (cY C) k) e) (hz1 : iB 1 20 (yZ (cY C) 1)) (hsr : yC (cY C) 4 = 0 → ∀ k, k < 4 → ∀ e, 1 ≤ e → e < sN (yS (cY C) k) → sA (yS (cY C) k) e ≤ sA (yS (cY C) k) (e - 1)) (htot : ∀ k, k < 4 → ¬ 1200 < s_total (yS (cY C) k)) (hbr : ∀ k, k < 4 → (c_brk (yZ (cY C)) (yS (cY C) k) = 0 ↔ sC (yS (cY C) k) = 0) ∧ ¬ 3 < c_brk (yZ (cY C)) (yS (cY C) k)) (hHH : ∀ j, j < 6 → ¬ hT (yH (cY C) j) < 0 ∧ hT (yH (cY C) j) ≤ hH (yH (cY C) j)) (hadd : y_silos (cY C) 4 + y_ships (cY C) 6 + yC (cY C) 1 + yC (cY C) 3 = yC (cY C) 2) (hpd : ¬ yZ (cY C) 0 < y_pads (cY C) 4) (hur : g_bestI (y_best (cY C) 4) = -1 ↔ y_silos (cY C) 4 = 0) (hlo : ¬ Op.cmpValue (FP.dcmp (y_softD (cY C)) FP.dconst0) .l < 0) (hhi : ¬ 0 < Op.cmpValue (FP.dcmp (y_softD (cY C)) FP.dconst1) .g) : GM l D cy N L yL_holds wsL_holds ({ frames := 8, cells := 0, slots := 0, locals := 174 }) [.ref (L 0)] (cW cy L F C) (some (.int 1)) (cW cy L F C) := by
  refine GM.ofW (cc := cL_holds) (maxL := 11) (ret := (some .boolean)) (by decide) rfl (Nat.le_of_ble_eq_true rfl) ?_
  intro p e s m below meth c ls hx hb hr hts hown hlocks hml hK hA hG hS hl
  have hl : lv_has ls 11 [(0, .ref (L 0))] := hl
  refine lv_iconst (v := 0) hx hb dL_holds_0 (by decide) ?_
  refine lv_istore_n (lv' := [(1, .int 0), (0, .ref (L 0))]) hx hb dL_holds_1 rfl hl (by decide) rfl (fun ls hl => ?_)
  refine lv_iconst (v := 0) hx hb dL_holds_2 (by decide) ?_
  refine lv_istore_n (lv' := [(2, .int 0), (1, .int 0), (0, .ref (L 0))]) hx hb dL_holds_3 rfl hl (by decide) rfl (fun ls hl => ?_)
  refine lv_iconst (v := 0) hx hb dL_holds_4 (by decide) ?_
  refine lv_istore_n (lv' := [(3, .int 0), (2, .int 0), (1, .int 0), (0, .ref (L 0))]) hx hb dL_holds_5 rfl hl (by decide) rfl (fun ls hl => ?_)
  refine lv_iconst (v := 0) hx hb dL_holds_6 (by decide) ?_
  refine lv_istore (lv' := [(4, .int 0), (3, .int 0), (2, .int 0), (1, .int 0), (0, .ref (L 0))]) hx hb dL_holds_7 hl (by decide) rfl (fun ls hl => ?_)
  refine W.loop (σ := Nat) (fun k H locs ls => (k ≤ 4) ∧ GW D N L (gA N L s.heap.size) (cW cy L F C) H ∧ va_S (gA N L s.heap.size) s.heap H locs ∧ lv_has ls 11 [(1, .int (y_silos (cY C) k)), (2, .int (y_pads (cY C) k)), (3, .int (y_arches (cY C) k)), (4, .int (nI k)), (0, .ref (L 0))]) (fun k => 4 - k) 0 ⟨by omega, hG.to (rfl), hS, lv_to (lv_sub hl [3, 2, 1, 0, 4] rfl) (rfl)⟩ ?_
  intro k H locs ls hP9 ih9
  obtain ⟨hk9, hG, hS, hl⟩ := hP9
  refine lv_iload hx hb dL_holds_9 (lv_at hl 3 rfl) ?_
  refine lv_iconst (v := 4) hx hb dL_holds_11 (by decide) ?_
  refine lv_icmp_ge (tgt := 321) hx hb dL_holds_12 (by decide) (fun c_12 => ?_) (fun c_12 => ?_)
  · skip
    have c_12 : 4 ≤ k := (nI_leI (a := 4) (b := k) (by omega) (by omega)).mp c_12
    have hk4 : k = 4 := by omega
    refine lv_iconst (v := 0) hx hb dL_holds_321 (by decide) ?_
    refine lv_istore (lv' := [(4, .int 0), (1, .int (y_silos (cY C) k)), (2, .int (y_pads (cY C) k)), (3, .int (y_arches (cY C) k)), (0, .ref (L 0))]) hx hb dL_holds_322 hl (by decide) rfl (fun ls hl => ?_)
    refine lv_iconst (v := 0) hx hb dL_holds_324 (by decide) ?_
    refine lv_istore (lv' := [(5, .int 0), (4, .int 0), (1, .int (y_silos (cY C) k)), (2, .int (y_pads (cY C) k)), (3, .int (y_arches (cY C) k)), (0, .ref (L 0))]) hx hb dL_holds_325 hl (by decide) rfl (fun ls hl => ?_)
    refine W.loop (σ := Nat) (fun j H locs ls => (j ≤ 6) ∧ GW D N L (gA N L s.heap.size) (cW cy L F C) H ∧ va_S (gA N L s.heap.size) s.heap H locs ∧ lv_has ls 11 [(4, .int (y_ships (cY C) j)), (5, .int (nI j)), (1, .int (y_silos (cY C) k)), (2, .int (y_pads (cY C) k)), (3, .int (y_arches (cY C) k)), (0, .ref (L 0))]) (fun j => 6 - j) 0 ⟨by omega, hG.to (rfl), hS, lv_to (lv_sub hl [1, 0, 2, 3, 4, 5] rfl) (rfl)⟩ ?_
    intro j H locs ls hP9 ih327
    obtain ⟨hj9, hG, hS, hl⟩ := hP9
    refine lv_iload hx hb dL_holds_327 (lv_at hl 1 rfl) ?_
    refine lv_bipush (v := 6) hx hb dL_holds_329 (by decide) ?_
    refine lv_icmp_ge (tgt := 375) hx hb dL_holds_331 (by decide) (fun c_331 => ?_) (fun c_331 => ?_)
    · skip
      have c_331 : 6 ≤ j := (nI_leI (a := 6) (b := j) (by omega) (by omega)).mp c_331
      have hj6 : j = 6 := by omega
      refine lv_aload_n hx hb dL_holds_375 rfl (lv_at hl 5 rfl) ?_
      refine lv_iconst (v := 1) hx hb dL_holds_376 (by decide) ?_
      refine g_cVi (As := [.int 1]) (rest := []) hx hb hml hown hts hK hA hG hS (k_X4_count_ok l D cy N L _ (by omega) C 1 (hy) (by decide)) (cwV 1 hts gL_holds_X4_count rfl rfl rfl (by decide +kernel) ⟨Nat.le_of_ble_eq_true rfl, Nat.le_of_ble_eq_true rfl⟩) (by omega) cW_o (ci := 4) rfl rfl rfl rfl hl.1 (Nat.le_of_ble_eq_true rfl) dL_holds_377 ⟨Nat.zero_le _, Nat.zero_le _⟩ (fun H locs hG hS => ?_)
      refine lv_toI (y := y_silos (cY C) 4) (cnt_1) ?_
      refine lv_aload_n hx hb dL_holds_380 rfl (lv_at hl 5 rfl) ?_
      refine lv_iconst (v := 2) hx hb dL_holds_381 (by decide) ?_
      refine g_cVi (As := [.int 2]) (rest := [.int (y_silos (cY C) 4)]) hx hb hml hown hts hK hA hG hS (k_X4_count_ok l D cy N L _ (by omega) C 2 (hy) (by decide)) (cwV 1 hts gL_holds_X4_count rfl rfl rfl (by decide +kernel) ⟨Nat.le_of_ble_eq_true rfl, Nat.le_of_ble_eq_true rfl⟩) (by omega) cW_o (ci := 4) rfl rfl rfl rfl hl.1 (Nat.le_of_ble_eq_true rfl) dL_holds_382 ⟨Nat.zero_le _, Nat.zero_le _⟩ (fun H locs hG hS => ?_)
      refine lv_toI (y := y_ships (cY C) 6) (cnt_2) ?_
      refine lv_iadd hx hb dL_holds_385 ?_
      refine lv_aload_n hx hb dL_holds_386 rfl (lv_at hl 5 rfl) ?_
      refine lv_iconst (v := 3) hx hb dL_holds_387 (by decide) ?_
      refine g_cVi (As := [.int 3]) (rest := [.int ((y_silos (cY C) 4) + (y_ships (cY C) 6))]) hx hb hml hown hts hK hA hG hS (k_X4_count_ok l D cy N L _ (by omega) C 3 (hy) (by decide)) (cwV 1 hts gL_holds_X4_count rfl rfl rfl (by decide +kernel) ⟨Nat.le_of_ble_eq_true rfl, Nat.le_of_ble_eq_true rfl⟩) (by omega) cW_o (ci := 4) rfl rfl rfl rfl hl.1 (Nat.le_of_ble_eq_true rfl) dL_holds_388 ⟨Nat.zero_le _, Nat.zero_le _⟩ (fun H locs hG hS => ?_)
      refine lv_toI (y := yC (cY C) 1) (cnt_3) ?_
      refine lv_iadd hx hb dL_holds_391 ?_
      refine lv_aload_n hx hb dL_holds_392 rfl (lv_at hl 5 rfl) ?_
      refine lv_iconst (v := 5) hx hb dL_holds_393 (by decide) ?_
      refine g_cVi (As := [.int 5]) (rest := [.int (((y_silos (cY C) 4) + (y_ships (cY C) 6)) + (yC (cY C) 1))]) hx hb hml hown hts hK hA hG hS (k_X4_count_ok l D cy N L _ (by omega) C 5 (hy) (by decide)) (cwV 1 hts gL_holds_X4_count rfl rfl rfl (by decide +kernel) ⟨Nat.le_of_ble_eq_true rfl, Nat.le_of_ble_eq_true rfl⟩) (by omega) cW_o (ci := 4) rfl rfl rfl rfl hl.1 (Nat.le_of_ble_eq_true rfl) dL_holds_394 ⟨Nat.zero_le _, Nat.zero_le _⟩ (fun H locs hG hS => ?_)
      refine lv_toI (y := yC (cY C) 3) (cnt_5) ?_
      refine lv_iadd hx hb dL_holds_397 ?_
      refine lv_aload_n hx hb dL_holds_398 rfl (lv_at hl 5 rfl) ?_
      refine lv_iconst (v := 4) hx hb dL_holds_399 (by decide) ?_
      refine g_cVi (As := [.int 4]) (rest := [.int ((((y_silos (cY C) 4) + (y_ships (cY C) 6)) + (yC (cY C) 1)) + (yC (cY C) 3))]) hx hb hml hown hts hK hA hG hS (k_X4_count_ok l D cy N L _ (by omega) C 4 (hy) (by decide)) (cwV 1 hts gL_holds_X4_count rfl rfl rfl (by decide +kernel) ⟨Nat.le_of_ble_eq_true rfl, Nat.le_of_ble_eq_true rfl⟩) (by omega) cW_o (ci := 4) rfl rfl rfl rfl hl.1 (Nat.le_of_ble_eq_true rfl) dL_holds_400 ⟨Nat.zero_le _, Nat.zero_le _⟩ (fun H locs hG hS => ?_)
      refine lv_toI (y := yC (cY C) 2) (cnt_4) ?_
      refine lv_icmp_ne (tgt := 410) hx hb dL_holds_403 (by decide) (fun c_403 => ?_) (fun c_403 => ?_)
      · skip
        exact absurd hadd c_403
      · skip
        refine lv_iconst (v := 1) hx hb dL_holds_406 (by decide) ?_
        refine lv_goto (tgt := 411) hx hb dL_holds_407 (by decide) ?_
        refine lv_istore (lv' := [(5, .int 1), (4, .int (y_ships (cY C) j)), (1, .int (y_silos (cY C) k)), (2, .int (y_pads (cY C) k)), (3, .int (y_arches (cY C) k)), (0, .ref (L 0))]) hx hb dL_holds_411 hl (by decide) rfl (fun ls hl => ?_)
        refine lv_iload hx hb dL_holds_413 (lv_at hl 0 rfl) ?_
        refine lv_if_eq (tgt := 514) hx hb dL_holds_415 (by decide) (fun c_415 => ?_) (fun c_415 => ?_)
        · skip
          exact absurd c_415 (by decide)
        · skip
          refine lv_iload_n hx hb dL_holds_418 rfl (lv_at hl 2 rfl) ?_
          refine lv_toI (y := y_silos (cY C) 4) (by rw [hk4]) ?_
          refine lv_aload_n hx hb dL_holds_419 rfl (lv_at hl 5 rfl) ?_
          refine lv_iconst (v := 1) hx hb dL_holds_420 (by decide) ?_
          refine g_cVi (As := [.int 1]) (rest := [.int (y_silos (cY C) 4)]) hx hb hml hown hts hK hA hG hS (k_X4_count_ok l D cy N L _ (by omega) C 1 (hy) (by decide)) (cwV 1 hts gL_holds_X4_count rfl rfl rfl (by decide +kernel) ⟨Nat.le_of_ble_eq_true rfl, Nat.le_of_ble_eq_true rfl⟩) (by omega) cW_o (ci := 4) rfl rfl rfl rfl hl.1 (Nat.le_of_ble_eq_true rfl) dL_holds_421 ⟨Nat.zero_le _, Nat.zero_le _⟩ (fun H locs hG hS => ?_)
          refine lv_toI (y := y_silos (cY C) 4) (cnt_1) ?_
          refine lv_icmp_ne (tgt := 514) hx hb dL_holds_424 (by decide) (fun c_424 => ?_) (fun c_424 => ?_)
          · skip
            exact absurd rfl c_424
          · skip
            refine lv_iload hx hb dL_holds_427 (lv_at hl 1 rfl) ?_
            refine lv_toI (y := y_ships (cY C) 6) (by rw [hj6]) ?_
            refine lv_aload_n hx hb dL_holds_429 rfl (lv_at hl 5 rfl) ?_
            refine lv_iconst (v := 2) hx hb dL_holds_430 (by decide) ?_
            refine g_cVi (As := [.int 2]) (rest := [.int (y_ships (cY C) 6)]) hx hb hml hown hts hK hA hG hS (k_X4_count_ok l D cy N L _ (by omega) C 2 (hy) (by decide)) (cwV 1 hts gL_holds_X4_count rfl rfl rfl (by decide +kernel) ⟨Nat.le_of_ble_eq_true rfl, Nat.le_of_ble_eq_true rfl⟩) (by omega) cW_o (ci := 4) rfl rfl rfl rfl hl.1 (Nat.le_of_ble_eq_true rfl) dL_holds_431 ⟨Nat.zero_le _, Nat.zero_le _⟩ (fun H locs hG hS => ?_)
            refine lv_toI (y := y_ships (cY C) 6) (cnt_2) ?_
            refine lv_icmp_ne (tgt := 514) hx hb dL_holds_434 (by decide) (fun c_434 => ?_) (fun c_434 => ?_)
            · skip
              exact absurd rfl c_434
            · skip
              refine lv_iload_n hx hb dL_holds_437 rfl (lv_at hl 3 rfl) ?_
              refine lv_toI (y := y_pads (cY C) 4) (by rw [hk4]) ?_
              refine lv_aload_n hx hb dL_holds_438 rfl (lv_at hl 5 rfl) ?_
              refine lv_bipush (v := 6) hx hb dL_holds_439 (by decide) ?_
              refine g_cVi (As := [.int 6]) (rest := [.int (y_pads (cY C) 4)]) hx hb hml hown hts hK hA hG hS (k_X4_count_ok l D cy N L _ (by omega) C 6 (hy) (by decide)) (cwV 1 hts gL_holds_X4_count rfl rfl rfl (by decide +kernel) ⟨Nat.le_of_ble_eq_true rfl, Nat.le_of_ble_eq_true rfl⟩) (by omega) cW_o (ci := 4) rfl rfl rfl rfl hl.1 (Nat.le_of_ble_eq_true rfl) dL_holds_441 ⟨Nat.zero_le _, Nat.zero_le _⟩ (fun H locs hG hS => ?_)
              refine lv_toI (y := y_pads (cY C) 4) (cnt_6) ?_
              refine lv_icmp_ne (tgt := 514) hx hb dL_holds_444 (by decide) (fun c_444 => ?_) (fun c_444 => ?_)
              · skip
                exact absurd rfl c_444
              · skip
                refine lv_iload_n hx hb dL_holds_447 rfl (lv_at hl 3 rfl) ?_
                refine lv_toI (y := y_pads (cY C) 4) (by rw [hk4]) ?_
                refine lv_aload_n hx hb dL_holds_448 rfl (lv_at hl 5 rfl) ?_
                refine lv_bipush (v := 10) hx hb dL_holds_449 (by decide) ?_
                refine g_cVi (As := [.int 10]) (rest := [.int (y_pads (cY C) 4)]) hx hb hml hown hts hK hA hG hS (k_X4_count_ok l D cy N L _ (by omega) C 10 (hy) (by decide)) (cwV 1 hts gL_holds_X4_count rfl rfl rfl (by decide +kernel) ⟨Nat.le_of_ble_eq_true rfl, Nat.le_of_ble_eq_true rfl⟩) (by omega) cW_o (ci := 4) rfl rfl rfl rfl hl.1 (Nat.le_of_ble_eq_true rfl) dL_holds_451 ⟨Nat.zero_le _, Nat.zero_le _⟩ (fun H locs hG hS => ?_)
                refine lv_toI (y := yZ (cY C) 0) (cnt_10) ?_
                refine lv_icmp_gt (tgt := 514) hx hb dL_holds_454 (by decide) (fun c_454 => ?_) (fun c_454 => ?_)
                · skip
                  exact absurd c_454 hpd
                · skip
                  refine lv_iload_n hx hb dL_holds_457 rfl (lv_at hl 4 rfl) ?_
                  refine lv_toI (y := y_arches (cY C) 4) (by rw [hk4]) ?_
                  refine lv_aload_n hx hb dL_holds_458 rfl (lv_at hl 5 rfl) ?_
                  refine lv_bipush (v := 7) hx hb dL_holds_459 (by decide) ?_
                  refine g_cVi (As := [.int 7]) (rest := [.int (y_arches (cY C) 4)]) hx hb hml hown hts hK hA hG hS (k_X4_count_ok l D cy N L _ (by omega) C 7 (hy) (by decide)) (cwV 1 hts gL_holds_X4_count rfl rfl rfl (by decide +kernel) ⟨Nat.le_of_ble_eq_true rfl, Nat.le_of_ble_eq_true rfl⟩) (by omega) cW_o (ci := 4) rfl rfl rfl rfl hl.1 (Nat.le_of_ble_eq_true rfl) dL_holds_461 ⟨Nat.zero_le _, Nat.zero_le _⟩ (fun H locs hG hS => ?_)
                  refine lv_toI (y := y_arches (cY C) 4) (cnt_7) ?_
                  refine lv_icmp_ne (tgt := 514) hx hb dL_holds_464 (by decide) (fun c_464 => ?_) (fun c_464 => ?_)
                  · skip
                    exact absurd rfl c_464
                  · skip
                    refine lv_aload_n hx hb dL_holds_467 rfl (lv_at hl 5 rfl) ?_
                    refine g_cVi (As := []) (rest := []) hx hb hml hown hts hK hA hG hS (k_X4_urgent l D cy N L _ (by omega) C  (hy)) (cwV 0 hts gL_holds_X4_urgent rfl rfl rfl (by decide +kernel) ⟨Nat.le_of_ble_eq_true rfl, Nat.le_of_ble_eq_true rfl⟩) (by omega) cW_o (ci := 4) rfl rfl rfl rfl hl.1 (Nat.le_of_ble_eq_true rfl) dL_holds_468 ⟨Nat.zero_le _, Nat.zero_le _⟩ (fun H locs hG hS => ?_)
                    refine lv_iconst (v := -1) hx hb dL_holds_471 (by decide) ?_
                    refine lv_icmp_ne (tgt := 479) hx hb dL_holds_472 (by decide) (fun c_472 => ?_) (fun c_472 => ?_)
                    · skip
                      refine lv_iconst (v := 0) hx hb dL_holds_479 (by decide) ?_
                      refine lv_iload_n hx hb dL_holds_480 rfl (lv_at hl 2 rfl) ?_
                      refine lv_toI (y := y_silos (cY C) 4) (by rw [hk4]) ?_
                      refine lv_if_ne (tgt := 488) hx hb dL_holds_481 (by decide) (fun c_481 => ?_) (fun c_481 => ?_)
                      · skip
                        refine lv_iconst (v := 0) hx hb dL_holds_488 (by decide) ?_
                        refine lv_icmp_ne (tgt := 514) hx hb dL_holds_489 (by decide) (fun c_489 => ?_) (fun c_489 => ?_)
                        · skip
                          exact absurd c_489 (by decide)
                        · skip
                          refine lv_aload_n hx hb dL_holds_492 rfl (lv_at hl 5 rfl) ?_
                          refine g_cVd (As := []) (rest := []) hx hb hml hown hts hK hA hG hS (k_X4_softness l D cy N L _ (by omega) C  (hy) (hf)) (cwV 0 hts gL_holds_X4_softness rfl rfl rfl (by decide +kernel) ⟨Nat.le_of_ble_eq_true rfl, Nat.le_of_ble_eq_true rfl⟩) (by omega) cW_o (ci := 4) rfl rfl rfl rfl hl.1 (Nat.le_of_ble_eq_true rfl) dL_holds_493 ⟨Nat.zero_le _, Nat.zero_le _⟩ (fun H locs hG hS => ?_)
                          refine lv_dconst0 hx hb dL_holds_496 ?_
                          refine lv_dcmp hx hb dL_holds_497 ?_
                          refine lv_if_lt (tgt := 514) hx hb dL_holds_498 (by decide) (fun c_498 => ?_) (fun c_498 => ?_)
                          · skip
                            exact absurd c_498 hlo
                          · skip
                            refine lv_aload_n hx hb dL_holds_501 rfl (lv_at hl 5 rfl) ?_
                            refine g_cVd (As := []) (rest := []) hx hb hml hown hts hK hA hG hS (k_X4_softness l D cy N L _ (by omega) C  (hy) (hf)) (cwV 0 hts gL_holds_X4_softness rfl rfl rfl (by decide +kernel) ⟨Nat.le_of_ble_eq_true rfl, Nat.le_of_ble_eq_true rfl⟩) (by omega) cW_o (ci := 4) rfl rfl rfl rfl hl.1 (Nat.le_of_ble_eq_true rfl) dL_holds_502 ⟨Nat.zero_le _, Nat.zero_le _⟩ (fun H locs hG hS => ?_)
                            refine lv_dconst1 hx hb dL_holds_505 ?_
                            refine lv_dcmp hx hb dL_holds_506 ?_
                            refine lv_if_gt (tgt := 514) hx hb dL_holds_507 (by decide) (fun c_507 => ?_) (fun c_507 => ?_)
                            · skip
                              exact absurd c_507 hhi
                            · skip
                              refine lv_iconst (v := 1) hx hb dL_holds_510 (by decide) ?_
                              refine lv_goto (tgt := 515) hx hb dL_holds_511 (by decide) ?_
                              exact g_iret hx hb hr hlocks hK hG hS rfl dL_holds_515 ⟨rfl, rfl⟩
                      · skip
                        exact absurd (hur.mpr c_481) c_472
                    · skip
                      refine lv_iconst (v := 1) hx hb dL_holds_475 (by decide) ?_
                      refine lv_goto (tgt := 480) hx hb dL_holds_476 (by decide) ?_
                      refine lv_iload_n hx hb dL_holds_480 rfl (lv_at hl 2 rfl) ?_
                      refine lv_toI (y := y_silos (cY C) 4) (by rw [hk4]) ?_
                      refine lv_if_ne (tgt := 488) hx hb dL_holds_481 (by decide) (fun c_481 => ?_) (fun c_481 => ?_)
                      · skip
                        exact absurd (hur.mp c_472) c_481
                      · skip
                        refine lv_iconst (v := 1) hx hb dL_holds_484 (by decide) ?_
                        refine lv_goto (tgt := 489) hx hb dL_holds_485 (by decide) ?_
                        refine lv_icmp_ne (tgt := 514) hx hb dL_holds_489 (by decide) (fun c_489 => ?_) (fun c_489 => ?_)
                        · skip
                          exact absurd c_489 (by decide)
                        · skip
                          refine lv_aload_n hx hb dL_holds_492 rfl (lv_at hl 5 rfl) ?_
                          refine g_cVd (As := []) (rest := []) hx hb hml hown hts hK hA hG hS (k_X4_softness l D cy N L _ (by omega) C  (hy) (hf)) (cwV 0 hts gL_holds_X4_softness rfl rfl rfl (by decide +kernel) ⟨Nat.le_of_ble_eq_true rfl, Nat.le_of_ble_eq_true rfl⟩) (by omega) cW_o (ci := 4) rfl rfl rfl rfl hl.1 (Nat.le_of_ble_eq_true rfl) dL_holds_493 ⟨Nat.zero_le _, Nat.zero_le _⟩ (fun H locs hG hS => ?_)
                          refine lv_dconst0 hx hb dL_holds_496 ?_
                          refine lv_dcmp hx hb dL_holds_497 ?_
                          refine lv_if_lt (tgt := 514) hx hb dL_holds_498 (by decide) (fun c_498 => ?_) (fun c_498 => ?_)
                          · skip
                            exact absurd c_498 hlo
                          · skip
                            refine lv_aload_n hx hb dL_holds_501 rfl (lv_at hl 5 rfl) ?_
                            refine g_cVd (As := []) (rest := []) hx hb hml hown hts hK hA hG hS (k_X4_softness l D cy N L _ (by omega) C  (hy) (hf)) (cwV 0 hts gL_holds_X4_softness rfl rfl rfl (by decide +kernel) ⟨Nat.le_of_ble_eq_true rfl, Nat.le_of_ble_eq_true rfl⟩) (by omega) cW_o (ci := 4) rfl rfl rfl rfl hl.1 (Nat.le_of_ble_eq_true rfl) dL_holds_502 ⟨Nat.zero_le _, Nat.zero_le _⟩ (fun H locs hG hS => ?_)
                            refine lv_dconst1 hx hb dL_holds_505 ?_
                            refine lv_dcmp hx hb dL_holds_506 ?_
                            refine lv_if_gt (tgt := 514) hx hb dL_holds_507 (by decide) (fun c_507 => ?_) (fun c_507 => ?_)
                            · skip
                              exact absurd c_507 hhi
                            · skip
                              refine lv_iconst (v := 1) hx hb dL_holds_510 (by decide) ?_
                              refine lv_goto (tgt := 515) hx hb dL_holds_511 (by decide) ?_
                              exact g_iret hx hb hr hlocks hK hG hS rfl dL_holds_515 ⟨rfl, rfl⟩
    · skip
      have c_331 : ¬ 6 ≤ j := fun h9 => c_331 ((nI_leI (a := 6) (b := j) (by omega) (by omega)).mpr h9)
      have hj6 : j < 6 := by omega
      refine lv_aload_n hx hb dL_holds_334 rfl (lv_at hl 5 rfl) ?_
      refine lv_iload hx hb dL_holds_335 (lv_at hl 1 rfl) ?_
      refine lv_iconst (v := 0) hx hb dL_holds_337 (by decide) ?_
      refine g_cVi (As := [.int (nI j), .int 0]) (rest := []) hx hb hml hown hts hK hA hG hS (k_X4_shipOf_ok l D cy N L _ (by omega) C j 0 (by omega) (by decide)) (cwV 2 hts gL_holds_X4_shipOf rfl rfl rfl (by decide +kernel) ⟨Nat.le_of_ble_eq_true rfl, Nat.le_of_ble_eq_true rfl⟩) (by omega) cW_o (ci := 4) rfl rfl rfl rfl hl.1 (Nat.le_of_ble_eq_true rfl) dL_holds_338 ⟨Nat.zero_le _, Nat.zero_le _⟩ (fun H locs hG hS => ?_)
      refine lv_toI (y := hT (yH (cY C) j)) (tellH_0) ?_
      refine lv_istore (lv' := [(6, .int (hT (yH (cY C) j))), (4, .int (y_ships (cY C) j)), (5, .int (nI j)), (1, .int (y_silos (cY C) k)), (2, .int (y_pads (cY C) k)), (3, .int (y_arches (cY C) k)), (0, .ref (L 0))]) hx hb dL_holds_341 hl (by decide) rfl (fun ls hl => ?_)
      refine lv_iload hx hb dL_holds_343 (lv_at hl 1 rfl) ?_
      refine lv_iload hx hb dL_holds_345 (lv_at hl 0 rfl) ?_
      refine lv_iadd hx hb dL_holds_347 ?_
      refine lv_istore (lv' := [(4, .int ((y_ships (cY C) j) + (hT (yH (cY C) j)))), (6, .int (hT (yH (cY C) j))), (5, .int (nI j)), (1, .int (y_silos (cY C) k)), (2, .int (y_pads (cY C) k)), (3, .int (y_arches (cY C) k)), (0, .ref (L 0))]) hx hb dL_holds_348 hl (by decide) rfl (fun ls hl => ?_)
      refine lv_iload hx hb dL_holds_350 (lv_at hl 1 rfl) ?_
      refine lv_if_lt (tgt := 367) hx hb dL_holds_352 (by decide) (fun c_352 => ?_) (fun c_352 => ?_)
      · skip
        exact absurd c_352 (hHH j hj6).1
      · skip
        refine lv_iload hx hb dL_holds_355 (lv_at hl 1 rfl) ?_
        refine lv_aload_n hx hb dL_holds_357 rfl (lv_at hl 6 rfl) ?_
        refine lv_iload hx hb dL_holds_358 (lv_at hl 2 rfl) ?_
        refine lv_iconst (v := 1) hx hb dL_holds_360 (by decide) ?_
        refine g_cVi (As := [.int (nI j), .int 1]) (rest := [.int (hT (yH (cY C) j))]) hx hb hml hown hts hK hA hG hS (k_X4_shipOf_ok l D cy N L _ (by omega) C j 1 (by omega) (by decide)) (cwV 2 hts gL_holds_X4_shipOf rfl rfl rfl (by decide +kernel) ⟨Nat.le_of_ble_eq_true rfl, Nat.le_of_ble_eq_true rfl⟩) (by omega) cW_o (ci := 4) rfl rfl rfl rfl hl.1 (Nat.le_of_ble_eq_true rfl) dL_holds_361 ⟨Nat.zero_le _, Nat.zero_le _⟩ (fun H locs hG hS => ?_)
        refine lv_toI (y := hH (yH (cY C) j)) (tellH_1) ?_
        refine lv_icmp_le (tgt := 369) hx hb dL_holds_364 (by decide) (fun c_364 => ?_) (fun c_364 => ?_)
        · skip
          refine lv_iinc (v := nI (j + 1)) (lv' := [(5, .int (nI (j + 1))), (4, .int ((y_ships (cY C) j) + (hT (yH (cY C) j)))), (6, .int (hT (yH (cY C) j))), (1, .int (y_silos (cY C) k)), (2, .int (y_pads (cY C) k)), (3, .int (y_arches (cY C) k)), (0, .ref (L 0))]) hx hb dL_holds_369 hl (k := 2) rfl (nI_add j 1) (by decide) rfl (fun ls hl => ?_)
          refine lv_goto (tgt := 327) hx hb dL_holds_372 (by decide) ?_
          have hl : lv_has ls 11 [(4, .int ((y_ships (cY C) j) + (hT (yH (cY C) j)))), (5, .int (nI (j + 1))), (1, .int (y_silos (cY C) k)), (2, .int (y_pads (cY C) k)), (3, .int (y_arches (cY C) k)), (0, .ref (L 0))] := lv_sub hl [1, 0, 3, 4, 5, 6] rfl
          exact ih327 (j + 1) _ _ _ (by omega) ⟨by omega, hG.to (rfl), hS, lv_to hl (rfl)⟩
        · skip
          exact absurd (hHH j hj6).2 c_364
  · skip
    have c_12 : ¬ 4 ≤ k := fun h9 => c_12 ((nI_leI (a := 4) (b := k) (by omega) (by omega)).mpr h9)
    have hk4 : k < 4 := by omega
    have hn10 := hy k hk4
    refine lv_iconst (v := 0) hx hb dL_holds_15 (by decide) ?_
    refine lv_istore (lv' := [(5, .int 0), (1, .int (y_silos (cY C) k)), (2, .int (y_pads (cY C) k)), (3, .int (y_arches (cY C) k)), (4, .int (nI k)), (0, .ref (L 0))]) hx hb dL_holds_16 hl (by decide) rfl (fun ls hl => ?_)
    refine lv_aload_n hx hb dL_holds_18 rfl (lv_at hl 5 rfl) ?_
    refine lv_iload hx hb dL_holds_19 (lv_at hl 4 rfl) ?_
    refine lv_iconst (v := 1) hx hb dL_holds_21 (by decide) ?_
    refine g_cVi (As := [.int (nI k), .int 1]) (rest := []) hx hb hml hown hts hK hA hG hS (k_X4_silo_ok l D cy N L _ (by omega) C k 1 (hy) (by omega) (by decide)) (cwV 2 hts gL_holds_X4_silo rfl rfl rfl (by decide +kernel) ⟨Nat.le_of_ble_eq_true rfl, Nat.le_of_ble_eq_true rfl⟩) (by omega) cW_o (ci := 4) rfl rfl rfl rfl hl.1 (Nat.le_of_ble_eq_true rfl) dL_holds_22 ⟨Nat.zero_le _, Nat.zero_le _⟩ (fun H locs hG hS => ?_)
    refine lv_toN (k := sN (yS (cY C) k)) (tell_1) ?_
    refine lv_istore (lv' := [(6, .int (nI (sN (yS (cY C) k)))), (5, .int 0), (1, .int (y_silos (cY C) k)), (2, .int (y_pads (cY C) k)), (3, .int (y_arches (cY C) k)), (4, .int (nI k)), (0, .ref (L 0))]) hx hb dL_holds_25 hl (by decide) rfl (fun ls hl => ?_)
    refine lv_iconst (v := 0) hx hb dL_holds_27 (by decide) ?_
    refine lv_istore (lv' := [(7, .int 0), (6, .int (nI (sN (yS (cY C) k)))), (5, .int 0), (1, .int (y_silos (cY C) k)), (2, .int (y_pads (cY C) k)), (3, .int (y_arches (cY C) k)), (4, .int (nI k)), (0, .ref (L 0))]) hx hb dL_holds_28 hl (by decide) rfl (fun ls hl => ?_)
    refine W.loop (σ := Nat) (fun e H locs ls => (e ≤ sN (yS (cY C) k)) ∧ GW D N L (gA N L s.heap.size) (cW cy L F C) H ∧ va_S (gA N L s.heap.size) s.heap H locs ∧ lv_has ls 11 [(5, .int (s_sum (sT (yS (cY C) k)) 0 e)), (7, .int (nI e)), (6, .int (nI (sN (yS (cY C) k)))), (1, .int (y_silos (cY C) k)), (2, .int (y_pads (cY C) k)), (3, .int (y_arches (cY C) k)), (4, .int (nI k)), (0, .ref (L 0))]) (fun e => sN (yS (cY C) k) - e) 0 ⟨by omega, hG.to (rfl), hS, lv_to (lv_sub hl [2, 0, 1, 3, 4, 5, 6, 7] rfl) (rfl)⟩ ?_
    intro e H locs ls hP9 ih30
    obtain ⟨hei, hG, hS, hl⟩ := hP9
    refine lv_iload hx hb dL_holds_30 (lv_at hl 1 rfl) ?_
    refine lv_iload hx hb dL_holds_32 (lv_at hl 2 rfl) ?_
    refine lv_icmp_ge (tgt := 190) hx hb dL_holds_34 (by decide) (fun c_34 => ?_) (fun c_34 => ?_)
    · skip
      have c_34 : (sN (yS (cY C) k)) ≤ e := (nI_leI (a := sN (yS (cY C) k)) (b := e) (by omega) (by omega)).mp c_34
      have he9 : e = sN (yS (cY C) k) := by omega
      refine lv_aload_n hx hb dL_holds_190 rfl (lv_at hl 7 rfl) ?_
      refine lv_iload hx hb dL_holds_191 (lv_at hl 6 rfl) ?_
      refine g_cVi (As := [.int (nI k)]) (rest := []) hx hb hml hown hts hK hA hG hS (k_X4_shakesNeeded_ok l D cy N L _ (by omega) C k (hy) (by omega) (hn1 k hk4)) (cwV 1 hts gL_holds_X4_shakesNeeded rfl rfl rfl (by decide +kernel) ⟨Nat.le_of_ble_eq_true rfl, Nat.le_of_ble_eq_true rfl⟩) (by omega) cW_o (ci := 4) rfl rfl rfl rfl hl.1 (Nat.le_of_ble_eq_true rfl) dL_holds_193 ⟨Nat.zero_le _, Nat.zero_le _⟩ (fun H locs hG hS => ?_)
      refine lv_istore (lv' := [(7, .int (c_brk (yZ (cY C)) (yS (cY C) k))), (5, .int (s_sum (sT (yS (cY C) k)) 0 e)), (6, .int (nI (sN (yS (cY C) k)))), (1, .int (y_silos (cY C) k)), (2, .int (y_pads (cY C) k)), (3, .int (y_arches (cY C) k)), (4, .int (nI k)), (0, .ref (L 0))]) hx hb dL_holds_196 hl (by decide) rfl (fun ls hl => ?_)
      refine lv_iload hx hb dL_holds_198 (lv_at hl 1 rfl) ?_
      refine lv_toI (y := s_total (yS (cY C) k)) (by rw [he9]; rfl) ?_
      refine lv_aload_n hx hb dL_holds_200 rfl (lv_at hl 7 rfl) ?_
      refine lv_iload hx hb dL_holds_201 (lv_at hl 6 rfl) ?_
      refine lv_iconst (v := 0) hx hb dL_holds_203 (by decide) ?_
      refine g_cVi (As := [.int (nI k), .int 0]) (rest := [.int (s_total (yS (cY C) k))]) hx hb hml hown hts hK hA hG hS (k_X4_silo_ok l D cy N L _ (by omega) C k 0 (hy) (by omega) (by decide)) (cwV 2 hts gL_holds_X4_silo rfl rfl rfl (by decide +kernel) ⟨Nat.le_of_ble_eq_true rfl, Nat.le_of_ble_eq_true rfl⟩) (by omega) cW_o (ci := 4) rfl rfl rfl rfl hl.1 (Nat.le_of_ble_eq_true rfl) dL_holds_204 ⟨Nat.zero_le _, Nat.zero_le _⟩ (fun H locs hG hS => ?_)
      refine lv_toI (y := s_total (yS (cY C) k)) (tell_0) ?_
      refine lv_icmp_ne (tgt := 288) hx hb dL_holds_207 (by decide) (fun c_207 => ?_) (fun c_207 => ?_)
      · skip
        exact absurd rfl c_207
      · skip
        refine lv_iload hx hb dL_holds_210 (lv_at hl 1 rfl) ?_
        refine lv_toI (y := s_total (yS (cY C) k)) (by rw [he9]; rfl) ?_
        refine lv_sipush (v := 1200) hx hb dL_holds_212 (by decide) ?_
        refine lv_icmp_gt (tgt := 288) hx hb dL_holds_215 (by decide) (fun c_215 => ?_) (fun c_215 => ?_)
        · skip
          exact absurd c_215 (htot k hk4)
        · skip
          refine lv_iload hx hb dL_holds_218 (lv_at hl 2 rfl) ?_
          refine lv_bipush (v := 10) hx hb dL_holds_220 (by decide) ?_
          refine lv_icmp_gt (tgt := 288) hx hb dL_holds_222 (by decide) (fun c_222 => ?_) (fun c_222 => ?_)
          · skip
            have c_222 : 10 < (sN (yS (cY C) k)) := (nI_ltI (a := 10) (b := sN (yS (cY C) k)) (by omega) (by omega)).mp c_222
            exfalso; omega
          · skip
            have c_222 : ¬ 10 < (sN (yS (cY C) k)) := fun h9 => c_222 ((nI_ltI (a := 10) (b := sN (yS (cY C) k)) (by omega) (by omega)).mpr h9)
            refine lv_iload hx hb dL_holds_225 (lv_at hl 0 rfl) ?_
            refine lv_if_ne (tgt := 234) hx hb dL_holds_227 (by decide) (fun c_227 => ?_) (fun c_227 => ?_)
            · skip
              refine lv_iconst (v := 0) hx hb dL_holds_234 (by decide) ?_
              refine lv_aload_n hx hb dL_holds_235 rfl (lv_at hl 7 rfl) ?_
              refine lv_iload hx hb dL_holds_236 (lv_at hl 6 rfl) ?_
              refine lv_iconst (v := 3) hx hb dL_holds_238 (by decide) ?_
              refine g_cVi (As := [.int (nI k), .int 3]) (rest := [.int 0]) hx hb hml hown hts hK hA hG hS (k_X4_silo_ok l D cy N L _ (by omega) C k 3 (hy) (by omega) (by decide)) (cwV 2 hts gL_holds_X4_silo rfl rfl rfl (by decide +kernel) ⟨Nat.le_of_ble_eq_true rfl, Nat.le_of_ble_eq_true rfl⟩) (by omega) cW_o (ci := 4) rfl rfl rfl rfl hl.1 (Nat.le_of_ble_eq_true rfl) dL_holds_239 ⟨Nat.zero_le _, Nat.zero_le _⟩ (fun H locs hG hS => ?_)
              refine lv_toI (y := if sC (yS (cY C) k) = 0 then 0 else 1) (tell_3) ?_
              refine lv_if_ne (tgt := 249) hx hb dL_holds_242 (by decide) (fun c_242 => ?_) (fun c_242 => ?_)
              · skip
                refine lv_iconst (v := 0) hx hb dL_holds_249 (by decide) ?_
                refine lv_icmp_ne (tgt := 288) hx hb dL_holds_250 (by decide) (fun c_250 => ?_) (fun c_250 => ?_)
                · skip
                  exact absurd c_250 (by decide)
                · skip
                  refine lv_iload hx hb dL_holds_253 (lv_at hl 0 rfl) ?_
                  refine lv_iconst (v := 3) hx hb dL_holds_255 (by decide) ?_
                  refine lv_icmp_gt (tgt := 288) hx hb dL_holds_256 (by decide) (fun c_256 => ?_) (fun c_256 => ?_)
                  · skip
                    exact absurd c_256 (hbr k hk4).2
                  · skip
                    refine lv_aload_n hx hb dL_holds_259 rfl (lv_at hl 7 rfl) ?_
                    refine lv_iload hx hb dL_holds_260 (lv_at hl 6 rfl) ?_
                    refine lv_iconst (v := 0) hx hb dL_holds_262 (by decide) ?_
                    refine g_cVi (As := [.int (nI k), .int 0]) (rest := []) hx hb hml hown hts hK hA hG hS (k_X4_whyNot_ok l D cy N L _ (by omega) C k 0 (hy) (by omega) (by omega)) (cwV 2 hts gL_holds_X4_whyNot rfl rfl rfl (by decide +kernel) ⟨Nat.le_of_ble_eq_true rfl, Nat.le_of_ble_eq_true rfl⟩) (by omega) cW_o (ci := 4) rfl rfl rfl rfl hl.1 (Nat.le_of_ble_eq_true rfl) dL_holds_263 ⟨Nat.zero_le _, Nat.zero_le _⟩ (fun H locs hG hS => ?_)
                    refine lv_iconst (v := 1) hx hb dL_holds_266 (by decide) ?_
                    refine lv_icmp_ne (tgt := 274) hx hb dL_holds_267 (by decide) (fun c_267 => ?_) (fun c_267 => ?_)
                    · skip
                      refine lv_iconst (v := 0) hx hb dL_holds_274 (by decide) ?_
                      refine lv_iload hx hb dL_holds_275 (lv_at hl 2 rfl) ?_
                      refine lv_if_ne (tgt := 284) hx hb dL_holds_277 (by decide) (fun c_277 => ?_) (fun c_277 => ?_)
                      · skip
                        have c_277 : ¬ (sN (yS (cY C) k)) = 0 := fun h9 => c_277 ((nI_eq (a := sN (yS (cY C) k)) (b := 0) (by omega) (by omega)).mpr h9)
                        refine lv_iconst (v := 0) hx hb dL_holds_284 (by decide) ?_
                        refine lv_icmp_eq (tgt := 290) hx hb dL_holds_285 (by decide) (fun c_285 => ?_) (fun c_285 => ?_)
                        · skip
                          refine lv_iload_n hx hb dL_holds_290 rfl (lv_at hl 3 rfl) ?_
                          refine lv_iload hx hb dL_holds_291 (lv_at hl 1 rfl) ?_
                          refine lv_toI (y := s_total (yS (cY C) k)) (by rw [he9]; rfl) ?_
                          refine lv_iadd hx hb dL_holds_293 ?_
                          refine lv_istore_n (lv' := [(1, .int ((y_silos (cY C) k) + (s_total (yS (cY C) k)))), (7, .int (c_brk (yZ (cY C)) (yS (cY C) k))), (5, .int (s_sum (sT (yS (cY C) k)) 0 e)), (6, .int (nI (sN (yS (cY C) k)))), (2, .int (y_pads (cY C) k)), (3, .int (y_arches (cY C) k)), (4, .int (nI k)), (0, .ref (L 0))]) hx hb dL_holds_294 rfl hl (by decide) rfl (fun ls hl => ?_)
                          refine lv_iload_n hx hb dL_holds_295 rfl (lv_at hl 4 rfl) ?_
                          refine lv_aload_n hx hb dL_holds_296 rfl (lv_at hl 7 rfl) ?_
                          refine lv_iload hx hb dL_holds_297 (lv_at hl 6 rfl) ?_
                          refine lv_iconst (v := 2) hx hb dL_holds_299 (by decide) ?_
                          refine g_cVi (As := [.int (nI k), .int 2]) (rest := [.int (y_pads (cY C) k)]) hx hb hml hown hts hK hA hG hS (k_X4_silo_ok l D cy N L _ (by omega) C k 2 (hy) (by omega) (by decide)) (cwV 2 hts gL_holds_X4_silo rfl rfl rfl (by decide +kernel) ⟨Nat.le_of_ble_eq_true rfl, Nat.le_of_ble_eq_true rfl⟩) (by omega) cW_o (ci := 4) rfl rfl rfl rfl hl.1 (Nat.le_of_ble_eq_true rfl) dL_holds_300 ⟨Nat.zero_le _, Nat.zero_le _⟩ (fun H locs hG hS => ?_)
                          refine lv_toI (y := sP (yS (cY C) k)) (tell_2) ?_
                          refine lv_iadd hx hb dL_holds_303 ?_
                          refine lv_istore_n (lv' := [(2, .int ((y_pads (cY C) k) + (sP (yS (cY C) k)))), (1, .int ((y_silos (cY C) k) + (s_total (yS (cY C) k)))), (7, .int (c_brk (yZ (cY C)) (yS (cY C) k))), (5, .int (s_sum (sT (yS (cY C) k)) 0 e)), (6, .int (nI (sN (yS (cY C) k)))), (3, .int (y_arches (cY C) k)), (4, .int (nI k)), (0, .ref (L 0))]) hx hb dL_holds_304 rfl hl (by decide) rfl (fun ls hl => ?_)
                          refine lv_iload_n hx hb dL_holds_305 rfl (lv_at hl 5 rfl) ?_
                          refine lv_aload_n hx hb dL_holds_306 rfl (lv_at hl 7 rfl) ?_
                          refine lv_iload hx hb dL_holds_307 (lv_at hl 6 rfl) ?_
                          refine lv_iconst (v := 3) hx hb dL_holds_309 (by decide) ?_
                          refine g_cVi (As := [.int (nI k), .int 3]) (rest := [.int (y_arches (cY C) k)]) hx hb hml hown hts hK hA hG hS (k_X4_silo_ok l D cy N L _ (by omega) C k 3 (hy) (by omega) (by decide)) (cwV 2 hts gL_holds_X4_silo rfl rfl rfl (by decide +kernel) ⟨Nat.le_of_ble_eq_true rfl, Nat.le_of_ble_eq_true rfl⟩) (by omega) cW_o (ci := 4) rfl rfl rfl rfl hl.1 (Nat.le_of_ble_eq_true rfl) dL_holds_310 ⟨Nat.zero_le _, Nat.zero_le _⟩ (fun H locs hG hS => ?_)
                          refine lv_toI (y := if sC (yS (cY C) k) = 0 then 0 else 1) (tell_3) ?_
                          refine lv_iadd hx hb dL_holds_313 ?_
                          refine lv_istore_n (lv' := [(3, .int ((y_arches (cY C) k) + (if sC (yS (cY C) k) = 0 then 0 else 1))), (2, .int ((y_pads (cY C) k) + (sP (yS (cY C) k)))), (1, .int ((y_silos (cY C) k) + (s_total (yS (cY C) k)))), (7, .int (c_brk (yZ (cY C)) (yS (cY C) k))), (5, .int (s_sum (sT (yS (cY C) k)) 0 e)), (6, .int (nI (sN (yS (cY C) k)))), (4, .int (nI k)), (0, .ref (L 0))]) hx hb dL_holds_314 rfl hl (by decide) rfl (fun ls hl => ?_)
                          refine lv_iinc (v := nI (k + 1)) (lv' := [(4, .int (nI (k + 1))), (3, .int ((y_arches (cY C) k) + (if sC (yS (cY C) k) = 0 then 0 else 1))), (2, .int ((y_pads (cY C) k) + (sP (yS (cY C) k)))), (1, .int ((y_silos (cY C) k) + (s_total (yS (cY C) k)))), (7, .int (c_brk (yZ (cY C)) (yS (cY C) k))), (5, .int (s_sum (sT (yS (cY C) k)) 0 e)), (6, .int (nI (sN (yS (cY C) k)))), (0, .ref (L 0))]) hx hb dL_holds_315 hl (k := 6) rfl (nI_add k 1) (by decide) rfl (fun ls hl => ?_)
                          refine lv_goto (tgt := 9) hx hb dL_holds_318 (by decide) ?_
                          have hl : lv_has ls 11 [(1, .int ((y_silos (cY C) k) + (s_total (yS (cY C) k)))), (2, .int ((y_pads (cY C) k) + (sP (yS (cY C) k)))), (3, .int ((y_arches (cY C) k) + (if sC (yS (cY C) k) = 0 then 0 else 1))), (4, .int (nI (k + 1))), (0, .ref (L 0))] := lv_sub hl [3, 2, 1, 0, 7] rfl
                          exact ih9 (k + 1) _ _ _ (by omega) ⟨by omega, hG.to (rfl), hS, lv_to hl (rfl)⟩
                        · skip
                          exact absurd c_285 (by decide)
                      · skip
                        have c_277 : (sN (yS (cY C) k)) = 0 := (nI_eq (a := sN (yS (cY C) k)) (b := 0) (by omega) (by omega)).mp c_277
                        exact absurd (why_1.mpr c_277) c_267
                    · skip
                      refine lv_iconst (v := 1) hx hb dL_holds_270 (by decide) ?_
                      refine lv_goto (tgt := 275) hx hb dL_holds_271 (by decide) ?_
                      refine lv_iload hx hb dL_holds_275 (lv_at hl 2 rfl) ?_
                      refine lv_if_ne (tgt := 284) hx hb dL_holds_277 (by decide) (fun c_277 => ?_) (fun c_277 => ?_)
                      · skip
                        have c_277 : ¬ (sN (yS (cY C) k)) = 0 := fun h9 => c_277 ((nI_eq (a := sN (yS (cY C) k)) (b := 0) (by omega) (by omega)).mpr h9)
                        exact absurd (why_1.mp c_267) c_277
                      · skip
                        have c_277 : (sN (yS (cY C) k)) = 0 := (nI_eq (a := sN (yS (cY C) k)) (b := 0) (by omega) (by omega)).mp c_277
                        refine lv_iconst (v := 1) hx hb dL_holds_280 (by decide) ?_
                        refine lv_goto (tgt := 285) hx hb dL_holds_281 (by decide) ?_
                        refine lv_icmp_eq (tgt := 290) hx hb dL_holds_285 (by decide) (fun c_285 => ?_) (fun c_285 => ?_)
                        · skip
                          refine lv_iload_n hx hb dL_holds_290 rfl (lv_at hl 3 rfl) ?_
                          refine lv_iload hx hb dL_holds_291 (lv_at hl 1 rfl) ?_
                          refine lv_toI (y := s_total (yS (cY C) k)) (by rw [he9]; rfl) ?_
                          refine lv_iadd hx hb dL_holds_293 ?_
                          refine lv_istore_n (lv' := [(1, .int ((y_silos (cY C) k) + (s_total (yS (cY C) k)))), (7, .int (c_brk (yZ (cY C)) (yS (cY C) k))), (5, .int (s_sum (sT (yS (cY C) k)) 0 e)), (6, .int (nI (sN (yS (cY C) k)))), (2, .int (y_pads (cY C) k)), (3, .int (y_arches (cY C) k)), (4, .int (nI k)), (0, .ref (L 0))]) hx hb dL_holds_294 rfl hl (by decide) rfl (fun ls hl => ?_)
                          refine lv_iload_n hx hb dL_holds_295 rfl (lv_at hl 4 rfl) ?_
                          refine lv_aload_n hx hb dL_holds_296 rfl (lv_at hl 7 rfl) ?_
                          refine lv_iload hx hb dL_holds_297 (lv_at hl 6 rfl) ?_
                          refine lv_iconst (v := 2) hx hb dL_holds_299 (by decide) ?_
                          refine g_cVi (As := [.int (nI k), .int 2]) (rest := [.int (y_pads (cY C) k)]) hx hb hml hown hts hK hA hG hS (k_X4_silo_ok l D cy N L _ (by omega) C k 2 (hy) (by omega) (by decide)) (cwV 2 hts gL_holds_X4_silo rfl rfl rfl (by decide +kernel) ⟨Nat.le_of_ble_eq_true rfl, Nat.le_of_ble_eq_true rfl⟩) (by omega) cW_o (ci := 4) rfl rfl rfl rfl hl.1 (Nat.le_of_ble_eq_true rfl) dL_holds_300 ⟨Nat.zero_le _, Nat.zero_le _⟩ (fun H locs hG hS => ?_)
                          refine lv_toI (y := sP (yS (cY C) k)) (tell_2) ?_
                          refine lv_iadd hx hb dL_holds_303 ?_
                          refine lv_istore_n (lv' := [(2, .int ((y_pads (cY C) k) + (sP (yS (cY C) k)))), (1, .int ((y_silos (cY C) k) + (s_total (yS (cY C) k)))), (7, .int (c_brk (yZ (cY C)) (yS (cY C) k))), (5, .int (s_sum (sT (yS (cY C) k)) 0 e)), (6, .int (nI (sN (yS (cY C) k)))), (3, .int (y_arches (cY C) k)), (4, .int (nI k)), (0, .ref (L 0))]) hx hb dL_holds_304 rfl hl (by decide) rfl (fun ls hl => ?_)
                          refine lv_iload_n hx hb dL_holds_305 rfl (lv_at hl 5 rfl) ?_
                          refine lv_aload_n hx hb dL_holds_306 rfl (lv_at hl 7 rfl) ?_
                          refine lv_iload hx hb dL_holds_307 (lv_at hl 6 rfl) ?_
                          refine lv_iconst (v := 3) hx hb dL_holds_309 (by decide) ?_
                          refine g_cVi (As := [.int (nI k), .int 3]) (rest := [.int (y_arches (cY C) k)]) hx hb hml hown hts hK hA hG hS (k_X4_silo_ok l D cy N L _ (by omega) C k 3 (hy) (by omega) (by decide)) (cwV 2 hts gL_holds_X4_silo rfl rfl rfl (by decide +kernel) ⟨Nat.le_of_ble_eq_true rfl, Nat.le_of_ble_eq_true rfl⟩) (by omega) cW_o (ci := 4) rfl rfl rfl rfl hl.1 (Nat.le_of_ble_eq_true rfl) dL_holds_310 ⟨Nat.zero_le _, Nat.zero_le _⟩ (fun H locs hG hS => ?_)
                          refine lv_toI (y := if sC (yS (cY C) k) = 0 then 0 else 1) (tell_3) ?_
                          refine lv_iadd hx hb dL_holds_313 ?_
                          refine lv_istore_n (lv' := [(3, .int ((y_arches (cY C) k) + (if sC (yS (cY C) k) = 0 then 0 else 1))), (2, .int ((y_pads (cY C) k) + (sP (yS (cY C) k)))), (1, .int ((y_silos (cY C) k) + (s_total (yS (cY C) k)))), (7, .int (c_brk (yZ (cY C)) (yS (cY C) k))), (5, .int (s_sum (sT (yS (cY C) k)) 0 e)), (6, .int (nI (sN (yS (cY C) k)))), (4, .int (nI k)), (0, .ref (L 0))]) hx hb dL_holds_314 rfl hl (by decide) rfl (fun ls hl => ?_)
                          refine lv_iinc (v := nI (k + 1)) (lv' := [(4, .int (nI (k + 1))), (3, .int ((y_arches (cY C) k) + (if sC (yS (cY C) k) = 0 then 0 else 1))), (2, .int ((y_pads (cY C) k) + (sP (yS (cY C) k)))), (1, .int ((y_silos (cY C) k) + (s_total (yS (cY C) k)))), (7, .int (c_brk (yZ (cY C)) (yS (cY C) k))), (5, .int (s_sum (sT (yS (cY C) k)) 0 e)), (6, .int (nI (sN (yS (cY C) k)))), (0, .ref (L 0))]) hx hb dL_holds_315 hl (k := 6) rfl (nI_add k 1) (by decide) rfl (fun ls hl => ?_)
                          refine lv_goto (tgt := 9) hx hb dL_holds_318 (by decide) ?_
                          have hl : lv_has ls 11 [(1, .int ((y_silos (cY C) k) + (s_total (yS (cY C) k)))), (2, .int ((y_pads (cY C) k) + (sP (yS (cY C) k)))), (3, .int ((y_arches (cY C) k) + (if sC (yS (cY C) k) = 0 then 0 else 1))), (4, .int (nI (k + 1))), (0, .ref (L 0))] := lv_sub hl [3, 2, 1, 0, 7] rfl
                          exact ih9 (k + 1) _ _ _ (by omega) ⟨by omega, hG.to (rfl), hS, lv_to hl (rfl)⟩
                        · skip
                          exact absurd c_285 (by decide)
              · skip
                exact absurd ((hbr k hk4).1.mpr (ite01 c_242)) c_227
            · skip
              refine lv_iconst (v := 1) hx hb dL_holds_230 (by decide) ?_
              refine lv_goto (tgt := 235) hx hb dL_holds_231 (by decide) ?_
              refine lv_aload_n hx hb dL_holds_235 rfl (lv_at hl 7 rfl) ?_
              refine lv_iload hx hb dL_holds_236 (lv_at hl 6 rfl) ?_
              refine lv_iconst (v := 3) hx hb dL_holds_238 (by decide) ?_
              refine g_cVi (As := [.int (nI k), .int 3]) (rest := [.int 1]) hx hb hml hown hts hK hA hG hS (k_X4_silo_ok l D cy N L _ (by omega) C k 3 (hy) (by omega) (by decide)) (cwV 2 hts gL_holds_X4_silo rfl rfl rfl (by decide +kernel) ⟨Nat.le_of_ble_eq_true rfl, Nat.le_of_ble_eq_true rfl⟩) (by omega) cW_o (ci := 4) rfl rfl rfl rfl hl.1 (Nat.le_of_ble_eq_true rfl) dL_holds_239 ⟨Nat.zero_le _, Nat.zero_le _⟩ (fun H locs hG hS => ?_)
              refine lv_toI (y := if sC (yS (cY C) k) = 0 then 0 else 1) (tell_3) ?_
              refine lv_if_ne (tgt := 249) hx hb dL_holds_242 (by decide) (fun c_242 => ?_) (fun c_242 => ?_)
              · skip
                exact absurd (if_pos ((hbr k hk4).1.mp c_227)) c_242
              · skip
                refine lv_iconst (v := 1) hx hb dL_holds_245 (by decide) ?_
                refine lv_goto (tgt := 250) hx hb dL_holds_246 (by decide) ?_
                refine lv_icmp_ne (tgt := 288) hx hb dL_holds_250 (by decide) (fun c_250 => ?_) (fun c_250 => ?_)
                · skip
                  exact absurd c_250 (by decide)
                · skip
                  refine lv_iload hx hb dL_holds_253 (lv_at hl 0 rfl) ?_
                  refine lv_iconst (v := 3) hx hb dL_holds_255 (by decide) ?_
                  refine lv_icmp_gt (tgt := 288) hx hb dL_holds_256 (by decide) (fun c_256 => ?_) (fun c_256 => ?_)
                  · skip
                    exact absurd c_256 (hbr k hk4).2
                  · skip
                    refine lv_aload_n hx hb dL_holds_259 rfl (lv_at hl 7 rfl) ?_
                    refine lv_iload hx hb dL_holds_260 (lv_at hl 6 rfl) ?_
                    refine lv_iconst (v := 0) hx hb dL_holds_262 (by decide) ?_
                    refine g_cVi (As := [.int (nI k), .int 0]) (rest := []) hx hb hml hown hts hK hA hG hS (k_X4_whyNot_ok l D cy N L _ (by omega) C k 0 (hy) (by omega) (by omega)) (cwV 2 hts gL_holds_X4_whyNot rfl rfl rfl (by decide +kernel) ⟨Nat.le_of_ble_eq_true rfl, Nat.le_of_ble_eq_true rfl⟩) (by omega) cW_o (ci := 4) rfl rfl rfl rfl hl.1 (Nat.le_of_ble_eq_true rfl) dL_holds_263 ⟨Nat.zero_le _, Nat.zero_le _⟩ (fun H locs hG hS => ?_)
                    refine lv_iconst (v := 1) hx hb dL_holds_266 (by decide) ?_
                    refine lv_icmp_ne (tgt := 274) hx hb dL_holds_267 (by decide) (fun c_267 => ?_) (fun c_267 => ?_)
                    · skip
                      refine lv_iconst (v := 0) hx hb dL_holds_274 (by decide) ?_
                      refine lv_iload hx hb dL_holds_275 (lv_at hl 2 rfl) ?_
                      refine lv_if_ne (tgt := 284) hx hb dL_holds_277 (by decide) (fun c_277 => ?_) (fun c_277 => ?_)
                      · skip
                        have c_277 : ¬ (sN (yS (cY C) k)) = 0 := fun h9 => c_277 ((nI_eq (a := sN (yS (cY C) k)) (b := 0) (by omega) (by omega)).mpr h9)
                        refine lv_iconst (v := 0) hx hb dL_holds_284 (by decide) ?_
                        refine lv_icmp_eq (tgt := 290) hx hb dL_holds_285 (by decide) (fun c_285 => ?_) (fun c_285 => ?_)
                        · skip
                          refine lv_iload_n hx hb dL_holds_290 rfl (lv_at hl 3 rfl) ?_
                          refine lv_iload hx hb dL_holds_291 (lv_at hl 1 rfl) ?_
                          refine lv_toI (y := s_total (yS (cY C) k)) (by rw [he9]; rfl) ?_
                          refine lv_iadd hx hb dL_holds_293 ?_
                          refine lv_istore_n (lv' := [(1, .int ((y_silos (cY C) k) + (s_total (yS (cY C) k)))), (7, .int (c_brk (yZ (cY C)) (yS (cY C) k))), (5, .int (s_sum (sT (yS (cY C) k)) 0 e)), (6, .int (nI (sN (yS (cY C) k)))), (2, .int (y_pads (cY C) k)), (3, .int (y_arches (cY C) k)), (4, .int (nI k)), (0, .ref (L 0))]) hx hb dL_holds_294 rfl hl (by decide) rfl (fun ls hl => ?_)
                          refine lv_iload_n hx hb dL_holds_295 rfl (lv_at hl 4 rfl) ?_
                          refine lv_aload_n hx hb dL_holds_296 rfl (lv_at hl 7 rfl) ?_
                          refine lv_iload hx hb dL_holds_297 (lv_at hl 6 rfl) ?_
                          refine lv_iconst (v := 2) hx hb dL_holds_299 (by decide) ?_
                          refine g_cVi (As := [.int (nI k), .int 2]) (rest := [.int (y_pads (cY C) k)]) hx hb hml hown hts hK hA hG hS (k_X4_silo_ok l D cy N L _ (by omega) C k 2 (hy) (by omega) (by decide)) (cwV 2 hts gL_holds_X4_silo rfl rfl rfl (by decide +kernel) ⟨Nat.le_of_ble_eq_true rfl, Nat.le_of_ble_eq_true rfl⟩) (by omega) cW_o (ci := 4) rfl rfl rfl rfl hl.1 (Nat.le_of_ble_eq_true rfl) dL_holds_300 ⟨Nat.zero_le _, Nat.zero_le _⟩ (fun H locs hG hS => ?_)
                          refine lv_toI (y := sP (yS (cY C) k)) (tell_2) ?_
                          refine lv_iadd hx hb dL_holds_303 ?_
                          refine lv_istore_n (lv' := [(2, .int ((y_pads (cY C) k) + (sP (yS (cY C) k)))), (1, .int ((y_silos (cY C) k) + (s_total (yS (cY C) k)))), (7, .int (c_brk (yZ (cY C)) (yS (cY C) k))), (5, .int (s_sum (sT (yS (cY C) k)) 0 e)), (6, .int (nI (sN (yS (cY C) k)))), (3, .int (y_arches (cY C) k)), (4, .int (nI k)), (0, .ref (L 0))]) hx hb dL_holds_304 rfl hl (by decide) rfl (fun ls hl => ?_)
                          refine lv_iload_n hx hb dL_holds_305 rfl (lv_at hl 5 rfl) ?_
                          refine lv_aload_n hx hb dL_holds_306 rfl (lv_at hl 7 rfl) ?_
                          refine lv_iload hx hb dL_holds_307 (lv_at hl 6 rfl) ?_
                          refine lv_iconst (v := 3) hx hb dL_holds_309 (by decide) ?_
                          refine g_cVi (As := [.int (nI k), .int 3]) (rest := [.int (y_arches (cY C) k)]) hx hb hml hown hts hK hA hG hS (k_X4_silo_ok l D cy N L _ (by omega) C k 3 (hy) (by omega) (by decide)) (cwV 2 hts gL_holds_X4_silo rfl rfl rfl (by decide +kernel) ⟨Nat.le_of_ble_eq_true rfl, Nat.le_of_ble_eq_true rfl⟩) (by omega) cW_o (ci := 4) rfl rfl rfl rfl hl.1 (Nat.le_of_ble_eq_true rfl) dL_holds_310 ⟨Nat.zero_le _, Nat.zero_le _⟩ (fun H locs hG hS => ?_)
                          refine lv_toI (y := if sC (yS (cY C) k) = 0 then 0 else 1) (tell_3) ?_
                          refine lv_iadd hx hb dL_holds_313 ?_
                          refine lv_istore_n (lv' := [(3, .int ((y_arches (cY C) k) + (if sC (yS (cY C) k) = 0 then 0 else 1))), (2, .int ((y_pads (cY C) k) + (sP (yS (cY C) k)))), (1, .int ((y_silos (cY C) k) + (s_total (yS (cY C) k)))), (7, .int (c_brk (yZ (cY C)) (yS (cY C) k))), (5, .int (s_sum (sT (yS (cY C) k)) 0 e)), (6, .int (nI (sN (yS (cY C) k)))), (4, .int (nI k)), (0, .ref (L 0))]) hx hb dL_holds_314 rfl hl (by decide) rfl (fun ls hl => ?_)
                          refine lv_iinc (v := nI (k + 1)) (lv' := [(4, .int (nI (k + 1))), (3, .int ((y_arches (cY C) k) + (if sC (yS (cY C) k) = 0 then 0 else 1))), (2, .int ((y_pads (cY C) k) + (sP (yS (cY C) k)))), (1, .int ((y_silos (cY C) k) + (s_total (yS (cY C) k)))), (7, .int (c_brk (yZ (cY C)) (yS (cY C) k))), (5, .int (s_sum (sT (yS (cY C) k)) 0 e)), (6, .int (nI (sN (yS (cY C) k)))), (0, .ref (L 0))]) hx hb dL_holds_315 hl (k := 6) rfl (nI_add k 1) (by decide) rfl (fun ls hl => ?_)
                          refine lv_goto (tgt := 9) hx hb dL_holds_318 (by decide) ?_
                          have hl : lv_has ls 11 [(1, .int ((y_silos (cY C) k) + (s_total (yS (cY C) k)))), (2, .int ((y_pads (cY C) k) + (sP (yS (cY C) k)))), (3, .int ((y_arches (cY C) k) + (if sC (yS (cY C) k) = 0 then 0 else 1))), (4, .int (nI (k + 1))), (0, .ref (L 0))] := lv_sub hl [3, 2, 1, 0, 7] rfl
                          exact ih9 (k + 1) _ _ _ (by omega) ⟨by omega, hG.to (rfl), hS, lv_to hl (rfl)⟩
                        · skip
                          exact absurd c_285 (by decide)
                      · skip
                        have c_277 : (sN (yS (cY C) k)) = 0 := (nI_eq (a := sN (yS (cY C) k)) (b := 0) (by omega) (by omega)).mp c_277
                        exact absurd (why_1.mpr c_277) c_267
                    · skip
                      refine lv_iconst (v := 1) hx hb dL_holds_270 (by decide) ?_
                      refine lv_goto (tgt := 275) hx hb dL_holds_271 (by decide) ?_
                      refine lv_iload hx hb dL_holds_275 (lv_at hl 2 rfl) ?_
                      refine lv_if_ne (tgt := 284) hx hb dL_holds_277 (by decide) (fun c_277 => ?_) (fun c_277 => ?_)
                      · skip
                        have c_277 : ¬ (sN (yS (cY C) k)) = 0 := fun h9 => c_277 ((nI_eq (a := sN (yS (cY C) k)) (b := 0) (by omega) (by omega)).mpr h9)
                        exact absurd (why_1.mp c_267) c_277
                      · skip
                        have c_277 : (sN (yS (cY C) k)) = 0 := (nI_eq (a := sN (yS (cY C) k)) (b := 0) (by omega) (by omega)).mp c_277
                        refine lv_iconst (v := 1) hx hb dL_holds_280 (by decide) ?_
                        refine lv_goto (tgt := 285) hx hb dL_holds_281 (by decide) ?_
                        refine lv_icmp_eq (tgt := 290) hx hb dL_holds_285 (by decide) (fun c_285 => ?_) (fun c_285 => ?_)
                        · skip
                          refine lv_iload_n hx hb dL_holds_290 rfl (lv_at hl 3 rfl) ?_
                          refine lv_iload hx hb dL_holds_291 (lv_at hl 1 rfl) ?_
                          refine lv_toI (y := s_total (yS (cY C) k)) (by rw [he9]; rfl) ?_
                          refine lv_iadd hx hb dL_holds_293 ?_
                          refine lv_istore_n (lv' := [(1, .int ((y_silos (cY C) k) + (s_total (yS (cY C) k)))), (7, .int (c_brk (yZ (cY C)) (yS (cY C) k))), (5, .int (s_sum (sT (yS (cY C) k)) 0 e)), (6, .int (nI (sN (yS (cY C) k)))), (2, .int (y_pads (cY C) k)), (3, .int (y_arches (cY C) k)), (4, .int (nI k)), (0, .ref (L 0))]) hx hb dL_holds_294 rfl hl (by decide) rfl (fun ls hl => ?_)
                          refine lv_iload_n hx hb dL_holds_295 rfl (lv_at hl 4 rfl) ?_
                          refine lv_aload_n hx hb dL_holds_296 rfl (lv_at hl 7 rfl) ?_
                          refine lv_iload hx hb dL_holds_297 (lv_at hl 6 rfl) ?_
                          refine lv_iconst (v := 2) hx hb dL_holds_299 (by decide) ?_
                          refine g_cVi (As := [.int (nI k), .int 2]) (rest := [.int (y_pads (cY C) k)]) hx hb hml hown hts hK hA hG hS (k_X4_silo_ok l D cy N L _ (by omega) C k 2 (hy) (by omega) (by decide)) (cwV 2 hts gL_holds_X4_silo rfl rfl rfl (by decide +kernel) ⟨Nat.le_of_ble_eq_true rfl, Nat.le_of_ble_eq_true rfl⟩) (by omega) cW_o (ci := 4) rfl rfl rfl rfl hl.1 (Nat.le_of_ble_eq_true rfl) dL_holds_300 ⟨Nat.zero_le _, Nat.zero_le _⟩ (fun H locs hG hS => ?_)
                          refine lv_toI (y := sP (yS (cY C) k)) (tell_2) ?_
                          refine lv_iadd hx hb dL_holds_303 ?_
                          refine lv_istore_n (lv' := [(2, .int ((y_pads (cY C) k) + (sP (yS (cY C) k)))), (1, .int ((y_silos (cY C) k) + (s_total (yS (cY C) k)))), (7, .int (c_brk (yZ (cY C)) (yS (cY C) k))), (5, .int (s_sum (sT (yS (cY C) k)) 0 e)), (6, .int (nI (sN (yS (cY C) k)))), (3, .int (y_arches (cY C) k)), (4, .int (nI k)), (0, .ref (L 0))]) hx hb dL_holds_304 rfl hl (by decide) rfl (fun ls hl => ?_)
                          refine lv_iload_n hx hb dL_holds_305 rfl (lv_at hl 5 rfl) ?_
                          refine lv_aload_n hx hb dL_holds_306 rfl (lv_at hl 7 rfl) ?_
                          refine lv_iload hx hb dL_holds_307 (lv_at hl 6 rfl) ?_
                          refine lv_iconst (v := 3) hx hb dL_holds_309 (by decide) ?_
                          refine g_cVi (As := [.int (nI k), .int 3]) (rest := [.int (y_arches (cY C) k)]) hx hb hml hown hts hK hA hG hS (k_X4_silo_ok l D cy N L _ (by omega) C k 3 (hy) (by omega) (by decide)) (cwV 2 hts gL_holds_X4_silo rfl rfl rfl (by decide +kernel) ⟨Nat.le_of_ble_eq_true rfl, Nat.le_of_ble_eq_true rfl⟩) (by omega) cW_o (ci := 4) rfl rfl rfl rfl hl.1 (Nat.le_of_ble_eq_true rfl) dL_holds_310 ⟨Nat.zero_le _, Nat.zero_le _⟩ (fun H locs hG hS => ?_)
                          refine lv_toI (y := if sC (yS (cY C) k) = 0 then 0 else 1) (tell_3) ?_
                          refine lv_iadd hx hb dL_holds_313 ?_
                          refine lv_istore_n (lv' := [(3, .int ((y_arches (cY C) k) + (if sC (yS (cY C) k) = 0 then 0 else 1))), (2, .int ((y_pads (cY C) k) + (sP (yS (cY C) k)))), (1, .int ((y_silos (cY C) k) + (s_total (yS (cY C) k)))), (7, .int (c_brk (yZ (cY C)) (yS (cY C) k))), (5, .int (s_sum (sT (yS (cY C) k)) 0 e)), (6, .int (nI (sN (yS (cY C) k)))), (4, .int (nI k)), (0, .ref (L 0))]) hx hb dL_holds_314 rfl hl (by decide) rfl (fun ls hl => ?_)
                          refine lv_iinc (v := nI (k + 1)) (lv' := [(4, .int (nI (k + 1))), (3, .int ((y_arches (cY C) k) + (if sC (yS (cY C) k) = 0 then 0 else 1))), (2, .int ((y_pads (cY C) k) + (sP (yS (cY C) k)))), (1, .int ((y_silos (cY C) k) + (s_total (yS (cY C) k)))), (7, .int (c_brk (yZ (cY C)) (yS (cY C) k))), (5, .int (s_sum (sT (yS (cY C) k)) 0 e)), (6, .int (nI (sN (yS (cY C) k)))), (0, .ref (L 0))]) hx hb dL_holds_315 hl (k := 6) rfl (nI_add k 1) (by decide) rfl (fun ls hl => ?_)
                          refine lv_goto (tgt := 9) hx hb dL_holds_318 (by decide) ?_
                          have hl : lv_has ls 11 [(1, .int ((y_silos (cY C) k) + (s_total (yS (cY C) k)))), (2, .int ((y_pads (cY C) k) + (sP (yS (cY C) k)))), (3, .int ((y_arches (cY C) k) + (if sC (yS (cY C) k) = 0 then 0 else 1))), (4, .int (nI (k + 1))), (0, .ref (L 0))] := lv_sub hl [3, 2, 1, 0, 7] rfl
                          exact ih9 (k + 1) _ _ _ (by omega) ⟨by omega, hG.to (rfl), hS, lv_to hl (rfl)⟩
                        · skip
                          exact absurd c_285 (by decide)
    · skip
      have c_34 : ¬ (sN (yS (cY C) k)) ≤ e := fun h9 => c_34 ((nI_leI (a := sN (yS (cY C) k)) (b := e) (by omega) (by omega)).mpr h9)
      have he4 : e < sN (yS (cY C) k) := by omega
      refine lv_aload_n hx hb dL_holds_37 rfl (lv_at hl 7 rfl) ?_
      refine lv_iload hx hb dL_holds_38 (lv_at hl 6 rfl) ?_
      refine lv_iload hx hb dL_holds_40 (lv_at hl 1 rfl) ?_
      refine lv_iconst (v := 0) hx hb dL_holds_42 (by decide) ?_
      refine g_cVi (As := [.int (nI k), .int (nI e), .int 0]) (rest := []) hx hb hml hown hts hK hA hG hS (k_X4_layer_ok l D cy N L _ (by omega) C k e 0 (hy) (by omega) (by omega) (by decide)) (cwV 3 hts gL_holds_X4_layer rfl rfl rfl (by decide +kernel) ⟨Nat.le_of_ble_eq_true rfl, Nat.le_of_ble_eq_true rfl⟩) (by omega) cW_o (ci := 4) rfl rfl rfl rfl hl.1 (Nat.le_of_ble_eq_true rfl) dL_holds_43 ⟨Nat.zero_le _, Nat.zero_le _⟩ (fun H locs hG hS => ?_)
      refine lv_toI (y := sT (yS (cY C) k) e) (tellL_0) ?_
      refine lv_istore (lv' := [(8, .int (sT (yS (cY C) k) e)), (5, .int (s_sum (sT (yS (cY C) k)) 0 e)), (7, .int (nI e)), (6, .int (nI (sN (yS (cY C) k)))), (1, .int (y_silos (cY C) k)), (2, .int (y_pads (cY C) k)), (3, .int (y_arches (cY C) k)), (4, .int (nI k)), (0, .ref (L 0))]) hx hb dL_holds_46 hl (by decide) rfl (fun ls hl => ?_)
      refine lv_aload_n hx hb dL_holds_48 rfl (lv_at hl 8 rfl) ?_
      refine lv_iload hx hb dL_holds_49 (lv_at hl 7 rfl) ?_
      refine lv_iload hx hb dL_holds_51 (lv_at hl 2 rfl) ?_
      refine lv_iconst (v := 2) hx hb dL_holds_53 (by decide) ?_
      refine g_cVi (As := [.int (nI k), .int (nI e), .int 2]) (rest := []) hx hb hml hown hts hK hA hG hS (k_X4_layer_ok l D cy N L _ (by omega) C k e 2 (hy) (by omega) (by omega) (by decide)) (cwV 3 hts gL_holds_X4_layer rfl rfl rfl (by decide +kernel) ⟨Nat.le_of_ble_eq_true rfl, Nat.le_of_ble_eq_true rfl⟩) (by omega) cW_o (ci := 4) rfl rfl rfl rfl hl.1 (Nat.le_of_ble_eq_true rfl) dL_holds_54 ⟨Nat.zero_le _, Nat.zero_le _⟩ (fun H locs hG hS => ?_)
      refine lv_toI (y := g_set (sA (yS (cY C) k) e) (yZ (cY C) 1)) (tellL_2) ?_
      refine lv_istore (lv' := [(9, .int (g_set (sA (yS (cY C) k) e) (yZ (cY C) 1))), (8, .int (sT (yS (cY C) k) e)), (5, .int (s_sum (sT (yS (cY C) k)) 0 e)), (7, .int (nI e)), (6, .int (nI (sN (yS (cY C) k)))), (1, .int (y_silos (cY C) k)), (2, .int (y_pads (cY C) k)), (3, .int (y_arches (cY C) k)), (4, .int (nI k)), (0, .ref (L 0))]) hx hb dL_holds_57 hl (by decide) rfl (fun ls hl => ?_)
      refine lv_aload_n hx hb dL_holds_59 rfl (lv_at hl 9 rfl) ?_
      refine lv_iload hx hb dL_holds_60 (lv_at hl 8 rfl) ?_
      refine lv_iload hx hb dL_holds_62 (lv_at hl 3 rfl) ?_
      refine lv_iconst (v := 1) hx hb dL_holds_64 (by decide) ?_
      refine g_cVi (As := [.int (nI k), .int (nI e), .int 1]) (rest := []) hx hb hml hown hts hK hA hG hS (k_X4_layer_ok l D cy N L _ (by omega) C k e 1 (hy) (by omega) (by omega) (by decide)) (cwV 3 hts gL_holds_X4_layer rfl rfl rfl (by decide +kernel) ⟨Nat.le_of_ble_eq_true rfl, Nat.le_of_ble_eq_true rfl⟩) (by omega) cW_o (ci := 4) rfl rfl rfl rfl hl.1 (Nat.le_of_ble_eq_true rfl) dL_holds_65 ⟨Nat.zero_le _, Nat.zero_le _⟩ (fun H locs hG hS => ?_)
      refine lv_toI (y := sA (yS (cY C) k) e) (tellL_1) ?_
      refine lv_istore (lv' := [(10, .int (sA (yS (cY C) k) e)), (9, .int (g_set (sA (yS (cY C) k) e) (yZ (cY C) 1))), (8, .int (sT (yS (cY C) k) e)), (5, .int (s_sum (sT (yS (cY C) k)) 0 e)), (7, .int (nI e)), (6, .int (nI (sN (yS (cY C) k)))), (1, .int (y_silos (cY C) k)), (2, .int (y_pads (cY C) k)), (3, .int (y_arches (cY C) k)), (4, .int (nI k)), (0, .ref (L 0))]) hx hb dL_holds_68 hl (by decide) rfl (fun ls hl => ?_)
      refine lv_iload hx hb dL_holds_70 (lv_at hl 3 rfl) ?_
      refine lv_iload hx hb dL_holds_72 (lv_at hl 2 rfl) ?_
      refine lv_iadd hx hb dL_holds_74 ?_
      refine lv_toI (y := s_sum (sT (yS (cY C) k)) 0 (e + 1)) (by show _ = s_sum (sT (yS (cY C) k)) 0 e + sT (yS (cY C) k) (0 + e); rw [Nat.zero_add]) ?_
      refine lv_istore (lv' := [(5, .int (s_sum (sT (yS (cY C) k)) 0 (e + 1))), (10, .int (sA (yS (cY C) k) e)), (9, .int (g_set (sA (yS (cY C) k) e) (yZ (cY C) 1))), (8, .int (sT (yS (cY C) k) e)), (7, .int (nI e)), (6, .int (nI (sN (yS (cY C) k)))), (1, .int (y_silos (cY C) k)), (2, .int (y_pads (cY C) k)), (3, .int (y_arches (cY C) k)), (4, .int (nI k)), (0, .ref (L 0))]) hx hb dL_holds_75 hl (by decide) rfl (fun ls hl => ?_)
      refine lv_iload hx hb dL_holds_77 (lv_at hl 3 rfl) ?_
      refine lv_iconst (v := 1) hx hb dL_holds_79 (by decide) ?_
      refine lv_icmp_lt (tgt := 182) hx hb dL_holds_80 (by decide) (fun c_80 => ?_) (fun c_80 => ?_)
      · skip
        exact absurd c_80 (hlay k hk4 e he4).1
      · skip
        refine lv_iload hx hb dL_holds_83 (lv_at hl 3 rfl) ?_
        refine lv_sipush (v := 500) hx hb dL_holds_85 (by decide) ?_
        refine lv_icmp_gt (tgt := 182) hx hb dL_holds_88 (by decide) (fun c_88 => ?_) (fun c_88 => ?_)
        · skip
          exact absurd c_88 (hlay k hk4 e he4).2
        · skip
          refine lv_iload hx hb dL_holds_91 (lv_at hl 2 rfl) ?_
          refine lv_if_ne (tgt := 100) hx hb dL_holds_93 (by decide) (fun c_93 => ?_) (fun c_93 => ?_)
          · skip
            refine lv_iconst (v := 0) hx hb dL_holds_100 (by decide) ?_
            refine lv_iload hx hb dL_holds_101 (lv_at hl 1 rfl) ?_
            refine lv_aload_n hx hb dL_holds_103 rfl (lv_at hl 10 rfl) ?_
            refine lv_bipush (v := 11) hx hb dL_holds_104 (by decide) ?_
            refine g_cVi (As := [.int 11]) (rest := [.int (sA (yS (cY C) k) e), .int 0]) hx hb hml hown hts hK hA hG hS (k_X4_count_ok l D cy N L _ (by omega) C 11 (hy) (by decide)) (cwV 1 hts gL_holds_X4_count rfl rfl rfl (by decide +kernel) ⟨Nat.le_of_ble_eq_true rfl, Nat.le_of_ble_eq_true rfl⟩) (by omega) cW_o (ci := 4) rfl rfl rfl rfl hl.1 (Nat.le_of_ble_eq_true rfl) dL_holds_106 ⟨Nat.zero_le _, Nat.zero_le _⟩ (fun H locs hG hS => ?_)
            refine lv_toI (y := yZ (cY C) 1) (cnt_11) ?_
            refine lv_icmp_gt (tgt := 116) hx hb dL_holds_109 (by decide) (fun c_109 => ?_) (fun c_109 => ?_)
            · skip
              refine lv_iconst (v := 0) hx hb dL_holds_116 (by decide) ?_
              refine lv_icmp_ne (tgt := 182) hx hb dL_holds_117 (by decide) (fun c_117 => ?_) (fun c_117 => ?_)
              · skip
                exact absurd c_117 (by decide)
              · skip
                refine lv_iload hx hb dL_holds_120 (lv_at hl 2 rfl) ?_
                refine lv_iconst (v := 2) hx hb dL_holds_122 (by decide) ?_
                refine lv_icmp_ne (tgt := 130) hx hb dL_holds_123 (by decide) (fun c_123 => ?_) (fun c_123 => ?_)
                · skip
                  refine lv_iconst (v := 0) hx hb dL_holds_130 (by decide) ?_
                  refine lv_iload hx hb dL_holds_131 (lv_at hl 1 rfl) ?_
                  refine lv_iconst (v := 2) hx hb dL_holds_133 (by decide) ?_
                  refine lv_aload_n hx hb dL_holds_134 rfl (lv_at hl 10 rfl) ?_
                  refine lv_bipush (v := 11) hx hb dL_holds_135 (by decide) ?_
                  refine g_cVi (As := [.int 11]) (rest := [.int 2, .int (sA (yS (cY C) k) e), .int 0]) hx hb hml hown hts hK hA hG hS (k_X4_count_ok l D cy N L _ (by omega) C 11 (hy) (by decide)) (cwV 1 hts gL_holds_X4_count rfl rfl rfl (by decide +kernel) ⟨Nat.le_of_ble_eq_true rfl, Nat.le_of_ble_eq_true rfl⟩) (by omega) cW_o (ci := 4) rfl rfl rfl rfl hl.1 (Nat.le_of_ble_eq_true rfl) dL_holds_137 ⟨Nat.zero_le _, Nat.zero_le _⟩ (fun H locs hG hS => ?_)
                  refine lv_toI (y := yZ (cY C) 1) (cnt_11) ?_
                  refine lv_imul hx hb dL_holds_140 ?_
                  refine lv_icmp_le (tgt := 148) hx hb dL_holds_141 (by decide) (fun c_141 => ?_) (fun c_141 => ?_)
                  · skip
                    refine lv_iconst (v := 0) hx hb dL_holds_148 (by decide) ?_
                    refine lv_icmp_ne (tgt := 182) hx hb dL_holds_149 (by decide) (fun c_149 => ?_) (fun c_149 => ?_)
                    · skip
                      exact absurd c_149 (by decide)
                    · skip
                      refine lv_aload_n hx hb dL_holds_152 rfl (lv_at hl 10 rfl) ?_
                      refine lv_bipush (v := 8) hx hb dL_holds_153 (by decide) ?_
                      refine g_cVi (As := [.int 8]) (rest := []) hx hb hml hown hts hK hA hG hS (k_X4_count_ok l D cy N L _ (by omega) C 8 (hy) (by decide)) (cwV 1 hts gL_holds_X4_count rfl rfl rfl (by decide +kernel) ⟨Nat.le_of_ble_eq_true rfl, Nat.le_of_ble_eq_true rfl⟩) (by omega) cW_o (ci := 4) rfl rfl rfl rfl hl.1 (Nat.le_of_ble_eq_true rfl) dL_holds_155 ⟨Nat.zero_le _, Nat.zero_le _⟩ (fun H locs hG hS => ?_)
                      refine lv_toI (y := yC (cY C) 4) (cnt_8) ?_
                      refine lv_if_ne (tgt := 184) hx hb dL_holds_158 (by decide) (fun c_158 => ?_) (fun c_158 => ?_)
                      · skip
                        refine lv_iinc (v := nI (e + 1)) (lv' := [(7, .int (nI (e + 1))), (5, .int (s_sum (sT (yS (cY C) k)) 0 (e + 1))), (10, .int (sA (yS (cY C) k) e)), (9, .int (g_set (sA (yS (cY C) k) e) (yZ (cY C) 1))), (8, .int (sT (yS (cY C) k) e)), (6, .int (nI (sN (yS (cY C) k)))), (1, .int (y_silos (cY C) k)), (2, .int (y_pads (cY C) k)), (3, .int (y_arches (cY C) k)), (4, .int (nI k)), (0, .ref (L 0))]) hx hb dL_holds_184 hl (k := 4) rfl (nI_add e 1) (by decide) rfl (fun ls hl => ?_)
                        refine lv_goto (tgt := 30) hx hb dL_holds_187 (by decide) ?_
                        have hl : lv_has ls 11 [(5, .int (s_sum (sT (yS (cY C) k)) 0 (e + 1))), (7, .int (nI (e + 1))), (6, .int (nI (sN (yS (cY C) k)))), (1, .int (y_silos (cY C) k)), (2, .int (y_pads (cY C) k)), (3, .int (y_arches (cY C) k)), (4, .int (nI k)), (0, .ref (L 0))] := lv_sub hl [1, 0, 5, 6, 7, 8, 9, 10] rfl
                        exact ih30 (e + 1) _ _ _ (by omega) ⟨by omega, hG.to (rfl), hS, lv_to hl (rfl)⟩
                      · skip
                        refine lv_iload hx hb dL_holds_161 (lv_at hl 4 rfl) ?_
                        refine lv_if_le (tgt := 184) hx hb dL_holds_163 (by decide) (fun c_163 => ?_) (fun c_163 => ?_)
                        · skip
                          have c_163 : e ≤ 0 := (nI_leI (a := e) (b := 0) (by omega) (by omega)).mp c_163
                          refine lv_iinc (v := nI (e + 1)) (lv' := [(7, .int (nI (e + 1))), (5, .int (s_sum (sT (yS (cY C) k)) 0 (e + 1))), (10, .int (sA (yS (cY C) k) e)), (9, .int (g_set (sA (yS (cY C) k) e) (yZ (cY C) 1))), (8, .int (sT (yS (cY C) k) e)), (6, .int (nI (sN (yS (cY C) k)))), (1, .int (y_silos (cY C) k)), (2, .int (y_pads (cY C) k)), (3, .int (y_arches (cY C) k)), (4, .int (nI k)), (0, .ref (L 0))]) hx hb dL_holds_184 hl (k := 4) rfl (nI_add e 1) (by decide) rfl (fun ls hl => ?_)
                          refine lv_goto (tgt := 30) hx hb dL_holds_187 (by decide) ?_
                          have hl : lv_has ls 11 [(5, .int (s_sum (sT (yS (cY C) k)) 0 (e + 1))), (7, .int (nI (e + 1))), (6, .int (nI (sN (yS (cY C) k)))), (1, .int (y_silos (cY C) k)), (2, .int (y_pads (cY C) k)), (3, .int (y_arches (cY C) k)), (4, .int (nI k)), (0, .ref (L 0))] := lv_sub hl [1, 0, 5, 6, 7, 8, 9, 10] rfl
                          exact ih30 (e + 1) _ _ _ (by omega) ⟨by omega, hG.to (rfl), hS, lv_to hl (rfl)⟩
                        · skip
                          have c_163 : ¬ e ≤ 0 := fun h9 => c_163 ((nI_leI (a := e) (b := 0) (by omega) (by omega)).mpr h9)
                          refine lv_aload_n hx hb dL_holds_166 rfl (lv_at hl 10 rfl) ?_
                          refine lv_iload hx hb dL_holds_167 (lv_at hl 9 rfl) ?_
                          refine lv_iload hx hb dL_holds_169 (lv_at hl 4 rfl) ?_
                          refine lv_iconst (v := 1) hx hb dL_holds_171 (by decide) ?_
                          refine lv_isub hx hb dL_holds_172 ?_
                          refine lv_toN (k := e - 1) (pk_sub (a := e) (b := 1) (by omega)) ?_
                          refine lv_iconst (v := 1) hx hb dL_holds_173 (by decide) ?_
                          refine g_cVi (As := [.int (nI k), .int (nI (e - 1)), .int 1]) (rest := []) hx hb hml hown hts hK hA hG hS (k_X4_layer_ok l D cy N L _ (by omega) C k (e - 1) 1 (hy) (by omega) (by omega) (by decide)) (cwV 3 hts gL_holds_X4_layer rfl rfl rfl (by decide +kernel) ⟨Nat.le_of_ble_eq_true rfl, Nat.le_of_ble_eq_true rfl⟩) (by omega) cW_o (ci := 4) rfl rfl rfl rfl hl.1 (Nat.le_of_ble_eq_true rfl) dL_holds_174 ⟨Nat.zero_le _, Nat.zero_le _⟩ (fun H locs hG hS => ?_)
                          refine lv_toI (y := sA (yS (cY C) k) (e - 1)) (tellL_1) ?_
                          refine lv_iload hx hb dL_holds_177 (lv_at hl 1 rfl) ?_
                          refine lv_icmp_ge (tgt := 184) hx hb dL_holds_179 (by decide) (fun c_179 => ?_) (fun c_179 => ?_)
                          · skip
                            refine lv_iinc (v := nI (e + 1)) (lv' := [(7, .int (nI (e + 1))), (5, .int (s_sum (sT (yS (cY C) k)) 0 (e + 1))), (10, .int (sA (yS (cY C) k) e)), (9, .int (g_set (sA (yS (cY C) k) e) (yZ (cY C) 1))), (8, .int (sT (yS (cY C) k) e)), (6, .int (nI (sN (yS (cY C) k)))), (1, .int (y_silos (cY C) k)), (2, .int (y_pads (cY C) k)), (3, .int (y_arches (cY C) k)), (4, .int (nI k)), (0, .ref (L 0))]) hx hb dL_holds_184 hl (k := 4) rfl (nI_add e 1) (by decide) rfl (fun ls hl => ?_)
                            refine lv_goto (tgt := 30) hx hb dL_holds_187 (by decide) ?_
                            have hl : lv_has ls 11 [(5, .int (s_sum (sT (yS (cY C) k)) 0 (e + 1))), (7, .int (nI (e + 1))), (6, .int (nI (sN (yS (cY C) k)))), (1, .int (y_silos (cY C) k)), (2, .int (y_pads (cY C) k)), (3, .int (y_arches (cY C) k)), (4, .int (nI k)), (0, .ref (L 0))] := lv_sub hl [1, 0, 5, 6, 7, 8, 9, 10] rfl
                            exact ih30 (e + 1) _ _ _ (by omega) ⟨by omega, hG.to (rfl), hS, lv_to hl (rfl)⟩
                          · skip
                            exact absurd (hsr c_158 k hk4 e (by omega) he4) c_179
                  · skip
                    exact absurd ((g_set_2 hz1).mpr c_141) c_123
                · skip
                  refine lv_iconst (v := 1) hx hb dL_holds_126 (by decide) ?_
                  refine lv_goto (tgt := 131) hx hb dL_holds_127 (by decide) ?_
                  refine lv_iload hx hb dL_holds_131 (lv_at hl 1 rfl) ?_
                  refine lv_iconst (v := 2) hx hb dL_holds_133 (by decide) ?_
                  refine lv_aload_n hx hb dL_holds_134 rfl (lv_at hl 10 rfl) ?_
                  refine lv_bipush (v := 11) hx hb dL_holds_135 (by decide) ?_
                  refine g_cVi (As := [.int 11]) (rest := [.int 2, .int (sA (yS (cY C) k) e), .int 1]) hx hb hml hown hts hK hA hG hS (k_X4_count_ok l D cy N L _ (by omega) C 11 (hy) (by decide)) (cwV 1 hts gL_holds_X4_count rfl rfl rfl (by decide +kernel) ⟨Nat.le_of_ble_eq_true rfl, Nat.le_of_ble_eq_true rfl⟩) (by omega) cW_o (ci := 4) rfl rfl rfl rfl hl.1 (Nat.le_of_ble_eq_true rfl) dL_holds_137 ⟨Nat.zero_le _, Nat.zero_le _⟩ (fun H locs hG hS => ?_)
                  refine lv_toI (y := yZ (cY C) 1) (cnt_11) ?_
                  refine lv_imul hx hb dL_holds_140 ?_
                  refine lv_icmp_le (tgt := 148) hx hb dL_holds_141 (by decide) (fun c_141 => ?_) (fun c_141 => ?_)
                  · skip
                    exact absurd c_141 ((g_set_2 hz1).mp c_123)
                  · skip
                    refine lv_iconst (v := 1) hx hb dL_holds_144 (by decide) ?_
                    refine lv_goto (tgt := 149) hx hb dL_holds_145 (by decide) ?_
                    refine lv_icmp_ne (tgt := 182) hx hb dL_holds_149 (by decide) (fun c_149 => ?_) (fun c_149 => ?_)
                    · skip
                      exact absurd c_149 (by decide)
                    · skip
                      refine lv_aload_n hx hb dL_holds_152 rfl (lv_at hl 10 rfl) ?_
                      refine lv_bipush (v := 8) hx hb dL_holds_153 (by decide) ?_
                      refine g_cVi (As := [.int 8]) (rest := []) hx hb hml hown hts hK hA hG hS (k_X4_count_ok l D cy N L _ (by omega) C 8 (hy) (by decide)) (cwV 1 hts gL_holds_X4_count rfl rfl rfl (by decide +kernel) ⟨Nat.le_of_ble_eq_true rfl, Nat.le_of_ble_eq_true rfl⟩) (by omega) cW_o (ci := 4) rfl rfl rfl rfl hl.1 (Nat.le_of_ble_eq_true rfl) dL_holds_155 ⟨Nat.zero_le _, Nat.zero_le _⟩ (fun H locs hG hS => ?_)
                      refine lv_toI (y := yC (cY C) 4) (cnt_8) ?_
                      refine lv_if_ne (tgt := 184) hx hb dL_holds_158 (by decide) (fun c_158 => ?_) (fun c_158 => ?_)
                      · skip
                        refine lv_iinc (v := nI (e + 1)) (lv' := [(7, .int (nI (e + 1))), (5, .int (s_sum (sT (yS (cY C) k)) 0 (e + 1))), (10, .int (sA (yS (cY C) k) e)), (9, .int (g_set (sA (yS (cY C) k) e) (yZ (cY C) 1))), (8, .int (sT (yS (cY C) k) e)), (6, .int (nI (sN (yS (cY C) k)))), (1, .int (y_silos (cY C) k)), (2, .int (y_pads (cY C) k)), (3, .int (y_arches (cY C) k)), (4, .int (nI k)), (0, .ref (L 0))]) hx hb dL_holds_184 hl (k := 4) rfl (nI_add e 1) (by decide) rfl (fun ls hl => ?_)
                        refine lv_goto (tgt := 30) hx hb dL_holds_187 (by decide) ?_
                        have hl : lv_has ls 11 [(5, .int (s_sum (sT (yS (cY C) k)) 0 (e + 1))), (7, .int (nI (e + 1))), (6, .int (nI (sN (yS (cY C) k)))), (1, .int (y_silos (cY C) k)), (2, .int (y_pads (cY C) k)), (3, .int (y_arches (cY C) k)), (4, .int (nI k)), (0, .ref (L 0))] := lv_sub hl [1, 0, 5, 6, 7, 8, 9, 10] rfl
                        exact ih30 (e + 1) _ _ _ (by omega) ⟨by omega, hG.to (rfl), hS, lv_to hl (rfl)⟩
                      · skip
                        refine lv_iload hx hb dL_holds_161 (lv_at hl 4 rfl) ?_
                        refine lv_if_le (tgt := 184) hx hb dL_holds_163 (by decide) (fun c_163 => ?_) (fun c_163 => ?_)
                        · skip
                          have c_163 : e ≤ 0 := (nI_leI (a := e) (b := 0) (by omega) (by omega)).mp c_163
                          refine lv_iinc (v := nI (e + 1)) (lv' := [(7, .int (nI (e + 1))), (5, .int (s_sum (sT (yS (cY C) k)) 0 (e + 1))), (10, .int (sA (yS (cY C) k) e)), (9, .int (g_set (sA (yS (cY C) k) e) (yZ (cY C) 1))), (8, .int (sT (yS (cY C) k) e)), (6, .int (nI (sN (yS (cY C) k)))), (1, .int (y_silos (cY C) k)), (2, .int (y_pads (cY C) k)), (3, .int (y_arches (cY C) k)), (4, .int (nI k)), (0, .ref (L 0))]) hx hb dL_holds_184 hl (k := 4) rfl (nI_add e 1) (by decide) rfl (fun ls hl => ?_)
                          refine lv_goto (tgt := 30) hx hb dL_holds_187 (by decide) ?_
                          have hl : lv_has ls 11 [(5, .int (s_sum (sT (yS (cY C) k)) 0 (e + 1))), (7, .int (nI (e + 1))), (6, .int (nI (sN (yS (cY C) k)))), (1, .int (y_silos (cY C) k)), (2, .int (y_pads (cY C) k)), (3, .int (y_arches (cY C) k)), (4, .int (nI k)), (0, .ref (L 0))] := lv_sub hl [1, 0, 5, 6, 7, 8, 9, 10] rfl
                          exact ih30 (e + 1) _ _ _ (by omega) ⟨by omega, hG.to (rfl), hS, lv_to hl (rfl)⟩
                        · skip
                          have c_163 : ¬ e ≤ 0 := fun h9 => c_163 ((nI_leI (a := e) (b := 0) (by omega) (by omega)).mpr h9)
                          refine lv_aload_n hx hb dL_holds_166 rfl (lv_at hl 10 rfl) ?_
                          refine lv_iload hx hb dL_holds_167 (lv_at hl 9 rfl) ?_
                          refine lv_iload hx hb dL_holds_169 (lv_at hl 4 rfl) ?_
                          refine lv_iconst (v := 1) hx hb dL_holds_171 (by decide) ?_
                          refine lv_isub hx hb dL_holds_172 ?_
                          refine lv_toN (k := e - 1) (pk_sub (a := e) (b := 1) (by omega)) ?_
                          refine lv_iconst (v := 1) hx hb dL_holds_173 (by decide) ?_
                          refine g_cVi (As := [.int (nI k), .int (nI (e - 1)), .int 1]) (rest := []) hx hb hml hown hts hK hA hG hS (k_X4_layer_ok l D cy N L _ (by omega) C k (e - 1) 1 (hy) (by omega) (by omega) (by decide)) (cwV 3 hts gL_holds_X4_layer rfl rfl rfl (by decide +kernel) ⟨Nat.le_of_ble_eq_true rfl, Nat.le_of_ble_eq_true rfl⟩) (by omega) cW_o (ci := 4) rfl rfl rfl rfl hl.1 (Nat.le_of_ble_eq_true rfl) dL_holds_174 ⟨Nat.zero_le _, Nat.zero_le _⟩ (fun H locs hG hS => ?_)
                          refine lv_toI (y := sA (yS (cY C) k) (e - 1)) (tellL_1) ?_
                          refine lv_iload hx hb dL_holds_177 (lv_at hl 1 rfl) ?_
                          refine lv_icmp_ge (tgt := 184) hx hb dL_holds_179 (by decide) (fun c_179 => ?_) (fun c_179 => ?_)
                          · skip
                            refine lv_iinc (v := nI (e + 1)) (lv' := [(7, .int (nI (e + 1))), (5, .int (s_sum (sT (yS (cY C) k)) 0 (e + 1))), (10, .int (sA (yS (cY C) k) e)), (9, .int (g_set (sA (yS (cY C) k) e) (yZ (cY C) 1))), (8, .int (sT (yS (cY C) k) e)), (6, .int (nI (sN (yS (cY C) k)))), (1, .int (y_silos (cY C) k)), (2, .int (y_pads (cY C) k)), (3, .int (y_arches (cY C) k)), (4, .int (nI k)), (0, .ref (L 0))]) hx hb dL_holds_184 hl (k := 4) rfl (nI_add e 1) (by decide) rfl (fun ls hl => ?_)
                            refine lv_goto (tgt := 30) hx hb dL_holds_187 (by decide) ?_
                            have hl : lv_has ls 11 [(5, .int (s_sum (sT (yS (cY C) k)) 0 (e + 1))), (7, .int (nI (e + 1))), (6, .int (nI (sN (yS (cY C) k)))), (1, .int (y_silos (cY C) k)), (2, .int (y_pads (cY C) k)), (3, .int (y_arches (cY C) k)), (4, .int (nI k)), (0, .ref (L 0))] := lv_sub hl [1, 0, 5, 6, 7, 8, 9, 10] rfl
                            exact ih30 (e + 1) _ _ _ (by omega) ⟨by omega, hG.to (rfl), hS, lv_to hl (rfl)⟩
                          · skip
                            exact absurd (hsr c_158 k hk4 e (by omega) he4) c_179
            · skip
              exact absurd (g_set_0.mpr c_109) c_93
          · skip
            refine lv_iconst (v := 1) hx hb dL_holds_96 (by decide) ?_
            refine lv_goto (tgt := 101) hx hb dL_holds_97 (by decide) ?_
            refine lv_iload hx hb dL_holds_101 (lv_at hl 1 rfl) ?_
            refine lv_aload_n hx hb dL_holds_103 rfl (lv_at hl 10 rfl) ?_
            refine lv_bipush (v := 11) hx hb dL_holds_104 (by decide) ?_
            refine g_cVi (As := [.int 11]) (rest := [.int (sA (yS (cY C) k) e), .int 1]) hx hb hml hown hts hK hA hG hS (k_X4_count_ok l D cy N L _ (by omega) C 11 (hy) (by decide)) (cwV 1 hts gL_holds_X4_count rfl rfl rfl (by decide +kernel) ⟨Nat.le_of_ble_eq_true rfl, Nat.le_of_ble_eq_true rfl⟩) (by omega) cW_o (ci := 4) rfl rfl rfl rfl hl.1 (Nat.le_of_ble_eq_true rfl) dL_holds_106 ⟨Nat.zero_le _, Nat.zero_le _⟩ (fun H locs hG hS => ?_)
            refine lv_toI (y := yZ (cY C) 1) (cnt_11) ?_
            refine lv_icmp_gt (tgt := 116) hx hb dL_holds_109 (by decide) (fun c_109 => ?_) (fun c_109 => ?_)
            · skip
              exact absurd c_109 (g_set_0.mp c_93)
            · skip
              refine lv_iconst (v := 1) hx hb dL_holds_112 (by decide) ?_
              refine lv_goto (tgt := 117) hx hb dL_holds_113 (by decide) ?_
              refine lv_icmp_ne (tgt := 182) hx hb dL_holds_117 (by decide) (fun c_117 => ?_) (fun c_117 => ?_)
              · skip
                exact absurd c_117 (by decide)
              · skip
                refine lv_iload hx hb dL_holds_120 (lv_at hl 2 rfl) ?_
                refine lv_iconst (v := 2) hx hb dL_holds_122 (by decide) ?_
                refine lv_icmp_ne (tgt := 130) hx hb dL_holds_123 (by decide) (fun c_123 => ?_) (fun c_123 => ?_)
                · skip
                  refine lv_iconst (v := 0) hx hb dL_holds_130 (by decide) ?_
                  refine lv_iload hx hb dL_holds_131 (lv_at hl 1 rfl) ?_
                  refine lv_iconst (v := 2) hx hb dL_holds_133 (by decide) ?_
                  refine lv_aload_n hx hb dL_holds_134 rfl (lv_at hl 10 rfl) ?_
                  refine lv_bipush (v := 11) hx hb dL_holds_135 (by decide) ?_
                  refine g_cVi (As := [.int 11]) (rest := [.int 2, .int (sA (yS (cY C) k) e), .int 0]) hx hb hml hown hts hK hA hG hS (k_X4_count_ok l D cy N L _ (by omega) C 11 (hy) (by decide)) (cwV 1 hts gL_holds_X4_count rfl rfl rfl (by decide +kernel) ⟨Nat.le_of_ble_eq_true rfl, Nat.le_of_ble_eq_true rfl⟩) (by omega) cW_o (ci := 4) rfl rfl rfl rfl hl.1 (Nat.le_of_ble_eq_true rfl) dL_holds_137 ⟨Nat.zero_le _, Nat.zero_le _⟩ (fun H locs hG hS => ?_)
                  refine lv_toI (y := yZ (cY C) 1) (cnt_11) ?_
                  refine lv_imul hx hb dL_holds_140 ?_
                  refine lv_icmp_le (tgt := 148) hx hb dL_holds_141 (by decide) (fun c_141 => ?_) (fun c_141 => ?_)
                  · skip
                    refine lv_iconst (v := 0) hx hb dL_holds_148 (by decide) ?_
                    refine lv_icmp_ne (tgt := 182) hx hb dL_holds_149 (by decide) (fun c_149 => ?_) (fun c_149 => ?_)
                    · skip
                      exact absurd c_149 (by decide)
                    · skip
                      refine lv_aload_n hx hb dL_holds_152 rfl (lv_at hl 10 rfl) ?_
                      refine lv_bipush (v := 8) hx hb dL_holds_153 (by decide) ?_
                      refine g_cVi (As := [.int 8]) (rest := []) hx hb hml hown hts hK hA hG hS (k_X4_count_ok l D cy N L _ (by omega) C 8 (hy) (by decide)) (cwV 1 hts gL_holds_X4_count rfl rfl rfl (by decide +kernel) ⟨Nat.le_of_ble_eq_true rfl, Nat.le_of_ble_eq_true rfl⟩) (by omega) cW_o (ci := 4) rfl rfl rfl rfl hl.1 (Nat.le_of_ble_eq_true rfl) dL_holds_155 ⟨Nat.zero_le _, Nat.zero_le _⟩ (fun H locs hG hS => ?_)
                      refine lv_toI (y := yC (cY C) 4) (cnt_8) ?_
                      refine lv_if_ne (tgt := 184) hx hb dL_holds_158 (by decide) (fun c_158 => ?_) (fun c_158 => ?_)
                      · skip
                        refine lv_iinc (v := nI (e + 1)) (lv' := [(7, .int (nI (e + 1))), (5, .int (s_sum (sT (yS (cY C) k)) 0 (e + 1))), (10, .int (sA (yS (cY C) k) e)), (9, .int (g_set (sA (yS (cY C) k) e) (yZ (cY C) 1))), (8, .int (sT (yS (cY C) k) e)), (6, .int (nI (sN (yS (cY C) k)))), (1, .int (y_silos (cY C) k)), (2, .int (y_pads (cY C) k)), (3, .int (y_arches (cY C) k)), (4, .int (nI k)), (0, .ref (L 0))]) hx hb dL_holds_184 hl (k := 4) rfl (nI_add e 1) (by decide) rfl (fun ls hl => ?_)
                        refine lv_goto (tgt := 30) hx hb dL_holds_187 (by decide) ?_
                        have hl : lv_has ls 11 [(5, .int (s_sum (sT (yS (cY C) k)) 0 (e + 1))), (7, .int (nI (e + 1))), (6, .int (nI (sN (yS (cY C) k)))), (1, .int (y_silos (cY C) k)), (2, .int (y_pads (cY C) k)), (3, .int (y_arches (cY C) k)), (4, .int (nI k)), (0, .ref (L 0))] := lv_sub hl [1, 0, 5, 6, 7, 8, 9, 10] rfl
                        exact ih30 (e + 1) _ _ _ (by omega) ⟨by omega, hG.to (rfl), hS, lv_to hl (rfl)⟩
                      · skip
                        refine lv_iload hx hb dL_holds_161 (lv_at hl 4 rfl) ?_
                        refine lv_if_le (tgt := 184) hx hb dL_holds_163 (by decide) (fun c_163 => ?_) (fun c_163 => ?_)
                        · skip
                          have c_163 : e ≤ 0 := (nI_leI (a := e) (b := 0) (by omega) (by omega)).mp c_163
                          refine lv_iinc (v := nI (e + 1)) (lv' := [(7, .int (nI (e + 1))), (5, .int (s_sum (sT (yS (cY C) k)) 0 (e + 1))), (10, .int (sA (yS (cY C) k) e)), (9, .int (g_set (sA (yS (cY C) k) e) (yZ (cY C) 1))), (8, .int (sT (yS (cY C) k) e)), (6, .int (nI (sN (yS (cY C) k)))), (1, .int (y_silos (cY C) k)), (2, .int (y_pads (cY C) k)), (3, .int (y_arches (cY C) k)), (4, .int (nI k)), (0, .ref (L 0))]) hx hb dL_holds_184 hl (k := 4) rfl (nI_add e 1) (by decide) rfl (fun ls hl => ?_)
                          refine lv_goto (tgt := 30) hx hb dL_holds_187 (by decide) ?_
                          have hl : lv_has ls 11 [(5, .int (s_sum (sT (yS (cY C) k)) 0 (e + 1))), (7, .int (nI (e + 1))), (6, .int (nI (sN (yS (cY C) k)))), (1, .int (y_silos (cY C) k)), (2, .int (y_pads (cY C) k)), (3, .int (y_arches (cY C) k)), (4, .int (nI k)), (0, .ref (L 0))] := lv_sub hl [1, 0, 5, 6, 7, 8, 9, 10] rfl
                          exact ih30 (e + 1) _ _ _ (by omega) ⟨by omega, hG.to (rfl), hS, lv_to hl (rfl)⟩
                        · skip
                          have c_163 : ¬ e ≤ 0 := fun h9 => c_163 ((nI_leI (a := e) (b := 0) (by omega) (by omega)).mpr h9)
                          refine lv_aload_n hx hb dL_holds_166 rfl (lv_at hl 10 rfl) ?_
                          refine lv_iload hx hb dL_holds_167 (lv_at hl 9 rfl) ?_
                          refine lv_iload hx hb dL_holds_169 (lv_at hl 4 rfl) ?_
                          refine lv_iconst (v := 1) hx hb dL_holds_171 (by decide) ?_
                          refine lv_isub hx hb dL_holds_172 ?_
                          refine lv_toN (k := e - 1) (pk_sub (a := e) (b := 1) (by omega)) ?_
                          refine lv_iconst (v := 1) hx hb dL_holds_173 (by decide) ?_
                          refine g_cVi (As := [.int (nI k), .int (nI (e - 1)), .int 1]) (rest := []) hx hb hml hown hts hK hA hG hS (k_X4_layer_ok l D cy N L _ (by omega) C k (e - 1) 1 (hy) (by omega) (by omega) (by decide)) (cwV 3 hts gL_holds_X4_layer rfl rfl rfl (by decide +kernel) ⟨Nat.le_of_ble_eq_true rfl, Nat.le_of_ble_eq_true rfl⟩) (by omega) cW_o (ci := 4) rfl rfl rfl rfl hl.1 (Nat.le_of_ble_eq_true rfl) dL_holds_174 ⟨Nat.zero_le _, Nat.zero_le _⟩ (fun H locs hG hS => ?_)
                          refine lv_toI (y := sA (yS (cY C) k) (e - 1)) (tellL_1) ?_
                          refine lv_iload hx hb dL_holds_177 (lv_at hl 1 rfl) ?_
                          refine lv_icmp_ge (tgt := 184) hx hb dL_holds_179 (by decide) (fun c_179 => ?_) (fun c_179 => ?_)
                          · skip
                            refine lv_iinc (v := nI (e + 1)) (lv' := [(7, .int (nI (e + 1))), (5, .int (s_sum (sT (yS (cY C) k)) 0 (e + 1))), (10, .int (sA (yS (cY C) k) e)), (9, .int (g_set (sA (yS (cY C) k) e) (yZ (cY C) 1))), (8, .int (sT (yS (cY C) k) e)), (6, .int (nI (sN (yS (cY C) k)))), (1, .int (y_silos (cY C) k)), (2, .int (y_pads (cY C) k)), (3, .int (y_arches (cY C) k)), (4, .int (nI k)), (0, .ref (L 0))]) hx hb dL_holds_184 hl (k := 4) rfl (nI_add e 1) (by decide) rfl (fun ls hl => ?_)
                            refine lv_goto (tgt := 30) hx hb dL_holds_187 (by decide) ?_
                            have hl : lv_has ls 11 [(5, .int (s_sum (sT (yS (cY C) k)) 0 (e + 1))), (7, .int (nI (e + 1))), (6, .int (nI (sN (yS (cY C) k)))), (1, .int (y_silos (cY C) k)), (2, .int (y_pads (cY C) k)), (3, .int (y_arches (cY C) k)), (4, .int (nI k)), (0, .ref (L 0))] := lv_sub hl [1, 0, 5, 6, 7, 8, 9, 10] rfl
                            exact ih30 (e + 1) _ _ _ (by omega) ⟨by omega, hG.to (rfl), hS, lv_to hl (rfl)⟩
                          · skip
                            exact absurd (hsr c_158 k hk4 e (by omega) he4) c_179
                  · skip
                    exact absurd ((g_set_2 hz1).mpr c_141) c_123
                · skip
                  refine lv_iconst (v := 1) hx hb dL_holds_126 (by decide) ?_
                  refine lv_goto (tgt := 131) hx hb dL_holds_127 (by decide) ?_
                  refine lv_iload hx hb dL_holds_131 (lv_at hl 1 rfl) ?_
                  refine lv_iconst (v := 2) hx hb dL_holds_133 (by decide) ?_
                  refine lv_aload_n hx hb dL_holds_134 rfl (lv_at hl 10 rfl) ?_
                  refine lv_bipush (v := 11) hx hb dL_holds_135 (by decide) ?_
                  refine g_cVi (As := [.int 11]) (rest := [.int 2, .int (sA (yS (cY C) k) e), .int 1]) hx hb hml hown hts hK hA hG hS (k_X4_count_ok l D cy N L _ (by omega) C 11 (hy) (by decide)) (cwV 1 hts gL_holds_X4_count rfl rfl rfl (by decide +kernel) ⟨Nat.le_of_ble_eq_true rfl, Nat.le_of_ble_eq_true rfl⟩) (by omega) cW_o (ci := 4) rfl rfl rfl rfl hl.1 (Nat.le_of_ble_eq_true rfl) dL_holds_137 ⟨Nat.zero_le _, Nat.zero_le _⟩ (fun H locs hG hS => ?_)
                  refine lv_toI (y := yZ (cY C) 1) (cnt_11) ?_
                  refine lv_imul hx hb dL_holds_140 ?_
                  refine lv_icmp_le (tgt := 148) hx hb dL_holds_141 (by decide) (fun c_141 => ?_) (fun c_141 => ?_)
                  · skip
                    exact absurd c_141 ((g_set_2 hz1).mp c_123)
                  · skip
                    refine lv_iconst (v := 1) hx hb dL_holds_144 (by decide) ?_
                    refine lv_goto (tgt := 149) hx hb dL_holds_145 (by decide) ?_
                    refine lv_icmp_ne (tgt := 182) hx hb dL_holds_149 (by decide) (fun c_149 => ?_) (fun c_149 => ?_)
                    · skip
                      exact absurd c_149 (by decide)
                    · skip
                      refine lv_aload_n hx hb dL_holds_152 rfl (lv_at hl 10 rfl) ?_
                      refine lv_bipush (v := 8) hx hb dL_holds_153 (by decide) ?_
                      refine g_cVi (As := [.int 8]) (rest := []) hx hb hml hown hts hK hA hG hS (k_X4_count_ok l D cy N L _ (by omega) C 8 (hy) (by decide)) (cwV 1 hts gL_holds_X4_count rfl rfl rfl (by decide +kernel) ⟨Nat.le_of_ble_eq_true rfl, Nat.le_of_ble_eq_true rfl⟩) (by omega) cW_o (ci := 4) rfl rfl rfl rfl hl.1 (Nat.le_of_ble_eq_true rfl) dL_holds_155 ⟨Nat.zero_le _, Nat.zero_le _⟩ (fun H locs hG hS => ?_)
                      refine lv_toI (y := yC (cY C) 4) (cnt_8) ?_
                      refine lv_if_ne (tgt := 184) hx hb dL_holds_158 (by decide) (fun c_158 => ?_) (fun c_158 => ?_)
                      · skip
                        refine lv_iinc (v := nI (e + 1)) (lv' := [(7, .int (nI (e + 1))), (5, .int (s_sum (sT (yS (cY C) k)) 0 (e + 1))), (10, .int (sA (yS (cY C) k) e)), (9, .int (g_set (sA (yS (cY C) k) e) (yZ (cY C) 1))), (8, .int (sT (yS (cY C) k) e)), (6, .int (nI (sN (yS (cY C) k)))), (1, .int (y_silos (cY C) k)), (2, .int (y_pads (cY C) k)), (3, .int (y_arches (cY C) k)), (4, .int (nI k)), (0, .ref (L 0))]) hx hb dL_holds_184 hl (k := 4) rfl (nI_add e 1) (by decide) rfl (fun ls hl => ?_)
                        refine lv_goto (tgt := 30) hx hb dL_holds_187 (by decide) ?_
                        have hl : lv_has ls 11 [(5, .int (s_sum (sT (yS (cY C) k)) 0 (e + 1))), (7, .int (nI (e + 1))), (6, .int (nI (sN (yS (cY C) k)))), (1, .int (y_silos (cY C) k)), (2, .int (y_pads (cY C) k)), (3, .int (y_arches (cY C) k)), (4, .int (nI k)), (0, .ref (L 0))] := lv_sub hl [1, 0, 5, 6, 7, 8, 9, 10] rfl
                        exact ih30 (e + 1) _ _ _ (by omega) ⟨by omega, hG.to (rfl), hS, lv_to hl (rfl)⟩
                      · skip
                        refine lv_iload hx hb dL_holds_161 (lv_at hl 4 rfl) ?_
                        refine lv_if_le (tgt := 184) hx hb dL_holds_163 (by decide) (fun c_163 => ?_) (fun c_163 => ?_)
                        · skip
                          have c_163 : e ≤ 0 := (nI_leI (a := e) (b := 0) (by omega) (by omega)).mp c_163
                          refine lv_iinc (v := nI (e + 1)) (lv' := [(7, .int (nI (e + 1))), (5, .int (s_sum (sT (yS (cY C) k)) 0 (e + 1))), (10, .int (sA (yS (cY C) k) e)), (9, .int (g_set (sA (yS (cY C) k) e) (yZ (cY C) 1))), (8, .int (sT (yS (cY C) k) e)), (6, .int (nI (sN (yS (cY C) k)))), (1, .int (y_silos (cY C) k)), (2, .int (y_pads (cY C) k)), (3, .int (y_arches (cY C) k)), (4, .int (nI k)), (0, .ref (L 0))]) hx hb dL_holds_184 hl (k := 4) rfl (nI_add e 1) (by decide) rfl (fun ls hl => ?_)
                          refine lv_goto (tgt := 30) hx hb dL_holds_187 (by decide) ?_
                          have hl : lv_has ls 11 [(5, .int (s_sum (sT (yS (cY C) k)) 0 (e + 1))), (7, .int (nI (e + 1))), (6, .int (nI (sN (yS (cY C) k)))), (1, .int (y_silos (cY C) k)), (2, .int (y_pads (cY C) k)), (3, .int (y_arches (cY C) k)), (4, .int (nI k)), (0, .ref (L 0))] := lv_sub hl [1, 0, 5, 6, 7, 8, 9, 10] rfl
                          exact ih30 (e + 1) _ _ _ (by omega) ⟨by omega, hG.to (rfl), hS, lv_to hl (rfl)⟩
                        · skip
                          have c_163 : ¬ e ≤ 0 := fun h9 => c_163 ((nI_leI (a := e) (b := 0) (by omega) (by omega)).mpr h9)
                          refine lv_aload_n hx hb dL_holds_166 rfl (lv_at hl 10 rfl) ?_
                          refine lv_iload hx hb dL_holds_167 (lv_at hl 9 rfl) ?_
                          refine lv_iload hx hb dL_holds_169 (lv_at hl 4 rfl) ?_
                          refine lv_iconst (v := 1) hx hb dL_holds_171 (by decide) ?_
                          refine lv_isub hx hb dL_holds_172 ?_
                          refine lv_toN (k := e - 1) (pk_sub (a := e) (b := 1) (by omega)) ?_
                          refine lv_iconst (v := 1) hx hb dL_holds_173 (by decide) ?_
                          refine g_cVi (As := [.int (nI k), .int (nI (e - 1)), .int 1]) (rest := []) hx hb hml hown hts hK hA hG hS (k_X4_layer_ok l D cy N L _ (by omega) C k (e - 1) 1 (hy) (by omega) (by omega) (by decide)) (cwV 3 hts gL_holds_X4_layer rfl rfl rfl (by decide +kernel) ⟨Nat.le_of_ble_eq_true rfl, Nat.le_of_ble_eq_true rfl⟩) (by omega) cW_o (ci := 4) rfl rfl rfl rfl hl.1 (Nat.le_of_ble_eq_true rfl) dL_holds_174 ⟨Nat.zero_le _, Nat.zero_le _⟩ (fun H locs hG hS => ?_)
                          refine lv_toI (y := sA (yS (cY C) k) (e - 1)) (tellL_1) ?_
                          refine lv_iload hx hb dL_holds_177 (lv_at hl 1 rfl) ?_
                          refine lv_icmp_ge (tgt := 184) hx hb dL_holds_179 (by decide) (fun c_179 => ?_) (fun c_179 => ?_)
                          · skip
                            refine lv_iinc (v := nI (e + 1)) (lv' := [(7, .int (nI (e + 1))), (5, .int (s_sum (sT (yS (cY C) k)) 0 (e + 1))), (10, .int (sA (yS (cY C) k) e)), (9, .int (g_set (sA (yS (cY C) k) e) (yZ (cY C) 1))), (8, .int (sT (yS (cY C) k) e)), (6, .int (nI (sN (yS (cY C) k)))), (1, .int (y_silos (cY C) k)), (2, .int (y_pads (cY C) k)), (3, .int (y_arches (cY C) k)), (4, .int (nI k)), (0, .ref (L 0))]) hx hb dL_holds_184 hl (k := 4) rfl (nI_add e 1) (by decide) rfl (fun ls hl => ?_)
                            refine lv_goto (tgt := 30) hx hb dL_holds_187 (by decide) ?_
                            have hl : lv_has ls 11 [(5, .int (s_sum (sT (yS (cY C) k)) 0 (e + 1))), (7, .int (nI (e + 1))), (6, .int (nI (sN (yS (cY C) k)))), (1, .int (y_silos (cY C) k)), (2, .int (y_pads (cY C) k)), (3, .int (y_arches (cY C) k)), (4, .int (nI k)), (0, .ref (L 0))] := lv_sub hl [1, 0, 5, 6, 7, 8, 9, 10] rfl
                            exact ih30 (e + 1) _ _ _ (by omega) ⟨by omega, hG.to (rfl), hS, lv_to hl (rfl)⟩
                          · skip
                            exact absurd (hsr c_158 k hk4 e (by omega) he4) c_179
