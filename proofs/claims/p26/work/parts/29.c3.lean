set_option maxHeartbeats 4000000 in
set_option maxRecDepth 100000 in
theorem k_X3_siloTonnes (l : Launch) (D : va_G) (cy : Nat → ClassId) (N : Nat) (L : Nat → Nat) (F : Nat → va_E) (b : Nat) (y : YT) (hb : b + 22 ≤ N)   (hy : ∀ k, k < 4 → sN (yS y k) ≤ 10) : GM l D cy N L yX3_siloTonnes wsX3_siloTonnes ({ frames := 2, cells := 0, slots := 0, locals := 43 }) [.ref (L b)] (yW cy L F b y) (some (.int (y_silos y 4))) (yW cy L F b y) := by
  refine GM.ofW (cc := cX3_siloTonnes) (maxL := 3) (ret := (some .int)) (by decide) rfl (Nat.le_of_ble_eq_true rfl) ?_
  intro p e s m below meth c ls hx hb hr hts hown hlocks hml hK hA hG hS hl
  have hl : lv_has ls 3 [(0, .ref (L b))] := hl
  have hf11 := hts (.fieldLink RX3 11 "SiloPads$Yard" "silos" "[LSiloPads$Silo;") (by decide +kernel)
  have hinX3 : ∀ w ∈ u_ws RX3 TX3 9, w ∈ wsX3_siloTonnes := by decide +kernel
  refine lv_iconst (v := 0) hx hb dX3_siloTonnes_0 (by decide) ?_
  refine lv_istore_n (lv' := [(1, .int 0), (0, .ref (L b))]) hx hb dX3_siloTonnes_1 rfl hl (by decide) rfl (fun ls hl => ?_)
  refine lv_iconst (v := 0) hx hb dX3_siloTonnes_2 (by decide) ?_
  refine lv_istore_n (lv' := [(2, .int 0), (1, .int 0), (0, .ref (L b))]) hx hb dX3_siloTonnes_3 rfl hl (by decide) rfl (fun ls hl => ?_)
  refine W.loop (σ := Nat) (fun k H locs ls => (k ≤ 4) ∧ GW D N L (gA N L s.heap.size) (yW cy L F b y) H ∧ va_S (gA N L s.heap.size) s.heap H locs ∧ lv_has ls 3 [(1, .int (y_silos y k)), (2, .int (nI k)), (0, .ref (L b))]) (fun k => 4 - k) 0 ⟨by omega, hG.to (rfl), hS, lv_to (lv_sub hl [1, 0, 2] rfl) (rfl)⟩ ?_
  intro k H locs ls hP9 ih4
  obtain ⟨hk9, hG, hS, hl⟩ := hP9
  refine lv_iload_n hx hb dX3_siloTonnes_4 rfl (lv_at hl 1 rfl) ?_
  refine lv_iconst (v := 4) hx hb dX3_siloTonnes_5 (by decide) ?_
  refine lv_icmp_ge (tgt := 27) hx hb dX3_siloTonnes_6 (by decide) (fun c_6 => ?_) (fun c_6 => ?_)
  · skip
    have c_6 : 4 ≤ k := (nI_leI (a := 4) (b := k) (by omega) (by omega)).mp c_6
    refine lv_iload_n hx hb dX3_siloTonnes_27 rfl (lv_at hl 0 rfl) ?_
    exact g_iret hx hb hr hlocks hK hG hS rfl dX3_siloTonnes_28 ⟨(congrArg (fun z9 => some (Value.int z9)) (by rw [show k = 4 by omega])), rfl⟩
  · skip
    have c_6 : ¬ 4 ≤ k := fun h9 => c_6 ((nI_leI (a := 4) (b := k) (by omega) (by omega)).mpr h9)
    refine lv_iload_n hx hb dX3_siloTonnes_9 rfl (lv_at hl 0 rfl) ?_
    refine lv_aload_n hx hb dX3_siloTonnes_10 rfl (lv_at hl 2 rfl) ?_
    refine g_get (ci := 3) (C := RX3) (T := TX3) (M := 9) hx hb hts hinX3 hown hK hG (by omega) yW_o rfl 0 (by decide) hf11 rfl rfl dX3_siloTonnes_11 ?_
    refine lv_iload_n hx hb dX3_siloTonnes_14 rfl (lv_at hl 1 rfl) ?_
    refine g_aald (j := b + 4 + 3 * k) hx hb hK hG (by omega) yW_s (t0 := 1) rfl (k := k) rfl (by omega) (by decide) rfl dX3_siloTonnes_15 ?_
    have hG : GW D N L (gA N L s.heap.size) (sW cy L (yW cy L F b y) (b + 4 + 3 * k) ((yS y) k)) H := hG.to (by rw [yW_S0 (k := k) (by omega)])
    refine g_cVi (As := []) (rest := [.int (y_silos y k)]) hx hb hml hown hts hK hA hG hS (k_X1_total l D cy N L _ _ _ (by omega)  (hy k (by omega))) (cwV 0 hts gX3_siloTonnes_X1_total rfl rfl rfl (by decide +kernel) ⟨Nat.le_of_ble_eq_true rfl, Nat.le_of_ble_eq_true rfl⟩) (by omega) sW_o (ci := 1) rfl rfl rfl rfl hl.1 (Nat.le_of_ble_eq_true rfl) dX3_siloTonnes_16 ⟨Nat.zero_le _, Nat.zero_le _⟩ (fun H locs hG hS => ?_)
    have hG : GW D N L (gA N L s.heap.size) (yW cy L F b y) H := hG.to (by rw [yW_S0 (k := k) (by omega)] <;> rfl)
    refine lv_iadd hx hb dX3_siloTonnes_19 ?_
    refine lv_istore_n (lv' := [(1, .int ((y_silos y k) + (s_total ((yS y) k)))), (2, .int (nI k)), (0, .ref (L b))]) hx hb dX3_siloTonnes_20 rfl hl (by decide) rfl (fun ls hl => ?_)
    refine lv_iinc (v := nI (k + 1)) (lv' := [(2, .int (nI (k + 1))), (1, .int ((y_silos y k) + (s_total ((yS y) k)))), (0, .ref (L b))]) hx hb dX3_siloTonnes_21 hl (k := 1) rfl (nI_add k 1) (by decide) rfl (fun ls hl => ?_)
    refine lv_goto (tgt := 4) hx hb dX3_siloTonnes_24 (by decide) ?_
    have hl : lv_has ls 3 [(1, .int ((y_silos y k) + (s_total ((yS y) k)))), (2, .int (nI (k + 1))), (0, .ref (L b))] := lv_sub hl [1, 0, 2] rfl
    exact ih4 (k + 1) _ _ _ (by omega) ⟨by omega, hG.to (rfl), hS, lv_to hl (rfl)⟩
set_option maxHeartbeats 4000000 in
set_option maxRecDepth 100000 in
theorem k_X3_shipTonnes (l : Launch) (D : va_G) (cy : Nat → ClassId) (N : Nat) (L : Nat → Nat) (F : Nat → va_E) (b : Nat) (y : YT) (hb : b + 22 ≤ N)    : GM l D cy N L yX3_shipTonnes wsX3_shipTonnes ({ frames := 0, cells := 0, slots := 0, locals := 0 }) [.ref (L b)] (yW cy L F b y) (some (.int (y_ships y 6))) (yW cy L F b y) := by
  refine GM.ofW (cc := cX3_shipTonnes) (maxL := 3) (ret := (some .int)) (by decide) rfl (Nat.le_of_ble_eq_true rfl) ?_
  intro p e s m below meth c ls hx hb hr hts hown hlocks hml hK hA hG hS hl
  have hl : lv_has ls 3 [(0, .ref (L b))] := hl
  have hf19 := hts (.fieldLink RX3 19 "SiloPads$Yard" "ships" "[LSiloPads$Ship;") (by decide +kernel)
  have hinX3 : ∀ w ∈ u_ws RX3 TX3 9, w ∈ wsX3_shipTonnes := by decide +kernel
  have hf67 := hts (.fieldLink RX3 67 "SiloPads$Ship" "tonnes" "I") (by decide +kernel)
  have hinX0 : ∀ w ∈ u_ws RX0 TX0 2, w ∈ wsX3_shipTonnes := by decide +kernel
  refine lv_iconst (v := 0) hx hb dX3_shipTonnes_0 (by decide) ?_
  refine lv_istore_n (lv' := [(1, .int 0), (0, .ref (L b))]) hx hb dX3_shipTonnes_1 rfl hl (by decide) rfl (fun ls hl => ?_)
  refine lv_iconst (v := 0) hx hb dX3_shipTonnes_2 (by decide) ?_
  refine lv_istore_n (lv' := [(2, .int 0), (1, .int 0), (0, .ref (L b))]) hx hb dX3_shipTonnes_3 rfl hl (by decide) rfl (fun ls hl => ?_)
  refine W.loop (σ := Nat) (fun k H locs ls => (k ≤ 6) ∧ GW D N L (gA N L s.heap.size) (yW cy L F b y) H ∧ va_S (gA N L s.heap.size) s.heap H locs ∧ lv_has ls 3 [(1, .int (y_ships y k)), (2, .int (nI k)), (0, .ref (L b))]) (fun k => 6 - k) 0 ⟨by omega, hG.to (rfl), hS, lv_to (lv_sub hl [1, 0, 2] rfl) (rfl)⟩ ?_
  intro k H locs ls hP9 ih4
  obtain ⟨hk9, hG, hS, hl⟩ := hP9
  refine lv_iload_n hx hb dX3_shipTonnes_4 rfl (lv_at hl 1 rfl) ?_
  refine lv_bipush (v := 6) hx hb dX3_shipTonnes_5 (by decide) ?_
  refine lv_icmp_ge (tgt := 28) hx hb dX3_shipTonnes_7 (by decide) (fun c_7 => ?_) (fun c_7 => ?_)
  · skip
    have c_7 : 6 ≤ k := (nI_leI (a := 6) (b := k) (by omega) (by omega)).mp c_7
    refine lv_iload_n hx hb dX3_shipTonnes_28 rfl (lv_at hl 0 rfl) ?_
    exact g_iret hx hb hr hlocks hK hG hS rfl dX3_shipTonnes_29 ⟨(congrArg (fun z9 => some (Value.int z9)) (by rw [show k = 6 by omega])), rfl⟩
  · skip
    have c_7 : ¬ 6 ≤ k := fun h9 => c_7 ((nI_leI (a := 6) (b := k) (by omega) (by omega)).mpr h9)
    refine lv_iload_n hx hb dX3_shipTonnes_10 rfl (lv_at hl 0 rfl) ?_
    refine lv_aload_n hx hb dX3_shipTonnes_11 rfl (lv_at hl 2 rfl) ?_
    refine g_get (ci := 3) (C := RX3) (T := TX3) (M := 9) hx hb hts hinX3 hown hK hG (by omega) yW_o rfl 1 (by decide) hf19 rfl rfl dX3_shipTonnes_12 ?_
    refine lv_iload_n hx hb dX3_shipTonnes_15 rfl (lv_at hl 1 rfl) ?_
    refine g_aald (j := b + 16 + k) hx hb hK hG (by omega) yW_h (t0 := 2) rfl (k := k) rfl (by omega) (by decide) rfl dX3_shipTonnes_16 ?_
    refine g_get (ci := 0) (C := RX0) (T := TX0) (M := 2) hx hb hts hinX0 hown hK hG (by omega) (yW_ho (by omega)) rfl 0 (by decide) hf67 rfl rfl dX3_shipTonnes_17 ?_
    refine lv_iadd hx hb dX3_shipTonnes_20 ?_
    refine lv_istore_n (lv' := [(1, .int ((y_ships y k) + (hT ((yH y) k)))), (2, .int (nI k)), (0, .ref (L b))]) hx hb dX3_shipTonnes_21 rfl hl (by decide) rfl (fun ls hl => ?_)
    refine lv_iinc (v := nI (k + 1)) (lv' := [(2, .int (nI (k + 1))), (1, .int ((y_ships y k) + (hT ((yH y) k)))), (0, .ref (L b))]) hx hb dX3_shipTonnes_22 hl (k := 1) rfl (nI_add k 1) (by decide) rfl (fun ls hl => ?_)
    refine lv_goto (tgt := 4) hx hb dX3_shipTonnes_25 (by decide) ?_
    have hl : lv_has ls 3 [(1, .int ((y_ships y k) + (hT ((yH y) k)))), (2, .int (nI (k + 1))), (0, .ref (L b))] := lv_sub hl [1, 0, 2] rfl
    exact ih4 (k + 1) _ _ _ (by omega) ⟨by omega, hG.to (rfl), hS, lv_to hl (rfl)⟩
set_option maxHeartbeats 4000000 in
set_option maxRecDepth 100000 in
theorem k_X3_padsOn (l : Launch) (D : va_G) (cy : Nat → ClassId) (N : Nat) (L : Nat → Nat) (F : Nat → va_E) (b : Nat) (y : YT) (hb : b + 22 ≤ N)    : GM l D cy N L yX3_padsOn wsX3_padsOn ({ frames := 0, cells := 0, slots := 0, locals := 0 }) [.ref (L b)] (yW cy L F b y) (some (.int (y_pads y 4))) (yW cy L F b y) := by
  refine GM.ofW (cc := cX3_padsOn) (maxL := 3) (ret := (some .int)) (by decide) rfl (Nat.le_of_ble_eq_true rfl) ?_
  intro p e s m below meth c ls hx hb hr hts hown hlocks hml hK hA hG hS hl
  have hl : lv_has ls 3 [(0, .ref (L b))] := hl
  have hf11 := hts (.fieldLink RX3 11 "SiloPads$Yard" "silos" "[LSiloPads$Silo;") (by decide +kernel)
  have hinX3 : ∀ w ∈ u_ws RX3 TX3 9, w ∈ wsX3_padsOn := by decide +kernel
  have hf70 := hts (.fieldLink RX3 70 "SiloPads$Silo" "padsOn" "I") (by decide +kernel)
  have hinX1 : ∀ w ∈ u_ws RX1 TX1 6, w ∈ wsX3_padsOn := by decide +kernel
  refine lv_iconst (v := 0) hx hb dX3_padsOn_0 (by decide) ?_
  refine lv_istore_n (lv' := [(1, .int 0), (0, .ref (L b))]) hx hb dX3_padsOn_1 rfl hl (by decide) rfl (fun ls hl => ?_)
  refine lv_iconst (v := 0) hx hb dX3_padsOn_2 (by decide) ?_
  refine lv_istore_n (lv' := [(2, .int 0), (1, .int 0), (0, .ref (L b))]) hx hb dX3_padsOn_3 rfl hl (by decide) rfl (fun ls hl => ?_)
  refine W.loop (σ := Nat) (fun k H locs ls => (k ≤ 4) ∧ GW D N L (gA N L s.heap.size) (yW cy L F b y) H ∧ va_S (gA N L s.heap.size) s.heap H locs ∧ lv_has ls 3 [(1, .int (y_pads y k)), (2, .int (nI k)), (0, .ref (L b))]) (fun k => 4 - k) 0 ⟨by omega, hG.to (rfl), hS, lv_to (lv_sub hl [1, 0, 2] rfl) (rfl)⟩ ?_
  intro k H locs ls hP9 ih4
  obtain ⟨hk9, hG, hS, hl⟩ := hP9
  refine lv_iload_n hx hb dX3_padsOn_4 rfl (lv_at hl 1 rfl) ?_
  refine lv_iconst (v := 4) hx hb dX3_padsOn_5 (by decide) ?_
  refine lv_icmp_ge (tgt := 27) hx hb dX3_padsOn_6 (by decide) (fun c_6 => ?_) (fun c_6 => ?_)
  · skip
    have c_6 : 4 ≤ k := (nI_leI (a := 4) (b := k) (by omega) (by omega)).mp c_6
    refine lv_iload_n hx hb dX3_padsOn_27 rfl (lv_at hl 0 rfl) ?_
    exact g_iret hx hb hr hlocks hK hG hS rfl dX3_padsOn_28 ⟨(congrArg (fun z9 => some (Value.int z9)) (by rw [show k = 4 by omega])), rfl⟩
  · skip
    have c_6 : ¬ 4 ≤ k := fun h9 => c_6 ((nI_leI (a := 4) (b := k) (by omega) (by omega)).mpr h9)
    refine lv_iload_n hx hb dX3_padsOn_9 rfl (lv_at hl 0 rfl) ?_
    refine lv_aload_n hx hb dX3_padsOn_10 rfl (lv_at hl 2 rfl) ?_
    refine g_get (ci := 3) (C := RX3) (T := TX3) (M := 9) hx hb hts hinX3 hown hK hG (by omega) yW_o rfl 0 (by decide) hf11 rfl rfl dX3_padsOn_11 ?_
    refine lv_iload_n hx hb dX3_padsOn_14 rfl (lv_at hl 1 rfl) ?_
    refine g_aald (j := b + 4 + 3 * k) hx hb hK hG (by omega) yW_s (t0 := 1) rfl (k := k) rfl (by omega) (by decide) rfl dX3_padsOn_15 ?_
    refine g_get (ci := 1) (C := RX1) (T := TX1) (M := 6) hx hb hts hinX1 hown hK hG (by omega) (yW_so (by omega)) rfl 3 (by decide) hf70 rfl rfl dX3_padsOn_16 ?_
    refine lv_iadd hx hb dX3_padsOn_19 ?_
    refine lv_istore_n (lv' := [(1, .int ((y_pads y k) + (sP ((yS y) k)))), (2, .int (nI k)), (0, .ref (L b))]) hx hb dX3_padsOn_20 rfl hl (by decide) rfl (fun ls hl => ?_)
    refine lv_iinc (v := nI (k + 1)) (lv' := [(2, .int (nI (k + 1))), (1, .int ((y_pads y k) + (sP ((yS y) k)))), (0, .ref (L b))]) hx hb dX3_padsOn_21 hl (k := 1) rfl (nI_add k 1) (by decide) rfl (fun ls hl => ?_)
    refine lv_goto (tgt := 4) hx hb dX3_padsOn_24 (by decide) ?_
    have hl : lv_has ls 3 [(1, .int ((y_pads y k) + (sP ((yS y) k)))), (2, .int (nI (k + 1))), (0, .ref (L b))] := lv_sub hl [1, 0, 2] rfl
    exact ih4 (k + 1) _ _ _ (by omega) ⟨by omega, hG.to (rfl), hS, lv_to hl (rfl)⟩
set_option maxHeartbeats 4000000 in
set_option maxRecDepth 100000 in
theorem k_X3_arches (l : Launch) (D : va_G) (cy : Nat → ClassId) (N : Nat) (L : Nat → Nat) (F : Nat → va_E) (b : Nat) (y : YT) (hb : b + 22 ≤ N)    : GM l D cy N L yX3_arches wsX3_arches ({ frames := 0, cells := 0, slots := 0, locals := 0 }) [.ref (L b)] (yW cy L F b y) (some (.int (y_arches y 4))) (yW cy L F b y) := by
  refine GM.ofW (cc := cX3_arches) (maxL := 3) (ret := (some .int)) (by decide) rfl (Nat.le_of_ble_eq_true rfl) ?_
  intro p e s m below meth c ls hx hb hr hts hown hlocks hml hK hA hG hS hl
  have hl : lv_has ls 3 [(0, .ref (L b))] := hl
  have hf11 := hts (.fieldLink RX3 11 "SiloPads$Yard" "silos" "[LSiloPads$Silo;") (by decide +kernel)
  have hinX3 : ∀ w ∈ u_ws RX3 TX3 9, w ∈ wsX3_arches := by decide +kernel
  have hf73 := hts (.fieldLink RX3 73 "SiloPads$Silo" "arch" "I") (by decide +kernel)
  have hinX1 : ∀ w ∈ u_ws RX1 TX1 6, w ∈ wsX3_arches := by decide +kernel
  refine lv_iconst (v := 0) hx hb dX3_arches_0 (by decide) ?_
  refine lv_istore_n (lv' := [(1, .int 0), (0, .ref (L b))]) hx hb dX3_arches_1 rfl hl (by decide) rfl (fun ls hl => ?_)
  refine lv_iconst (v := 0) hx hb dX3_arches_2 (by decide) ?_
  refine lv_istore_n (lv' := [(2, .int 0), (1, .int 0), (0, .ref (L b))]) hx hb dX3_arches_3 rfl hl (by decide) rfl (fun ls hl => ?_)
  refine W.loop (σ := Nat) (fun k H locs ls => (k ≤ 4) ∧ GW D N L (gA N L s.heap.size) (yW cy L F b y) H ∧ va_S (gA N L s.heap.size) s.heap H locs ∧ lv_has ls 3 [(1, .int (y_arches y k)), (2, .int (nI k)), (0, .ref (L b))]) (fun k => 4 - k) 0 ⟨by omega, hG.to (rfl), hS, lv_to (lv_sub hl [1, 0, 2] rfl) (rfl)⟩ ?_
  intro k H locs ls hP9 ih4
  obtain ⟨hk9, hG, hS, hl⟩ := hP9
  refine lv_iload_n hx hb dX3_arches_4 rfl (lv_at hl 1 rfl) ?_
  refine lv_iconst (v := 4) hx hb dX3_arches_5 (by decide) ?_
  refine lv_icmp_ge (tgt := 35) hx hb dX3_arches_6 (by decide) (fun c_6 => ?_) (fun c_6 => ?_)
  · skip
    have c_6 : 4 ≤ k := (nI_leI (a := 4) (b := k) (by omega) (by omega)).mp c_6
    refine lv_iload_n hx hb dX3_arches_35 rfl (lv_at hl 0 rfl) ?_
    exact g_iret hx hb hr hlocks hK hG hS rfl dX3_arches_36 ⟨(congrArg (fun z9 => some (Value.int z9)) (by rw [show k = 4 by omega])), rfl⟩
  · skip
    have c_6 : ¬ 4 ≤ k := fun h9 => c_6 ((nI_leI (a := 4) (b := k) (by omega) (by omega)).mpr h9)
    refine lv_iload_n hx hb dX3_arches_9 rfl (lv_at hl 0 rfl) ?_
    refine lv_aload_n hx hb dX3_arches_10 rfl (lv_at hl 2 rfl) ?_
    refine g_get (ci := 3) (C := RX3) (T := TX3) (M := 9) hx hb hts hinX3 hown hK hG (by omega) yW_o rfl 0 (by decide) hf11 rfl rfl dX3_arches_11 ?_
    refine lv_iload_n hx hb dX3_arches_14 rfl (lv_at hl 1 rfl) ?_
    refine g_aald (j := b + 4 + 3 * k) hx hb hK hG (by omega) yW_s (t0 := 1) rfl (k := k) rfl (by omega) (by decide) rfl dX3_arches_15 ?_
    refine g_get (ci := 1) (C := RX1) (T := TX1) (M := 6) hx hb hts hinX1 hown hK hG (by omega) (yW_so (by omega)) rfl 4 (by decide) hf73 rfl rfl dX3_arches_16 ?_
    refine lv_if_ne (tgt := 26) hx hb dX3_arches_19 (by decide) (fun c_19 => ?_) (fun c_19 => ?_)
    · skip
      refine lv_iconst (v := 1) hx hb dX3_arches_26 (by decide) ?_
      refine lv_iadd hx hb dX3_arches_27 ?_
      refine lv_istore_n (lv' := [(1, .int ((y_arches y k) + 1)), (2, .int (nI k)), (0, .ref (L b))]) hx hb dX3_arches_28 rfl hl (by decide) rfl (fun ls hl => ?_)
      refine lv_iinc (v := nI (k + 1)) (lv' := [(2, .int (nI (k + 1))), (1, .int ((y_arches y k) + 1)), (0, .ref (L b))]) hx hb dX3_arches_29 hl (k := 1) rfl (nI_add k 1) (by decide) rfl (fun ls hl => ?_)
      refine lv_goto (tgt := 4) hx hb dX3_arches_32 (by decide) ?_
      have hl : lv_has ls 3 [(1, .int ((y_arches y k) + 1)), (2, .int (nI (k + 1))), (0, .ref (L b))] := lv_sub hl [1, 0, 2] rfl
      exact ih4 (k + 1) _ _ _ (by omega) ⟨by omega, hG.to (rfl), hS, lv_to hl (by simp only [y_arches, c_6, c_19, if_true, if_false])⟩
    · skip
      refine lv_iconst (v := 0) hx hb dX3_arches_22 (by decide) ?_
      refine lv_goto (tgt := 27) hx hb dX3_arches_23 (by decide) ?_
      refine lv_iadd hx hb dX3_arches_27 ?_
      refine lv_istore_n (lv' := [(1, .int ((y_arches y k) + 0)), (2, .int (nI k)), (0, .ref (L b))]) hx hb dX3_arches_28 rfl hl (by decide) rfl (fun ls hl => ?_)
      refine lv_iinc (v := nI (k + 1)) (lv' := [(2, .int (nI (k + 1))), (1, .int ((y_arches y k) + 0)), (0, .ref (L b))]) hx hb dX3_arches_29 hl (k := 1) rfl (nI_add k 1) (by decide) rfl (fun ls hl => ?_)
      refine lv_goto (tgt := 4) hx hb dX3_arches_32 (by decide) ?_
      have hl : lv_has ls 3 [(1, .int ((y_arches y k) + 0)), (2, .int (nI (k + 1))), (0, .ref (L b))] := lv_sub hl [1, 0, 2] rfl
      exact ih4 (k + 1) _ _ _ (by omega) ⟨by omega, hG.to (rfl), hS, lv_to hl (by simp only [y_arches, c_6, eq_true c_19, if_true, if_false])⟩
set_option maxHeartbeats 4000000 in
set_option maxRecDepth 100000 in
theorem k_X3_becomeLike (l : Launch) (D : va_G) (cy : Nat → ClassId) (N : Nat) (L : Nat → Nat) (F : Nat → va_E) (b2 : Nat) (y2 : YT) (b : Nat) (y : YT) (hb : b + 22 ≤ N) (hb2 : b2 + 22 ≤ N) (hd : b2 + 22 ≤ b ∨ b + 22 ≤ b2)    : GM l D cy N L yX3_becomeLike wsX3_becomeLike ({ frames := 1, cells := 0, slots := 0, locals := 22 }) [.ref (L b), .ref (L b2)] (yW cy L (yW cy L F b2 y2) b y) (none) (yW cy L (yW cy L F b2 y2) b (y_like y y2)) := by
  refine GM.ofW (cc := cX3_becomeLike) (maxL := 3) (ret := none) (by decide) rfl (Nat.le_of_ble_eq_true rfl) ?_
  intro p e s m below meth c ls hx hb hr hts hown hlocks hml hK hA hG hS hl
  have hl : lv_has ls 3 [(0, .ref (L b)), (1, .ref (L b2))] := hl
  have hf32 := hts (.fieldLink RX3 32 "SiloPads$Yard" "settings" "[I") (by decide +kernel)
  have hinX3 : ∀ w ∈ u_ws RX3 TX3 9, w ∈ wsX3_becomeLike := by decide +kernel
  have hf35 := hts (.fieldLink RX3 35 "SiloPads$Yard" "days" "I") (by decide +kernel)
  have hf39 := hts (.fieldLink RX3 39 "SiloPads$Yard" "dust" "I") (by decide +kernel)
  have hf42 := hts (.fieldLink RX3 42 "SiloPads$Yard" "brought" "I") (by decide +kernel)
  have hf45 := hts (.fieldLink RX3 45 "SiloPads$Yard" "gone" "I") (by decide +kernel)
  have hf48 := hts (.fieldLink RX3 48 "SiloPads$Yard" "shakes" "I") (by decide +kernel)
  have hf51 := hts (.fieldLink RX3 51 "SiloPads$Yard" "formed" "I") (by decide +kernel)
  have hf19 := hts (.fieldLink RX3 19 "SiloPads$Yard" "ships" "[LSiloPads$Ship;") (by decide +kernel)
  have hf11 := hts (.fieldLink RX3 11 "SiloPads$Yard" "silos" "[LSiloPads$Silo;") (by decide +kernel)
  refine lv_iconst (v := 0) hx hb dX3_becomeLike_0 (by decide) ?_
  refine lv_istore_n (lv' := [(2, .int 0), (0, .ref (L b)), (1, .ref (L b2))]) hx hb dX3_becomeLike_1 rfl hl (by decide) rfl (fun ls hl => ?_)
  refine W.loop (σ := Nat) (fun k H locs ls => (k ≤ 4) ∧ GW D N L (gA N L s.heap.size) (yW cy L (yW cy L F b2 y2) b (y_lS y y2 k)) H ∧ va_S (gA N L s.heap.size) s.heap H locs ∧ lv_has ls 3 [(2, .int (nI k)), (0, .ref (L b)), (1, .ref (L b2))]) (fun k => 4 - k) 0 ⟨by omega, hG.to (rfl), hS, lv_to (lv_sub hl [0, 1, 2] rfl) (rfl)⟩ ?_
  intro k H locs ls hP9 ih2
  obtain ⟨hk9, hG, hS, hl⟩ := hP9
  refine lv_iload_n hx hb dX3_becomeLike_2 rfl (lv_at hl 0 rfl) ?_
  refine lv_iconst (v := 4) hx hb dX3_becomeLike_3 (by decide) ?_
  refine lv_icmp_ge (tgt := 28) hx hb dX3_becomeLike_4 (by decide) (fun c_4 => ?_) (fun c_4 => ?_)
  · skip
    have c_4 : 4 ≤ k := (nI_leI (a := 4) (b := k) (by omega) (by omega)).mp c_4
    refine lv_iconst (v := 0) hx hb dX3_becomeLike_28 (by decide) ?_
    refine lv_istore_n (lv' := [(2, .int 0), (0, .ref (L b)), (1, .ref (L b2))]) hx hb dX3_becomeLike_29 rfl hl (by decide) rfl (fun ls hl => ?_)
    refine W.loop (σ := Nat) (fun k H locs ls => (k ≤ 6) ∧ GW D N L (gA N L s.heap.size) (yW cy L (yW cy L F b2 y2) b (y_lH (y_lS y y2 4) y2 k)) H ∧ va_S (gA N L s.heap.size) s.heap H locs ∧ lv_has ls 3 [(2, .int (nI k)), (0, .ref (L b)), (1, .ref (L b2))]) (fun k => 6 - k) 0 ⟨by omega, hG.to (by rw [show k = 4 by omega]; rfl), hS, lv_to (lv_sub hl [0, 1, 2] rfl) (rfl)⟩ ?_
    intro k H locs ls hP9 ih30
    obtain ⟨hk9, hG, hS, hl⟩ := hP9
    refine lv_iload_n hx hb dX3_becomeLike_30 rfl (lv_at hl 0 rfl) ?_
    refine lv_bipush (v := 6) hx hb dX3_becomeLike_31 (by decide) ?_
    refine lv_icmp_ge (tgt := 57) hx hb dX3_becomeLike_33 (by decide) (fun c_33 => ?_) (fun c_33 => ?_)
    · skip
      have c_33 : 6 ≤ k := (nI_leI (a := 6) (b := k) (by omega) (by omega)).mp c_33
      refine lv_iconst (v := 0) hx hb dX3_becomeLike_57 (by decide) ?_
      refine lv_istore_n (lv' := [(2, .int 0), (0, .ref (L b)), (1, .ref (L b2))]) hx hb dX3_becomeLike_58 rfl hl (by decide) rfl (fun ls hl => ?_)
      refine W.loop (σ := Nat) (fun k H locs ls => (k ≤ 4) ∧ GW D N L (gA N L s.heap.size) (yW cy L (yW cy L F b2 y2) b (y_lZ (y_lH (y_lS y y2 4) y2 6) y2 k)) H ∧ va_S (gA N L s.heap.size) s.heap H locs ∧ lv_has ls 3 [(2, .int (nI k)), (0, .ref (L b)), (1, .ref (L b2))]) (fun k => 4 - k) 0 ⟨by omega, hG.to (by rw [show k = 6 by omega, y_lZ_0]), hS, lv_to (lv_sub hl [0, 1, 2] rfl) (rfl)⟩ ?_
      intro k H locs ls hP9 ih59
      obtain ⟨hk9, hG, hS, hl⟩ := hP9
      refine lv_iload_n hx hb dX3_becomeLike_59 rfl (lv_at hl 0 rfl) ?_
      refine lv_aload_n hx hb dX3_becomeLike_60 rfl (lv_at hl 1 rfl) ?_
      refine g_get (ci := 3) (C := RX3) (T := TX3) (M := 9) hx hb hts hinX3 hown hK hG (by omega) yW_o rfl 2 (by decide) hf32 rfl rfl dX3_becomeLike_61 ?_
      refine g_alen (t0 := 0) (v := nI 4) hx hb hK hG (by omega) yW_z rfl rfl dX3_becomeLike_64 ?_
      refine lv_icmp_ge (tgt := 95) hx hb dX3_becomeLike_65 (by decide) (fun c_65 => ?_) (fun c_65 => ?_)
      · skip
        have c_65 : 4 ≤ k := (nI_leI (a := 4) (b := k) (by omega) (by omega)).mp c_65
        refine lv_aload_n hx hb dX3_becomeLike_95 rfl (lv_at hl 1 rfl) ?_
        refine lv_aload_n hx hb dX3_becomeLike_96 rfl (lv_at hl 2 rfl) ?_
        refine g_get (ci := 3) (C := RX3) (T := TX3) (M := 9) hx hb hts hinX3 hown hK hG (by omega) (by rw [yW_n (by omega)]; exact yW_o) rfl 3 (by decide) hf35 rfl rfl dX3_becomeLike_97 ?_
        refine g_put (ci := 3) (C := RX3) (T := TX3) (M := 9) (ty := .int) hx hb hts hinX3 tyX3 tyX3_ok nmX3 hown hK hG hS (by omega) yW_o rfl 3 (by decide) hf35 rfl rfl rfl rfl rfl (Nat.le_of_ble_eq_true rfl) dX3_becomeLike_100 rfl (fun H locs hG hS => ?_)
        have hG : GW D N L (gA N L s.heap.size) (yW cy L (yW cy L F b2 y2) b (yS (y_lZ (y_lH (y_lS y y2 4) y2 6) y2 k), yH (y_lZ (y_lH (y_lS y y2 4) y2 6) y2 k), yZ (y_lZ (y_lH (y_lS y y2 4) y2 6) y2 k), upd (yC (y_lZ (y_lH (y_lS y y2 4) y2 6) y2 k)) 0 ((yC y2) 0))) H := hG.to yW_u0
        refine lv_aload_n hx hb dX3_becomeLike_103 rfl (lv_at hl 1 rfl) ?_
        refine lv_aload_n hx hb dX3_becomeLike_104 rfl (lv_at hl 2 rfl) ?_
        refine g_get (ci := 3) (C := RX3) (T := TX3) (M := 9) hx hb hts hinX3 hown hK hG (by omega) (by rw [yW_n (by omega)]; exact yW_o) rfl 4 (by decide) hf39 rfl rfl dX3_becomeLike_105 ?_
        refine g_put (ci := 3) (C := RX3) (T := TX3) (M := 9) (ty := .int) hx hb hts hinX3 tyX3 tyX3_ok nmX3 hown hK hG hS (by omega) yW_o rfl 4 (by decide) hf39 rfl rfl rfl rfl rfl (Nat.le_of_ble_eq_true rfl) dX3_becomeLike_108 rfl (fun H locs hG hS => ?_)
        have hG : GW D N L (gA N L s.heap.size) (yW cy L (yW cy L F b2 y2) b (yS (y_lZ (y_lH (y_lS y y2 4) y2 6) y2 k), yH (y_lZ (y_lH (y_lS y y2 4) y2 6) y2 k), yZ (y_lZ (y_lH (y_lS y y2 4) y2 6) y2 k), upd (upd (yC (y_lZ (y_lH (y_lS y y2 4) y2 6) y2 k)) 0 ((yC y2) 0)) 1 ((yC y2) 1))) H := hG.to yW_u1
        refine lv_aload_n hx hb dX3_becomeLike_111 rfl (lv_at hl 1 rfl) ?_
        refine lv_aload_n hx hb dX3_becomeLike_112 rfl (lv_at hl 2 rfl) ?_
        refine g_get (ci := 3) (C := RX3) (T := TX3) (M := 9) hx hb hts hinX3 hown hK hG (by omega) (by rw [yW_n (by omega)]; exact yW_o) rfl 5 (by decide) hf42 rfl rfl dX3_becomeLike_113 ?_
        refine g_put (ci := 3) (C := RX3) (T := TX3) (M := 9) (ty := .int) hx hb hts hinX3 tyX3 tyX3_ok nmX3 hown hK hG hS (by omega) yW_o rfl 5 (by decide) hf42 rfl rfl rfl rfl rfl (Nat.le_of_ble_eq_true rfl) dX3_becomeLike_116 rfl (fun H locs hG hS => ?_)
        have hG : GW D N L (gA N L s.heap.size) (yW cy L (yW cy L F b2 y2) b (yS (y_lZ (y_lH (y_lS y y2 4) y2 6) y2 k), yH (y_lZ (y_lH (y_lS y y2 4) y2 6) y2 k), yZ (y_lZ (y_lH (y_lS y y2 4) y2 6) y2 k), upd (upd (upd (yC (y_lZ (y_lH (y_lS y y2 4) y2 6) y2 k)) 0 ((yC y2) 0)) 1 ((yC y2) 1)) 2 ((yC y2) 2))) H := hG.to yW_u2
        refine lv_aload_n hx hb dX3_becomeLike_119 rfl (lv_at hl 1 rfl) ?_
        refine lv_aload_n hx hb dX3_becomeLike_120 rfl (lv_at hl 2 rfl) ?_
        refine g_get (ci := 3) (C := RX3) (T := TX3) (M := 9) hx hb hts hinX3 hown hK hG (by omega) (by rw [yW_n (by omega)]; exact yW_o) rfl 6 (by decide) hf45 rfl rfl dX3_becomeLike_121 ?_
        refine g_put (ci := 3) (C := RX3) (T := TX3) (M := 9) (ty := .int) hx hb hts hinX3 tyX3 tyX3_ok nmX3 hown hK hG hS (by omega) yW_o rfl 6 (by decide) hf45 rfl rfl rfl rfl rfl (Nat.le_of_ble_eq_true rfl) dX3_becomeLike_124 rfl (fun H locs hG hS => ?_)
        have hG : GW D N L (gA N L s.heap.size) (yW cy L (yW cy L F b2 y2) b (yS (y_lZ (y_lH (y_lS y y2 4) y2 6) y2 k), yH (y_lZ (y_lH (y_lS y y2 4) y2 6) y2 k), yZ (y_lZ (y_lH (y_lS y y2 4) y2 6) y2 k), upd (upd (upd (upd (yC (y_lZ (y_lH (y_lS y y2 4) y2 6) y2 k)) 0 ((yC y2) 0)) 1 ((yC y2) 1)) 2 ((yC y2) 2)) 3 ((yC y2) 3))) H := hG.to yW_u3
        refine lv_aload_n hx hb dX3_becomeLike_127 rfl (lv_at hl 1 rfl) ?_
        refine lv_aload_n hx hb dX3_becomeLike_128 rfl (lv_at hl 2 rfl) ?_
        refine g_get (ci := 3) (C := RX3) (T := TX3) (M := 9) hx hb hts hinX3 hown hK hG (by omega) (by rw [yW_n (by omega)]; exact yW_o) rfl 7 (by decide) hf48 rfl rfl dX3_becomeLike_129 ?_
        refine g_put (ci := 3) (C := RX3) (T := TX3) (M := 9) (ty := .int) hx hb hts hinX3 tyX3 tyX3_ok nmX3 hown hK hG hS (by omega) yW_o rfl 7 (by decide) hf48 rfl rfl rfl rfl rfl (Nat.le_of_ble_eq_true rfl) dX3_becomeLike_132 rfl (fun H locs hG hS => ?_)
        have hG : GW D N L (gA N L s.heap.size) (yW cy L (yW cy L F b2 y2) b (yS (y_lZ (y_lH (y_lS y y2 4) y2 6) y2 k), yH (y_lZ (y_lH (y_lS y y2 4) y2 6) y2 k), yZ (y_lZ (y_lH (y_lS y y2 4) y2 6) y2 k), upd (upd (upd (upd (upd (yC (y_lZ (y_lH (y_lS y y2 4) y2 6) y2 k)) 0 ((yC y2) 0)) 1 ((yC y2) 1)) 2 ((yC y2) 2)) 3 ((yC y2) 3)) 4 ((yC y2) 4))) H := hG.to yW_u4
        refine lv_aload_n hx hb dX3_becomeLike_135 rfl (lv_at hl 1 rfl) ?_
        refine lv_aload_n hx hb dX3_becomeLike_136 rfl (lv_at hl 2 rfl) ?_
        refine g_get (ci := 3) (C := RX3) (T := TX3) (M := 9) hx hb hts hinX3 hown hK hG (by omega) (by rw [yW_n (by omega)]; exact yW_o) rfl 8 (by decide) hf51 rfl rfl dX3_becomeLike_137 ?_
        refine g_put (ci := 3) (C := RX3) (T := TX3) (M := 9) (ty := .int) hx hb hts hinX3 tyX3 tyX3_ok nmX3 hown hK hG hS (by omega) yW_o rfl 8 (by decide) hf51 rfl rfl rfl rfl rfl (Nat.le_of_ble_eq_true rfl) dX3_becomeLike_140 rfl (fun H locs hG hS => ?_)
        have hG : GW D N L (gA N L s.heap.size) (yW cy L (yW cy L F b2 y2) b (yS (y_lZ (y_lH (y_lS y y2 4) y2 6) y2 k), yH (y_lZ (y_lH (y_lS y y2 4) y2 6) y2 k), yZ (y_lZ (y_lH (y_lS y y2 4) y2 6) y2 k), upd (upd (upd (upd (upd (upd (yC (y_lZ (y_lH (y_lS y y2 4) y2 6) y2 k)) 0 ((yC y2) 0)) 1 ((yC y2) 1)) 2 ((yC y2) 2)) 3 ((yC y2) 3)) 4 ((yC y2) 4)) 5 ((yC y2) 5))) H := hG.to yW_u5
        exact g_vret hx hb hr hlocks hK hG hS dX3_becomeLike_143 ⟨rfl, (by rw [show k = 4 by omega]; rfl)⟩
      · skip
        have c_65 : ¬ 4 ≤ k := fun h9 => c_65 ((nI_leI (a := 4) (b := k) (by omega) (by omega)).mpr h9)
        refine lv_iload_n hx hb dX3_becomeLike_68 rfl (lv_at hl 0 rfl) ?_
        refine lv_aload_n hx hb dX3_becomeLike_69 rfl (lv_at hl 2 rfl) ?_
        refine g_get (ci := 3) (C := RX3) (T := TX3) (M := 9) hx hb hts hinX3 hown hK hG (by omega) (by rw [yW_n (by omega)]; exact yW_o) rfl 2 (by decide) hf32 rfl rfl dX3_becomeLike_70 ?_
        refine g_alen (t0 := 0) (v := nI 4) hx hb hK hG (by omega) (by rw [yW_n (by omega)]; exact yW_z) rfl rfl dX3_becomeLike_73 ?_
        refine lv_icmp_ge (tgt := 95) hx hb dX3_becomeLike_74 (by decide) (fun c_74 => ?_) (fun c_74 => ?_)
        · skip
          exact absurd c_74 (nI_ge (by omega) (by omega))
        · skip
          have c_74 : ¬ 4 ≤ k := fun h9 => c_74 ((nI_leI (a := 4) (b := k) (by omega) (by omega)).mpr h9)
          refine lv_aload_n hx hb dX3_becomeLike_77 rfl (lv_at hl 1 rfl) ?_
          refine g_get (ci := 3) (C := RX3) (T := TX3) (M := 9) hx hb hts hinX3 hown hK hG (by omega) yW_o rfl 2 (by decide) hf32 rfl rfl dX3_becomeLike_78 ?_
          refine lv_iload_n hx hb dX3_becomeLike_81 rfl (lv_at hl 0 rfl) ?_
          refine lv_aload_n hx hb dX3_becomeLike_82 rfl (lv_at hl 2 rfl) ?_
          refine g_get (ci := 3) (C := RX3) (T := TX3) (M := 9) hx hb hts hinX3 hown hK hG (by omega) (by rw [yW_n (by omega)]; exact yW_o) rfl 2 (by decide) hf32 rfl rfl dX3_becomeLike_83 ?_
          refine lv_iload_n hx hb dX3_becomeLike_86 rfl (lv_at hl 0 rfl) ?_
          refine g_iald hx hb hK hG (by omega) (by rw [yW_n (by omega)]; exact yW_z) (k := k) rfl (by omega) (by decide) dX3_becomeLike_87 ?_
          refine g_iast hx hb hK hG hS (by omega) yW_z (k := k) rfl (by omega) (by decide) dX3_becomeLike_88 (fun H locs hG hS => ?_)
          have hG : GW D N L (gA N L s.heap.size) (yW cy L (yW cy L F b2 y2) b (yS (y_lZ (y_lH (y_lS y y2 4) y2 6) y2 k), yH (y_lZ (y_lH (y_lS y y2 4) y2 6) y2 k), upd (yZ (y_lZ (y_lH (y_lS y y2 4) y2 6) y2 k)) k ((yZ y2) k), yC (y_lZ (y_lH (y_lS y y2 4) y2 6) y2 k))) H := hG.to yW_uz
          refine lv_iinc (v := nI (k + 1)) (lv' := [(2, .int (nI (k + 1))), (0, .ref (L b)), (1, .ref (L b2))]) hx hb dX3_becomeLike_89 hl (k := 0) rfl (nI_add k 1) (by decide) rfl (fun ls hl => ?_)
          refine lv_goto (tgt := 59) hx hb dX3_becomeLike_92 (by decide) ?_
          have hl : lv_has ls 3 [(2, .int (nI (k + 1))), (0, .ref (L b)), (1, .ref (L b2))] := lv_sub hl [0, 1, 2] rfl
          exact ih59 (k + 1) _ _ _ (by omega) ⟨by omega, hG.to (by rw [← y_lZ_s]; rfl), hS, lv_to hl (rfl)⟩
    · skip
      have c_33 : ¬ 6 ≤ k := fun h9 => c_33 ((nI_leI (a := 6) (b := k) (by omega) (by omega)).mpr h9)
      refine lv_aload_n hx hb dX3_becomeLike_36 rfl (lv_at hl 1 rfl) ?_
      refine g_get (ci := 3) (C := RX3) (T := TX3) (M := 9) hx hb hts hinX3 hown hK hG (by omega) yW_o rfl 1 (by decide) hf19 rfl rfl dX3_becomeLike_37 ?_
      refine lv_iload_n hx hb dX3_becomeLike_40 rfl (lv_at hl 0 rfl) ?_
      refine g_aald (j := b + 16 + k) hx hb hK hG (by omega) yW_h (t0 := 2) rfl (k := k) rfl (by omega) (by decide) rfl dX3_becomeLike_41 ?_
      refine lv_aload_n hx hb dX3_becomeLike_42 rfl (lv_at hl 2 rfl) ?_
      refine g_get (ci := 3) (C := RX3) (T := TX3) (M := 9) hx hb hts hinX3 hown hK hG (by omega) (by rw [yW_n (by omega)]; exact yW_o) rfl 1 (by decide) hf19 rfl rfl dX3_becomeLike_43 ?_
      refine lv_iload_n hx hb dX3_becomeLike_46 rfl (lv_at hl 0 rfl) ?_
      refine g_aald (j := b2 + 16 + k) hx hb hK hG (by omega) (by rw [yW_n (by omega)]; exact yW_h) (t0 := 2) rfl (k := k) rfl (by omega) (by decide) rfl dX3_becomeLike_47 ?_
      have hG : GW D N L (gA N L s.heap.size) (hW (hW (yW cy L (yW cy L F b2 y2) b (y_lH (y_lS y y2 4) y2 k)) (b2 + 16 + k) ((yH y2) k)) (b + 16 + k) ((yH (y_lH (y_lS y y2 4) y2 k)) k)) H := hG.to (by rw [yy_H0 (by omega) (j := k) (by omega), yW_H0 (j := k) (by omega)])
      refine g_cVv (As := [.ref (L (b2 + 16 + k))]) (rest := []) hx hb hml hown hts hK hA hG hS (k_X0_becomeLike l D cy N L _ _ _ _ _ (by omega) (by omega) (by omega)  ) (cwV 1 hts gX3_becomeLike_X0_becomeLike rfl rfl rfl (by decide +kernel) ⟨Nat.le_of_ble_eq_true rfl, Nat.le_of_ble_eq_true rfl⟩) (by omega) hW_o (ci := 0) rfl rfl rfl rfl hl.1 (Nat.le_of_ble_eq_true rfl) dX3_becomeLike_48 ⟨Nat.zero_le _, Nat.zero_le _⟩ (fun H locs hG hS => ?_)
      have hG : GW D N L (gA N L s.heap.size) (yW cy L (yW cy L F b2 y2) b (ySetH (y_lH (y_lS y y2 4) y2 k) k (hT ((yH y2) k), hH ((yH y2) k)))) H := hG.to (by rw [yy_H0 (by omega) (j := k) (by omega), yW_H (j := k) (by omega)] <;> rfl)
      refine lv_iinc (v := nI (k + 1)) (lv' := [(2, .int (nI (k + 1))), (0, .ref (L b)), (1, .ref (L b2))]) hx hb dX3_becomeLike_51 hl (k := 0) rfl (nI_add k 1) (by decide) rfl (fun ls hl => ?_)
      refine lv_goto (tgt := 30) hx hb dX3_becomeLike_54 (by decide) ?_
      have hl : lv_has ls 3 [(2, .int (nI (k + 1))), (0, .ref (L b)), (1, .ref (L b2))] := lv_sub hl [0, 1, 2] rfl
      exact ih30 (k + 1) _ _ _ (by omega) ⟨by omega, hG.to (rfl), hS, lv_to hl (rfl)⟩
  · skip
    have c_4 : ¬ 4 ≤ k := fun h9 => c_4 ((nI_leI (a := 4) (b := k) (by omega) (by omega)).mpr h9)
    refine lv_aload_n hx hb dX3_becomeLike_7 rfl (lv_at hl 1 rfl) ?_
    refine g_get (ci := 3) (C := RX3) (T := TX3) (M := 9) hx hb hts hinX3 hown hK hG (by omega) yW_o rfl 0 (by decide) hf11 rfl rfl dX3_becomeLike_8 ?_
    refine lv_iload_n hx hb dX3_becomeLike_11 rfl (lv_at hl 0 rfl) ?_
    refine g_aald (j := b + 4 + 3 * k) hx hb hK hG (by omega) yW_s (t0 := 1) rfl (k := k) rfl (by omega) (by decide) rfl dX3_becomeLike_12 ?_
    refine lv_aload_n hx hb dX3_becomeLike_13 rfl (lv_at hl 2 rfl) ?_
    refine g_get (ci := 3) (C := RX3) (T := TX3) (M := 9) hx hb hts hinX3 hown hK hG (by omega) (by rw [yW_n (by omega)]; exact yW_o) rfl 0 (by decide) hf11 rfl rfl dX3_becomeLike_14 ?_
    refine lv_iload_n hx hb dX3_becomeLike_17 rfl (lv_at hl 0 rfl) ?_
    refine g_aald (j := b2 + 4 + 3 * k) hx hb hK hG (by omega) (by rw [yW_n (by omega)]; exact yW_s) (t0 := 1) rfl (k := k) rfl (by omega) (by decide) rfl dX3_becomeLike_18 ?_
    have hG : GW D N L (gA N L s.heap.size) (sW cy L (sW cy L (yW cy L (yW cy L F b2 y2) b (y_lS y y2 k)) (b2 + 4 + 3 * k) ((yS y2) k)) (b + 4 + 3 * k) ((yS (y_lS y y2 k)) k)) H := hG.to (by rw [yy_S0 (by omega) (k := k) (by omega), yW_S0 (k := k) (by omega)])
    refine g_cVv (As := [.ref (L (b2 + 4 + 3 * k))]) (rest := []) hx hb hml hown hts hK hA hG hS (k_X1_becomeLike l D cy N L _ _ _ _ _ (by omega) (by omega) (by omega)  ) (cwV 1 hts gX3_becomeLike_X1_becomeLike rfl rfl rfl (by decide +kernel) ⟨Nat.le_of_ble_eq_true rfl, Nat.le_of_ble_eq_true rfl⟩) (by omega) sW_o (ci := 1) rfl rfl rfl rfl hl.1 (Nat.le_of_ble_eq_true rfl) dX3_becomeLike_19 ⟨Nat.zero_le _, Nat.zero_le _⟩ (fun H locs hG hS => ?_)
    have hG : GW D N L (gA N L s.heap.size) (yW cy L (yW cy L F b2 y2) b (ySetS (y_lS y y2 k) k (cpN (sT ((yS (y_lS y y2 k)) k)) (sT ((yS y2) k)) (0) (0) 10, cpN (sA ((yS (y_lS y y2 k)) k)) (sA ((yS y2) k)) (0) (0) 10, sN ((yS y2) k), sP ((yS y2) k), sC ((yS y2) k), sK ((yS y2) k)))) H := hG.to (by rw [yy_S0 (by omega) (k := k) (by omega), yW_S (k := k) (by omega)] <;> rfl)
    refine lv_iinc (v := nI (k + 1)) (lv' := [(2, .int (nI (k + 1))), (0, .ref (L b)), (1, .ref (L b2))]) hx hb dX3_becomeLike_22 hl (k := 0) rfl (nI_add k 1) (by decide) rfl (fun ls hl => ?_)
    refine lv_goto (tgt := 2) hx hb dX3_becomeLike_25 (by decide) ?_
    have hl : lv_has ls 3 [(2, .int (nI (k + 1))), (0, .ref (L b)), (1, .ref (L b2))] := lv_sub hl [0, 1, 2] rfl
    exact ih2 (k + 1) _ _ _ (by omega) ⟨by omega, hG.to (rfl), hS, lv_to hl (rfl)⟩
