set_option maxHeartbeats 4000000 in
set_option maxRecDepth 100000 in
theorem k_Jxe99ae_isNaN_b9ae7 (l : Launch) (D : va_G) (cy : Nat → ClassId) (N : Nat) (L : Nat → Nat) (F : Nat → va_E) (x : UInt64) (hx9 : Op.cmpValue (FP.dcmp x x) .l = 0) : GM l D cy N L yJxe99ae_isNaN_b9ae7 wsJxe99ae_isNaN_b9ae7 ({ frames := 0, cells := 0, slots := 0, locals := 0 }) [.double x] (F) (some (.int 0)) (F) := by
  refine GM.ofW (cc := cJxe99ae_isNaN_b9ae7) (maxL := 2) (ret := (some .boolean)) (by decide) rfl (Nat.le_of_ble_eq_true rfl) ?_
  intro p e s m below meth c ls hx hb hr hts hown hlocks hml hK hA hG hS hl
  have hl : lv_has ls 2 [(0, .double x)] := hl
  refine lv_dload_n hx hb dJxe99ae_isNaN_b9ae7_0 rfl (lv_at hl 0 rfl) ?_
  refine lv_dload_n hx hb dJxe99ae_isNaN_b9ae7_1 rfl (lv_at hl 0 rfl) ?_
  refine lv_dcmp hx hb dJxe99ae_isNaN_b9ae7_2 ?_
  refine lv_toI (y := 0) (hx9) ?_
  refine lv_if_eq (tgt := 10) hx hb dJxe99ae_isNaN_b9ae7_3 (by decide) (fun c_3 => ?_) (fun c_3 => ?_)
  · skip
    refine lv_iconst (v := 0) hx hb dJxe99ae_isNaN_b9ae7_10 (by decide) ?_
    exact g_iret hx hb hr hlocks hK hG hS rfl dJxe99ae_isNaN_b9ae7_11 ⟨rfl, rfl⟩
  · skip
    exact absurd c_3 (by decide)
set_option maxHeartbeats 4000000 in
set_option maxRecDepth 100000 in
theorem k_Jxe99ae_doubleToLongBits_ccdee (l : Launch) (D : va_G) (cy : Nat → ClassId) (N : Nat) (L : Nat → Nat) (F : Nat → va_E) (x : UInt64) (hx9 : Op.cmpValue (FP.dcmp x x) .l = 0) : GM l D cy N L yJxe99ae_doubleToLongBits_ccdee wsJxe99ae_doubleToLongBits_ccdee ({ frames := 1, cells := 0, slots := 0, locals := 21 }) [.double x] (F) (some (.long x.toInt64)) (F) := by
  refine GM.ofW (cc := cJxe99ae_doubleToLongBits_ccdee) (maxL := 2) (ret := (some .long)) (by decide) rfl (Nat.le_of_ble_eq_true rfl) ?_
  intro p e s m below meth c ls hx hb hr hts hown hlocks hml hK hA hG hS hl
  have hl : lv_has ls 2 [(0, .double x)] := hl
  refine lv_dload_n hx hb dJxe99ae_doubleToLongBits_ccdee_0 rfl (lv_at hl 0 rfl) ?_
  refine g_cSi (As := [.double x]) (rest := []) hx hb hml hown hts hK hA hG hS (k_Jxe99ae_isNaN_b9ae7 l D cy N L F x (hx9)) (g_cwS 1 hts gJxe99ae_doubleToLongBits_ccdee_Jxe99ae_isNaN_b9ae7 rfl rfl rfl (by decide +kernel) ⟨Nat.le_of_ble_eq_true rfl, Nat.le_of_ble_eq_true rfl⟩) rfl rfl hl.1 (Nat.le_of_ble_eq_true rfl) dJxe99ae_doubleToLongBits_ccdee_1 ⟨Nat.zero_le _, Nat.zero_le _⟩ (fun H locs hG hS => ?_)
  refine lv_if_ne (tgt := 12) hx hb dJxe99ae_doubleToLongBits_ccdee_4 (by decide) (fun c_4 => ?_) (fun c_4 => ?_)
  · skip
    exact absurd c_4 (by decide)
  · skip
    refine lv_dload_n hx hb dJxe99ae_doubleToLongBits_ccdee_7 rfl (lv_at hl 0 rfl) ?_
    refine vn_d2l hx hb (hml.trans hl.1.symm) hown (hts (.methodLink RJxe99ae 134 ⟨"java/lang/Double", "doubleToRawLongBits", "(D)J"⟩) (by decide +kernel)) (hts (.native ⟨"java/lang/Double", "doubleToRawLongBits", "(D)J"⟩) (by decide +kernel)) (hts (.static ⟨"java/lang/Double", "doubleToRawLongBits", "(D)J"⟩) (by decide +kernel)) (hts (.initialized "java/lang/Double") (by decide +kernel)) (Nat.le_of_ble_eq_true rfl) (Nat.le_of_ble_eq_true rfl) dJxe99ae_doubleToLongBits_ccdee_8 ?_
    exact g_lret hx hb hr hlocks hK hG hS dJxe99ae_doubleToLongBits_ccdee_11 ⟨rfl, rfl⟩
set_option maxHeartbeats 4000000 in
set_option maxRecDepth 100000 in
theorem k_X5_digest (l : Launch) (D : va_G) (cy : Nat → ClassId) (N : Nat) (L : Nat → Nat) (F : Nat → va_E) (hN : 168 ≤ N) (mt : Int32) (ms ma mv : Nat → Int32) (mn : Int32) (mb : Nat → Int32) (ml mp mw : Int32) (mr : Nat → Int32) (mq : Int32) (mh : Int64) (n : Nat) (hn60 : n ≤ 60) (hw : wfM ms) (hn1 : ∀ k, k < 4 → 1 ≤ Nn ms k ∨ ms (10 + 24 * k + 1) = 2 ∨ ms (10 + 24 * k + 1) = 0) (hf : ¬ g_inSilos ms 4 = 0 → vf_n64 (FP.ddiv (FP.i2d (g_softS ms 4)) (FP.i2d (g_inSilos ms 4)))) (hx9 : Op.cmpValue (FP.dcmp (g_softD ms) (g_softD ms)) .l = 0) : GM l D cy N L yX5_digest wsX5_digest ({ frames := 8, cells := 0, slots := 0, locals := 186 }) [.ref (L 162)] (mW cy L F mt ms ma mv mn mb (nI n) mp mw mr mq mh) (some (.long (g_dB (g_d2 ms mn n) mb n))) (mW cy L F 0 ms (cpN (g_asd ma ms 4) ms (0) (0) 118) mv mn mb (nI n) mp mw mr mq (g_dB (g_d2 ms mn n) mb n)) := by
  refine GM.ofW (cc := cX5_digest) (maxL := 2) (ret := (some .long)) (by decide) rfl (Nat.le_of_ble_eq_true rfl) ?_
  intro p e s m below meth c ls hx hb hr hts hown hlocks hml hK hA hG hS hl
  have hl : lv_has ls 2 [(0, .ref (L 162))] := hl
  have i162 : 162 < N := by omega
  have i163 : 163 < N := by omega
  have i164 : 164 < N := by omega
  have i165 : 165 < N := by omega
  have i166 : 166 < N := by omega
  have i167 : 167 < N := by omega
  have hf25 := hts (.fieldLink RX5 25 "SiloPadsModel" "thrown" "I") (by decide +kernel)
  have hinX5 : ∀ w ∈ u_ws RX5 TX5 12, w ∈ wsX5_digest := by decide +kernel
  have hf202 := hts (.fieldLink RX5 202 "SiloPadsModel" "hash" "J") (by decide +kernel)
  have hf121 := hts (.fieldLink RX5 121 "SiloPadsModel" "length" "I") (by decide +kernel)
  have hf19 := hts (.fieldLink RX5 19 "SiloPadsModel" "buffer" "[I") (by decide +kernel)
  have hf7 := hts (.fieldLink RX5 7 "SiloPadsModel" "s" "[I") (by decide +kernel)
  refine lv_aload_n hx hb dX5_digest_0 rfl (lv_at hl 0 rfl) ?_
  refine lv_iconst (v := 0) hx hb dX5_digest_1 (by decide) ?_
  refine g_put (ci := 5) (C := RX5) (T := TX5) (M := 12) (ty := .int) hx hb hts hinX5 tyX5 tyX5_ok nmX5 hown hK hG hS i162 mW_o rfl 0 (by decide) hf25 rfl rfl rfl rfl rfl (Nat.le_of_ble_eq_true rfl) dX5_digest_2 rfl (fun H locs hG hS => ?_)
  have hG := hG.to mW_uo
  refine lv_aload_n hx hb dX5_digest_5 rfl (lv_at hl 0 rfl) ?_
  refine lv_ldc2 (v := 3533) hx hb hown (hts (.constantLong RX5 210 3533) (by decide +kernel)) dX5_digest_6 ?_
  refine g_put (ci := 5) (C := RX5) (T := TX5) (M := 12) (ty := .long) hx hb hts hinX5 tyX5 tyX5_ok nmX5 hown hK hG hS i162 mW_o rfl 11 (by decide) hf202 rfl rfl rfl rfl rfl (Nat.le_of_ble_eq_true rfl) dX5_digest_9 rfl (fun H locs hG hS => ?_)
  have hG := hG.to mW_uo
  refine lv_iconst (v := 0) hx hb dX5_digest_12 (by decide) ?_
  refine lv_istore_n (lv' := [(1, .int 0), (0, .ref (L 162))]) hx hb dX5_digest_13 rfl hl (by decide) rfl (fun ls hl => ?_)
  refine W.loop (σ := Nat) (fun v H locs ls => (v ≤ 15) ∧ GW D N L (gA N L s.heap.size) (mW cy L F 0 ms ma mv mn mb (nI n) mp mw mr mq (g_dN 3533 ms mn v)) H ∧ va_S (gA N L s.heap.size) s.heap H locs ∧ lv_has ls 2 [(1, .int (nI v)), (0, .ref (L 162))]) (fun v => 15 - v) 0 ⟨by omega, hG.to (rfl), hS, lv_to (lv_sub hl [0, 1] rfl) (rfl)⟩ ?_
  intro v H locs ls hP9 ih14
  obtain ⟨hv9, hG, hS, hl⟩ := hP9
  refine lv_iload_n hx hb dX5_digest_14 rfl (lv_at hl 0 rfl) ?_
  refine lv_bipush (v := 15) hx hb dX5_digest_15 (by decide) ?_
  refine lv_icmp_ge (tgt := 36) hx hb dX5_digest_17 (by decide) (fun c_17 => ?_) (fun c_17 => ?_)
  · skip
    have c_17 : 15 ≤ v := (nI_leI (a := 15) (b := v) (by omega) (by omega)).mp c_17
    refine lv_iconst (v := 0) hx hb dX5_digest_36 (by decide) ?_
    refine lv_istore_n (lv' := [(1, .int 0), (0, .ref (L 162))]) hx hb dX5_digest_37 rfl hl (by decide) rfl (fun ls hl => ?_)
    refine W.loop (σ := Nat) (fun k H locs ls => (k ≤ 4) ∧ GW D N L (gA N L s.heap.size) (mW cy L F 0 ms (g_asd ma ms k) mv mn mb (nI n) mp mw mr mq (g_dK (g_dN 3533 ms mn 15) ms k)) H ∧ va_S (gA N L s.heap.size) s.heap H locs ∧ lv_has ls 2 [(1, .int (nI k)), (0, .ref (L 162))]) (fun k => 4 - k) 0 ⟨by omega, hG.to (by rw [show v = 15 by omega]; rfl), hS, lv_to (lv_sub hl [0, 1] rfl) (rfl)⟩ ?_
    intro k H locs ls hP9 ih38
    obtain ⟨hk9, hG, hS, hl⟩ := hP9
    refine lv_iload_n hx hb dX5_digest_38 rfl (lv_at hl 0 rfl) ?_
    refine lv_iconst (v := 4) hx hb dX5_digest_39 (by decide) ?_
    refine lv_icmp_ge (tgt := 54) hx hb dX5_digest_40 (by decide) (fun c_40 => ?_) (fun c_40 => ?_)
    · skip
      have c_40 : 4 ≤ k := (nI_leI (a := 4) (b := k) (by omega) (by omega)).mp c_40
      refine lv_iconst (v := 0) hx hb dX5_digest_54 (by decide) ?_
      refine lv_istore_n (lv' := [(1, .int 0), (0, .ref (L 162))]) hx hb dX5_digest_55 rfl hl (by decide) rfl (fun ls hl => ?_)
      refine W.loop (σ := Nat) (fun i H locs ls => (i ≤ 12) ∧ GW D N L (gA N L s.heap.size) (mW cy L F 0 ms (g_asd ma ms 4) mv mn mb (nI n) mp mw mr mq (g_dJ (g_dK (g_dN 3533 ms mn 15) ms 4) ms i)) H ∧ va_S (gA N L s.heap.size) s.heap H locs ∧ lv_has ls 2 [(1, .int (nI i)), (0, .ref (L 162))]) (fun i => 12 - i) 0 ⟨by omega, hG.to (by rw [show k = 4 by omega]; rfl), hS, lv_to (lv_sub hl [0, 1] rfl) (rfl)⟩ ?_
      intro i H locs ls hP9 ih56
      obtain ⟨hi9, hG, hS, hl⟩ := hP9
      refine lv_iload_n hx hb dX5_digest_56 rfl (lv_at hl 0 rfl) ?_
      refine lv_bipush (v := 12) hx hb dX5_digest_57 (by decide) ?_
      refine lv_icmp_ge (tgt := 82) hx hb dX5_digest_59 (by decide) (fun c_59 => ?_) (fun c_59 => ?_)
      · skip
        have c_59 : 12 ≤ i := (nI_leI (a := 12) (b := i) (by omega) (by omega)).mp c_59
        refine lv_aload_n hx hb dX5_digest_82 rfl (lv_at hl 1 rfl) ?_
        refine lv_aload_n hx hb dX5_digest_83 rfl (lv_at hl 1 rfl) ?_
        refine g_cVi (As := []) (rest := [.ref (L 162)]) hx hb hml hown hts hK hA hG hS (k_X5_mostUrgent l D cy N L F hN 0 ms (g_asd ma ms 4) mv mn mb (nI n) mp mw mr mq (g_dJ (g_dK (g_dN 3533 ms mn 15) ms 4) ms i)  (hw)) (cwV 0 hts gX5_digest_X5_mostUrgent rfl rfl rfl (by decide +kernel) ⟨Nat.le_of_ble_eq_true rfl, Nat.le_of_ble_eq_true rfl⟩) i162 mW_o (ci := 5) rfl rfl rfl rfl hl.1 (Nat.le_of_ble_eq_true rfl) dX5_digest_84 ⟨Nat.zero_le _, Nat.zero_le _⟩ (fun H locs hG hS => ?_)
        refine lv_i2l hx hb dX5_digest_87 rfl ?_
        refine g_cVv (As := [.long ((g_bestI (g_best ms 4)).toInt64)]) (rest := []) hx hb hml hown hts hK hA hG hS (k_X5_hashes l D cy N L F hN 0 ms (g_asd ma ms 4) mv mn mb (nI n) mp mw mr mq (g_dJ (g_dK (g_dN 3533 ms mn 15) ms 4) ms i) ((g_bestI (g_best ms 4)).toInt64) ) (cwV 1 hts gX5_digest_X5_hashes rfl rfl rfl (by decide +kernel) ⟨Nat.le_of_ble_eq_true rfl, Nat.le_of_ble_eq_true rfl⟩) i162 mW_o (ci := 5) rfl rfl rfl rfl hl.1 (Nat.le_of_ble_eq_true rfl) dX5_digest_88 ⟨Nat.zero_le _, Nat.zero_le _⟩ (fun H locs hG hS => ?_)
        refine lv_aload_n hx hb dX5_digest_91 rfl (lv_at hl 1 rfl) ?_
        refine lv_aload_n hx hb dX5_digest_92 rfl (lv_at hl 1 rfl) ?_
        refine g_cVi (As := []) (rest := [.ref (L 162)]) hx hb hml hown hts hK hA hG hS (k_X5_archAhead l D cy N L F hN 0 ms (g_asd ma ms 4) mv mn mb (nI n) mp mw mr mq (31 * (g_dJ (g_dK (g_dN 3533 ms mn 15) ms 4) ms i) + ((g_bestI (g_best ms 4)).toInt64))  (hw)) (cwV 0 hts gX5_digest_X5_archAhead rfl rfl rfl (by decide +kernel) ⟨Nat.le_of_ble_eq_true rfl, Nat.le_of_ble_eq_true rfl⟩) i162 mW_o (ci := 5) rfl rfl rfl rfl hl.1 (Nat.le_of_ble_eq_true rfl) dX5_digest_93 ⟨Nat.zero_le _, Nat.zero_le _⟩ (fun H locs hG hS => ?_)
        refine lv_i2l hx hb dX5_digest_96 rfl ?_
        refine g_cVv (As := [.long ((g_ah ms (g_stop ms 60 0)).toInt64)]) (rest := []) hx hb hml hown hts hK hA hG hS (k_X5_hashes l D cy N L F hN 0 ms (cpN (g_asd ma ms 4) ms (0) (0) 118) mv mn mb (nI n) mp mw mr mq (31 * (g_dJ (g_dK (g_dN 3533 ms mn 15) ms 4) ms i) + ((g_bestI (g_best ms 4)).toInt64)) ((g_ah ms (g_stop ms 60 0)).toInt64) ) (cwV 1 hts gX5_digest_X5_hashes rfl rfl rfl (by decide +kernel) ⟨Nat.le_of_ble_eq_true rfl, Nat.le_of_ble_eq_true rfl⟩) i162 mW_o (ci := 5) rfl rfl rfl rfl hl.1 (Nat.le_of_ble_eq_true rfl) dX5_digest_97 ⟨Nat.zero_le _, Nat.zero_le _⟩ (fun H locs hG hS => ?_)
        refine lv_aload_n hx hb dX5_digest_100 rfl (lv_at hl 1 rfl) ?_
        refine lv_aload_n hx hb dX5_digest_101 rfl (lv_at hl 1 rfl) ?_
        refine g_cVd (As := []) (rest := [.ref (L 162)]) hx hb hml hown hts hK hA hG hS (k_X5_soft l D cy N L F hN 0 ms (cpN (g_asd ma ms 4) ms (0) (0) 118) mv mn mb (nI n) mp mw mr mq (31 * (31 * (g_dJ (g_dK (g_dN 3533 ms mn 15) ms 4) ms i) + ((g_bestI (g_best ms 4)).toInt64)) + ((g_ah ms (g_stop ms 60 0)).toInt64))  (hw) (hf)) (cwV 0 hts gX5_digest_X5_soft rfl rfl rfl (by decide +kernel) ⟨Nat.le_of_ble_eq_true rfl, Nat.le_of_ble_eq_true rfl⟩) i162 mW_o (ci := 5) rfl rfl rfl rfl hl.1 (Nat.le_of_ble_eq_true rfl) dX5_digest_102 ⟨Nat.zero_le _, Nat.zero_le _⟩ (fun H locs hG hS => ?_)
        refine g_cSl (As := [.double (g_softD ms)]) (rest := [.ref (L 162)]) hx hb hml hown hts hK hA hG hS (k_Jxe99ae_doubleToLongBits_ccdee l D cy N L (mW cy L F 0 ms (cpN (g_asd ma ms 4) ms (0) (0) 118) mv mn mb (nI n) mp mw mr mq (31 * (31 * (g_dJ (g_dK (g_dN 3533 ms mn 15) ms 4) ms i) + ((g_bestI (g_best ms 4)).toInt64)) + ((g_ah ms (g_stop ms 60 0)).toInt64))) (g_softD ms) (hx9)) (g_cwS 1 hts gX5_digest_Jxe99ae_doubleToLongBits_ccdee rfl rfl rfl (by decide +kernel) ⟨Nat.le_of_ble_eq_true rfl, Nat.le_of_ble_eq_true rfl⟩) rfl rfl hl.1 (Nat.le_of_ble_eq_true rfl) dX5_digest_105 ⟨Nat.zero_le _, Nat.zero_le _⟩ (fun H locs hG hS => ?_)
        refine g_cVv (As := [.long ((g_softD ms).toInt64)]) (rest := []) hx hb hml hown hts hK hA hG hS (k_X5_hashes l D cy N L F hN 0 ms (cpN (g_asd ma ms 4) ms (0) (0) 118) mv mn mb (nI n) mp mw mr mq (31 * (31 * (g_dJ (g_dK (g_dN 3533 ms mn 15) ms 4) ms i) + ((g_bestI (g_best ms 4)).toInt64)) + ((g_ah ms (g_stop ms 60 0)).toInt64)) ((g_softD ms).toInt64) ) (cwV 1 hts gX5_digest_X5_hashes rfl rfl rfl (by decide +kernel) ⟨Nat.le_of_ble_eq_true rfl, Nat.le_of_ble_eq_true rfl⟩) i162 mW_o (ci := 5) rfl rfl rfl rfl hl.1 (Nat.le_of_ble_eq_true rfl) dX5_digest_108 ⟨Nat.zero_le _, Nat.zero_le _⟩ (fun H locs hG hS => ?_)
        refine lv_aload_n hx hb dX5_digest_111 rfl (lv_at hl 1 rfl) ?_
        refine lv_aload_n hx hb dX5_digest_112 rfl (lv_at hl 1 rfl) ?_
        refine g_get (ci := 5) (C := RX5) (T := TX5) (M := 12) hx hb hts hinX5 hown hK hG i162 mW_o rfl 6 (by decide) hf121 rfl rfl dX5_digest_113 ?_
        refine lv_i2l hx hb dX5_digest_116 rfl ?_
        refine g_cVv (As := [.long ((nI n).toInt64)]) (rest := []) hx hb hml hown hts hK hA hG hS (k_X5_hashes l D cy N L F hN 0 ms (cpN (g_asd ma ms 4) ms (0) (0) 118) mv mn mb (nI n) mp mw mr mq (31 * (31 * (31 * (g_dJ (g_dK (g_dN 3533 ms mn 15) ms 4) ms i) + ((g_bestI (g_best ms 4)).toInt64)) + ((g_ah ms (g_stop ms 60 0)).toInt64)) + ((g_softD ms).toInt64)) ((nI n).toInt64) ) (cwV 1 hts gX5_digest_X5_hashes rfl rfl rfl (by decide +kernel) ⟨Nat.le_of_ble_eq_true rfl, Nat.le_of_ble_eq_true rfl⟩) i162 mW_o (ci := 5) rfl rfl rfl rfl hl.1 (Nat.le_of_ble_eq_true rfl) dX5_digest_117 ⟨Nat.zero_le _, Nat.zero_le _⟩ (fun H locs hG hS => ?_)
        refine lv_iconst (v := 0) hx hb dX5_digest_120 (by decide) ?_
        refine lv_istore_n (lv' := [(1, .int 0), (0, .ref (L 162))]) hx hb dX5_digest_121 rfl hl (by decide) rfl (fun ls hl => ?_)
        refine W.loop (σ := Nat) (fun q H locs ls => (q ≤ n) ∧ GW D N L (gA N L s.heap.size) (mW cy L F 0 ms (cpN (g_asd ma ms 4) ms (0) (0) 118) mv mn mb (nI n) mp mw mr mq (g_dB (g_d2 ms mn n) mb q)) H ∧ va_S (gA N L s.heap.size) s.heap H locs ∧ lv_has ls 2 [(1, .int (nI q)), (0, .ref (L 162))]) (fun q => n - q) 0 ⟨by omega, hG.to (by rw [show i = 12 by omega]; rfl), hS, lv_to (lv_sub hl [0, 1] rfl) (rfl)⟩ ?_
        intro q H locs ls hP9 ih122
        obtain ⟨hq9, hG, hS, hl⟩ := hP9
        refine lv_iload_n hx hb dX5_digest_122 rfl (lv_at hl 0 rfl) ?_
        refine lv_aload_n hx hb dX5_digest_123 rfl (lv_at hl 1 rfl) ?_
        refine g_get (ci := 5) (C := RX5) (T := TX5) (M := 12) hx hb hts hinX5 hown hK hG i162 mW_o rfl 6 (by decide) hf121 rfl rfl dX5_digest_124 ?_
        refine lv_icmp_ge (tgt := 147) hx hb dX5_digest_127 (by decide) (fun c_127 => ?_) (fun c_127 => ?_)
        · skip
          have c_127 : n ≤ q := (nI_leI (a := n) (b := q) (by omega) (by omega)).mp c_127
          refine lv_aload_n hx hb dX5_digest_147 rfl (lv_at hl 1 rfl) ?_
          refine g_get (ci := 5) (C := RX5) (T := TX5) (M := 12) hx hb hts hinX5 hown hK hG i162 mW_o rfl 11 (by decide) hf202 rfl rfl dX5_digest_148 ?_
          exact g_lret hx hb hr hlocks hK hG hS dX5_digest_151 ⟨(congrArg (fun z9 => some (Value.long z9)) (by rw [show q = n by omega])), (by rw [show q = n by omega])⟩
        · skip
          have c_127 : ¬ n ≤ q := fun h9 => c_127 ((nI_leI (a := n) (b := q) (by omega) (by omega)).mpr h9)
          refine lv_aload_n hx hb dX5_digest_130 rfl (lv_at hl 1 rfl) ?_
          refine lv_aload_n hx hb dX5_digest_131 rfl (lv_at hl 1 rfl) ?_
          refine g_get (ci := 5) (C := RX5) (T := TX5) (M := 12) hx hb hts hinX5 hown hK hG i162 mW_o rfl 5 (by decide) hf19 rfl rfl dX5_digest_132 ?_
          refine lv_iload_n hx hb dX5_digest_135 rfl (lv_at hl 0 rfl) ?_
          refine g_iald hx hb hK hG i166 mW_a166 (k := q) rfl (by omega) (by decide) dX5_digest_136 ?_
          refine lv_i2l hx hb dX5_digest_137 rfl ?_
          refine g_cVv (As := [.long ((mb q).toInt64)]) (rest := []) hx hb hml hown hts hK hA hG hS (k_X5_hashes l D cy N L F hN 0 ms (cpN (g_asd ma ms 4) ms (0) (0) 118) mv mn mb (nI n) mp mw mr mq (g_dB (g_d2 ms mn n) mb q) ((mb q).toInt64) ) (cwV 1 hts gX5_digest_X5_hashes rfl rfl rfl (by decide +kernel) ⟨Nat.le_of_ble_eq_true rfl, Nat.le_of_ble_eq_true rfl⟩) i162 mW_o (ci := 5) rfl rfl rfl rfl hl.1 (Nat.le_of_ble_eq_true rfl) dX5_digest_138 ⟨Nat.zero_le _, Nat.zero_le _⟩ (fun H locs hG hS => ?_)
          refine lv_iinc (v := nI (q + 1)) (lv' := [(1, .int (nI (q + 1))), (0, .ref (L 162))]) hx hb dX5_digest_141 hl (k := 0) rfl (nI_add q 1) (by decide) rfl (fun ls hl => ?_)
          refine lv_goto (tgt := 122) hx hb dX5_digest_144 (by decide) ?_
          have hl : lv_has ls 2 [(1, .int (nI (q + 1))), (0, .ref (L 162))] := lv_sub hl [0, 1] rfl
          exact ih122 (q + 1) _ _ _ (by omega) ⟨by omega, hG.to (rfl), hS, lv_to hl (rfl)⟩
      · skip
        have c_59 : ¬ 12 ≤ i := fun h9 => c_59 ((nI_leI (a := 12) (b := i) (by omega) (by omega)).mpr h9)
        refine lv_aload_n hx hb dX5_digest_62 rfl (lv_at hl 1 rfl) ?_
        refine lv_aload_n hx hb dX5_digest_63 rfl (lv_at hl 1 rfl) ?_
        refine g_get (ci := 5) (C := RX5) (T := TX5) (M := 12) hx hb hts hinX5 hown hK hG i162 mW_o rfl 1 (by decide) hf7 rfl rfl dX5_digest_64 ?_
        refine lv_bipush (v := 106) hx hb dX5_digest_67 (by decide) ?_
        refine lv_iload_n hx hb dX5_digest_69 rfl (lv_at hl 0 rfl) ?_
        refine lv_iadd hx hb dX5_digest_70 ?_
        refine lv_toN (k := 106 + i) (nI_add 106 i) ?_
        refine g_iald hx hb hK hG i163 mW_a163 (k := 106 + i) rfl (by omega) (by decide) dX5_digest_71 ?_
        refine lv_i2l hx hb dX5_digest_72 rfl ?_
        refine g_cVv (As := [.long ((ms (106 + i)).toInt64)]) (rest := []) hx hb hml hown hts hK hA hG hS (k_X5_hashes l D cy N L F hN 0 ms (g_asd ma ms 4) mv mn mb (nI n) mp mw mr mq (g_dJ (g_dK (g_dN 3533 ms mn 15) ms 4) ms i) ((ms (106 + i)).toInt64) ) (cwV 1 hts gX5_digest_X5_hashes rfl rfl rfl (by decide +kernel) ⟨Nat.le_of_ble_eq_true rfl, Nat.le_of_ble_eq_true rfl⟩) i162 mW_o (ci := 5) rfl rfl rfl rfl hl.1 (Nat.le_of_ble_eq_true rfl) dX5_digest_73 ⟨Nat.zero_le _, Nat.zero_le _⟩ (fun H locs hG hS => ?_)
        refine lv_iinc (v := nI (i + 1)) (lv' := [(1, .int (nI (i + 1))), (0, .ref (L 162))]) hx hb dX5_digest_76 hl (k := 0) rfl (nI_add i 1) (by decide) rfl (fun ls hl => ?_)
        refine lv_goto (tgt := 56) hx hb dX5_digest_79 (by decide) ?_
        have hl : lv_has ls 2 [(1, .int (nI (i + 1))), (0, .ref (L 162))] := lv_sub hl [0, 1] rfl
        exact ih56 (i + 1) _ _ _ (by omega) ⟨by omega, hG.to (rfl), hS, lv_to hl (rfl)⟩
    · skip
      have c_40 : ¬ 4 ≤ k := fun h9 => c_40 ((nI_leI (a := 4) (b := k) (by omega) (by omega)).mpr h9)
      have hw8 := hw.1 k (by omega)
      refine lv_aload_n hx hb dX5_digest_43 rfl (lv_at hl 1 rfl) ?_
      refine lv_iload_n hx hb dX5_digest_44 rfl (lv_at hl 0 rfl) ?_
      refine g_cVv (As := [.int (nI k)]) (rest := []) hx hb hml hown hts hK hA hG hS (k_X5_hashesSilo l D cy N L F hN 0 ms (g_asd ma ms k) mv mn mb (nI n) mp mw mr mq (g_dK (g_dN 3533 ms mn 15) ms k) k (Nn ms k) (by omega) (hw8.1) (hw8.2) (hw) (hn1 k (by omega))) (cwV 1 hts gX5_digest_X5_hashesSilo rfl rfl rfl (by decide +kernel) ⟨Nat.le_of_ble_eq_true rfl, Nat.le_of_ble_eq_true rfl⟩) i162 mW_o (ci := 5) rfl rfl rfl rfl hl.1 (Nat.le_of_ble_eq_true rfl) dX5_digest_45 ⟨Nat.zero_le _, Nat.zero_le _⟩ (fun H locs hG hS => ?_)
      refine lv_iinc (v := nI (k + 1)) (lv' := [(1, .int (nI (k + 1))), (0, .ref (L 162))]) hx hb dX5_digest_48 hl (k := 0) rfl (nI_add k 1) (by decide) rfl (fun ls hl => ?_)
      refine lv_goto (tgt := 38) hx hb dX5_digest_51 (by decide) ?_
      have hl : lv_has ls 2 [(1, .int (nI (k + 1))), (0, .ref (L 162))] := lv_sub hl [0, 1] rfl
      exact ih38 (k + 1) _ _ _ (by omega) ⟨by omega, hG.to (by rw [g_asd_s]; rfl), hS, lv_to hl (rfl)⟩
  · skip
    have c_17 : ¬ 15 ≤ v := fun h9 => c_17 ((nI_leI (a := 15) (b := v) (by omega) (by omega)).mpr h9)
    refine lv_aload_n hx hb dX5_digest_20 rfl (lv_at hl 1 rfl) ?_
    refine lv_aload_n hx hb dX5_digest_21 rfl (lv_at hl 1 rfl) ?_
    refine lv_iload_n hx hb dX5_digest_22 rfl (lv_at hl 0 rfl) ?_
    refine g_cVi (As := [.int (nI v)]) (rest := [.ref (L 162)]) hx hb hml hown hts hK hA hG hS (k_X5_tellsCount l D cy N L F hN 0 ms ma mv mn mb (nI n) mp mw mr mq (g_dN 3533 ms mn v) (nI v) (hw) (by rcases (show v = 0 ∨ v = 1 ∨ v = 2 ∨ v = 3 ∨ v = 4 ∨ v = 5 ∨ v = 6 ∨ v = 7 ∨ v = 8 ∨ v = 9 ∨ v = 10 ∨ v = 11 ∨ v = 12 ∨ v = 13 ∨ v = 14 by omega) with rfl | rfl | rfl | rfl | rfl | rfl | rfl | rfl | rfl | rfl | rfl | rfl | rfl | rfl | rfl <;> decide)) (cwV 1 hts gX5_digest_X5_tellsCount rfl rfl rfl (by decide +kernel) ⟨Nat.le_of_ble_eq_true rfl, Nat.le_of_ble_eq_true rfl⟩) i162 mW_o (ci := 5) rfl rfl rfl rfl hl.1 (Nat.le_of_ble_eq_true rfl) dX5_digest_23 ⟨Nat.zero_le _, Nat.zero_le _⟩ (fun H locs hG hS => ?_)
    refine lv_i2l hx hb dX5_digest_26 rfl ?_
    refine g_cVv (As := [.long ((g_count ms mn (nI v)).toInt64)]) (rest := []) hx hb hml hown hts hK hA hG hS (k_X5_hashes l D cy N L F hN 0 ms ma mv mn mb (nI n) mp mw mr mq (g_dN 3533 ms mn v) ((g_count ms mn (nI v)).toInt64) ) (cwV 1 hts gX5_digest_X5_hashes rfl rfl rfl (by decide +kernel) ⟨Nat.le_of_ble_eq_true rfl, Nat.le_of_ble_eq_true rfl⟩) i162 mW_o (ci := 5) rfl rfl rfl rfl hl.1 (Nat.le_of_ble_eq_true rfl) dX5_digest_27 ⟨Nat.zero_le _, Nat.zero_le _⟩ (fun H locs hG hS => ?_)
    refine lv_iinc (v := nI (v + 1)) (lv' := [(1, .int (nI (v + 1))), (0, .ref (L 162))]) hx hb dX5_digest_30 hl (k := 0) rfl (nI_add v 1) (by decide) rfl (fun ls hl => ?_)
    refine lv_goto (tgt := 14) hx hb dX5_digest_33 (by decide) ?_
    have hl : lv_has ls 2 [(1, .int (nI (v + 1))), (0, .ref (L 162))] := lv_sub hl [0, 1] rfl
    exact ih14 (v + 1) _ _ _ (by omega) ⟨by omega, hG.to (rfl), hS, lv_to hl (rfl)⟩
