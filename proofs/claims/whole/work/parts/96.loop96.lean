/-! THE LAW'S LOOP -/
set_option maxHeartbeats 4000000 in
set_option maxRecDepth 100000 in
/-- the switch: whatever is called, the rest of the law goes well -/
theorem law_switch {p : Program} {l : Launch} {e : Env} {s : State} {m : MethodId} {below : List Frame} {meth : Method} {c : Code} {b Ln : Nat} {xs : Nat → Int32} {D : va_G} {cy : Nat → ClassId} {L : Nat → Nat} {F : Nat → va_E} {Q : State → Prop} {c0 s0 : Nat} {t : Nat} (hC : LC p s m meth c b Ln xs D cy l) (hcl : c0 + t + 1 ≤ room_1.cells ∧ s0 + 6 * t + 6 ≤ room_1.slots) (hi : 5 * t + 5 ≤ Ln) (hN : NX p l e s m below meth c b D cy L F Q 1371 t (t + 1) c0 s0) (hN0 : NX p l e s m below meth c b D cy L F Q 1371 t t c0 s0) (v : Int32)
    (f : Nat → Int64) (C : CT) (M : MT) (H : Heap) (locs : List Loc) (ls : Array Slot) (hW : WR (2000 * (t : Int)) C M) (hG : GW D 169 L (fun q => s.heap.size ≤ q) (KW cy L F f C M) H) (hS : va_S (fun q => s.heap.size ≤ q) s.heap H locs) (hl : lv_has ls 9 [(4, .int (nI (5 * t))), (3, .ref (L 168)), (2, .ref (L 162)), (1, .ref (L 0)), (0, .ref b)]) :
    W p l e room_1 s m #[Value.ref b] below meth c H locs (c0 + t) (s0 + 6 * t) Q (F0 m 39 ls [.int v]) := by
  have hx := hC.1
  have hb := hC.2.1
  by_cases h0 : v = nI 0
  · exact lv_tableIn (off := 105) (tgt := 144) hx hb dL_law_39 (by rw [h0]; decide) (by rw [h0]; decide) (by rw [h0]; decide) (by decide) (law_ship hC hcl hi hN f C M H locs ls hW hG hS hl)
  by_cases h1 : v = nI 1
  · exact lv_tableIn (off := 185) (tgt := 224) hx hb dL_law_39 (by rw [h1]; decide) (by rw [h1]; decide) (by rw [h1]; decide) (by decide) (law_unload hC hcl hi hN f C M H locs ls hW hG hS hl)
  by_cases h2 : v = nI 2
  · exact lv_tableIn (off := 265) (tgt := 304) hx hb dL_law_39 (by rw [h2]; decide) (by rw [h2]; decide) (by rw [h2]; decide) (by decide) (law_flow hC hcl hi hN f C M H locs ls hW hG hS hl)
  by_cases h3 : v = nI 3
  · exact lv_tableIn (off := 345) (tgt := 384) hx hb dL_law_39 (by rw [h3]; decide) (by rw [h3]; decide) (by rw [h3]; decide) (by decide) (law_pads hC hcl hi hN f C M H locs ls hW hG hS hl)
  by_cases h4 : v = nI 4
  · exact lv_tableIn (off := 413) (tgt := 452) hx hb dL_law_39 (by rw [h4]; decide) (by rw [h4]; decide) (by rw [h4]; decide) (by decide) (law_shake hC hcl hi hN f C M H locs ls hW hG hS hl)
  by_cases h5 : v = nI 5
  · exact lv_tableIn (off := 469) (tgt := 508) hx hb dL_law_39 (by rw [h5]; decide) (by rw [h5]; decide) (by rw [h5]; decide) (by decide) (law_pass hC hcl hi hN f C M H locs ls hW hG hS hl)
  by_cases h6 : v = nI 6
  · exact lv_tableIn (off := 525) (tgt := 564) hx hb dL_law_39 (by rw [h6]; decide) (by rw [h6]; decide) (by rw [h6]; decide) (by decide) (law_set hC hcl hi hN f C M H locs ls hW hG hS hl)
  by_cases h7 : v = nI 7
  · exact lv_tableIn (off := 593) (tgt := 632) hx hb dL_law_39 (by rw [h7]; decide) (by rw [h7]; decide) (by rw [h7]; decide) (by decide) (law_append hC hcl hi hN f C M H locs ls hW hG hS hl)
  by_cases h8 : v = nI 8
  · exact lv_tableIn (off := 649) (tgt := 688) hx hb dL_law_39 (by rw [h8]; decide) (by rw [h8]; decide) (by rw [h8]; decide) (by decide) (law_clearBuffer hC hcl hi hN f C M H locs ls hW hG hS hl)
  by_cases h9 : v = nI 9
  · exact lv_tableIn (off := 662) (tgt := 701) hx hb dL_law_39 (by rw [h9]; decide) (by rw [h9]; decide) (by rw [h9]; decide) (by decide) (law_firstError hC hcl hi hN f C M H locs ls hW hG hS hl)
  by_cases h10 : v = nI 10
  · exact lv_tableIn (off := 675) (tgt := 714) hx hb dL_law_39 (by rw [h10]; decide) (by rw [h10]; decide) (by rw [h10]; decide) (by decide) (law_play hC hcl hi hN f C M H locs ls hW hG hS hl)
  by_cases h11 : v = nI 11
  · exact lv_tableIn (off := 719) (tgt := 758) hx hb dL_law_39 (by rw [h11]; decide) (by rw [h11]; decide) (by rw [h11]; decide) (by decide) (law_undo hC hcl hi hN f C M H locs ls hW hG hS hl)
  by_cases h12 : v = nI 12
  · exact lv_tableIn (off := 763) (tgt := 802) hx hb dL_law_39 (by rw [h12]; decide) (by rw [h12]; decide) (by rw [h12]; decide) (by decide) (law_silo hC hcl hi hN f C M H locs ls hW hG hS hl)
  by_cases h13 : v = nI 13
  · exact lv_tableIn (off := 831) (tgt := 870) hx hb dL_law_39 (by rw [h13]; decide) (by rw [h13]; decide) (by rw [h13]; decide) (by decide) (law_layer hC hcl hi hN f C M H locs ls hW hG hS hl)
  by_cases h14 : v = nI 14
  · exact lv_tableIn (off := 911) (tgt := 950) hx hb dL_law_39 (by rw [h14]; decide) (by rw [h14]; decide) (by rw [h14]; decide) (by decide) (law_shipOf hC hcl hi hN f C M H locs ls hW hG hS hl)
  by_cases h15 : v = nI 15
  · exact lv_tableIn (off := 979) (tgt := 1018) hx hb dL_law_39 (by rw [h15]; decide) (by rw [h15]; decide) (by rw [h15]; decide) (by decide) (law_count hC hcl hi hN f C M H locs ls hW hG hS hl)
  by_cases h16 : v = nI 16
  · exact lv_tableIn (off := 1035) (tgt := 1074) hx hb dL_law_39 (by rw [h16]; decide) (by rw [h16]; decide) (by rw [h16]; decide) (by decide) (law_whyNot hC hcl hi hN f C M H locs ls hW hG hS hl)
  by_cases h17 : v = nI 17
  · exact lv_tableIn (off := 1103) (tgt := 1142) hx hb dL_law_39 (by rw [h17]; decide) (by rw [h17]; decide) (by rw [h17]; decide) (by decide) (law_ifFlowed hC hcl hi hN f C M H locs ls hW hG hS hl)
  by_cases h18 : v = nI 18
  · exact lv_tableIn (off := 1195) (tgt := 1234) hx hb dL_law_39 (by rw [h18]; decide) (by rw [h18]; decide) (by rw [h18]; decide) (by decide) (law_urgent hC hcl hi hN f C M H locs ls hW hG hS hl)
  by_cases h19 : v = nI 19
  · exact lv_tableIn (off := 1208) (tgt := 1247) hx hb dL_law_39 (by rw [h19]; decide) (by rw [h19]; decide) (by rw [h19]; decide) (by decide) (law_nextArch hC hcl hi hN f C M H locs ls hW hG hS hl)
  by_cases h20 : v = nI 20
  · exact lv_tableIn (off := 1221) (tgt := 1260) hx hb dL_law_39 (by rw [h20]; decide) (by rw [h20]; decide) (by rw [h20]; decide) (by decide) (law_shakesNeeded hC hcl hi hN f C M H locs ls hW hG hS hl)
  by_cases h21 : v = nI 21
  · exact lv_tableIn (off := 1277) (tgt := 1316) hx hb dL_law_39 (by rw [h21]; decide) (by rw [h21]; decide) (by rw [h21]; decide) (by decide) (law_softness hC hcl hi hN f C M H locs ls hW hG hS hl)
  by_cases h22 : v = nI 22
  · exact lv_tableIn (off := 1318) (tgt := 1357) hx hb dL_law_39 (by rw [h22]; decide) (by rw [h22]; decide) (by rw [h22]; decide) (by decide) (law_digest hC hcl hi hN f C M H locs ls hW hG hS hl)
  exact lv_tableOut (tgt := 1371) hx hb dL_law_39 (by have q0 := sw_ne (n := 0) (by decide) h0; have q1 := sw_ne (n := 1) (by decide) h1; have q2 := sw_ne (n := 2) (by decide) h2; have q3 := sw_ne (n := 3) (by decide) h3; have q4 := sw_ne (n := 4) (by decide) h4; have q5 := sw_ne (n := 5) (by decide) h5; have q6 := sw_ne (n := 6) (by decide) h6; have q7 := sw_ne (n := 7) (by decide) h7; have q8 := sw_ne (n := 8) (by decide) h8; have q9 := sw_ne (n := 9) (by decide) h9; have q10 := sw_ne (n := 10) (by decide) h10; have q11 := sw_ne (n := 11) (by decide) h11; have q12 := sw_ne (n := 12) (by decide) h12; have q13 := sw_ne (n := 13) (by decide) h13; have q14 := sw_ne (n := 14) (by decide) h14; have q15 := sw_ne (n := 15) (by decide) h15; have q16 := sw_ne (n := 16) (by decide) h16; have q17 := sw_ne (n := 17) (by decide) h17; have q18 := sw_ne (n := 18) (by decide) h18; have q19 := sw_ne (n := 19) (by decide) h19; have q20 := sw_ne (n := 20) (by decide) h20; have q21 := sw_ne (n := 21) (by decide) h21; have q22 := sw_ne (n := 22) (by decide) h22; omega) (by decide) (hN0 f C M H locs ls hW hG hS hl)
set_option maxHeartbeats 4000000 in
set_option maxRecDepth 100000 in
theorem law_loop {p : Program} {l : Launch} {e : Env} {s : State} {m : MethodId} {below : List Frame} {meth : Method} {c : Code} {b Ln : Nat} {xs : Nat → Int32} {D : va_G} {cy : Nat → ClassId} {L : Nat → Nat} {F : Nat → va_E} {Q : State → Prop} {c0 s0 : Nat} (hC : LC p s m meth c b Ln xs D cy l) (hcl : c0 + 600 ≤ room_1.cells ∧ s0 + 6 * 600 ≤ room_1.slots)
    (hend : ∀ (H : Heap) (locs : List Loc) (ls : Array Slot) (u : Nat), u ≤ 600 → va_S (fun q => s.heap.size ≤ q) s.heap H locs → W p l e room_1 s m #[Value.ref b] below meth c H locs (c0 + u) (s0 + 6 * u) Q (F0 m 1378 ls [.int 1])) :
    ∀ (n t : Nat), 5 * t ≤ Ln → Ln + 1 ≤ t + n → NX p l e s m below meth c b D cy L F Q 23 t t c0 s0 := by
  obtain ⟨hx, hb, hml, hown, hts, hK, hX, hbl, hLn, hst⟩ := id hC
  have hbA : ¬ (fun q : Nat => s.heap.size ≤ q) b := Nat.not_le.mpr hbl
  intro n
  induction n with
  | zero =>
    intro t h1 h2
    omega
  | succ n ih =>
    intro t h1 h2 f C M H locs ls hW hG hS hl
    refine lv_iload hx hb dL_law_23 (lv_at hl 0 rfl) ?_
    refine lv_aload_n hx hb dL_law_25 rfl (lv_at hl 4 rfl) ?_
    refine va_slen hx hb hX hbl hbA hS dL_law_26 ?_
    refine lv_iconst (v := 5) hx hb dL_law_27 (by decide) ?_
    refine lv_isub hx hb dL_law_28 ?_
    have e5 : (Int32.ofNat Ln - 5).toInt = (Ln : Int) - 5 := pk_sub_toInt (a := Ln) (b := 5) (by omega) (by omega)
    have et : (nI (5 * t)).toInt = ((5 * t : Nat) : Int) := nI_toInt (by omega)
    refine lv_icmp_gt (tgt := 1377) hx hb dL_law_29 (by decide) (fun c9 => ?_) (fun c9 => ?_)
    · refine lv_iconst (v := 1) hx hb dL_law_1377 (by decide) ?_
      exact hend H locs ls t (by omega) hS
    · have hlt : 5 * t + 5 ≤ Ln := by
        rw [Int32.lt_iff_toInt_lt, e5, et] at c9
        omega
      refine lv_aload_n hx hb dL_law_32 rfl (lv_at hl 4 rfl) ?_
      refine lv_iload hx hb dL_law_33 (lv_at hl 0 rfl) ?_
      refine va_sld hx hb hX hbl hbA hS (vp_in_nI (show 5 * t < Ln by omega) (by omega)) dL_law_35 ?_
      refine lv_bipush (v := 31) hx hb dL_law_36 (by decide) ?_
      refine lv_iand hx hb dL_law_38 ?_
      have goes : ∀ u, u ≤ t + 1 → t ≤ u → NX p l e s m below meth c b D cy L F Q 1371 t u c0 s0 := by
        intro u hu1 hu2 f C M H locs ls hW hG hS hl
        refine lv_iinc (v := nI (5 * (t + 1))) (lv' := [(4, .int (nI (5 * (t + 1)))), (3, .ref (L 168)), (2, .ref (L 162)), (1, .ref (L 0)), (0, .ref b)]) hx hb dL_law_1371 hl (k := 0) rfl (nI_add (5 * t) 5) (by decide) rfl (fun ls hl => ?_)
        refine lv_goto (tgt := 23) hx hb dL_law_1374 (by decide) ?_
        refine W.widen (k := c0 + (t + 1)) (n := s0 + 6 * (t + 1)) (by omega) (by omega) ?_
        exact ih (t + 1) (by omega) (by omega) f C M H locs ls (hW.mono (by omega)) hG hS hl
      exact law_switch hC ⟨by omega, by omega⟩ hlt (goes (t + 1) (by omega) (by omega)) (goes t (by omega) (by omega)) _ f C M H locs ls hW hG hS hl

