/-! THE CONSTRUCTOR of the whole object -/
def c0C : CT := (y0, fun _ => y0, id, 0, fun _ => 0, 0, r0, s0, h0s)
def g3 (L : Nat → Nat) : Nat → Nat := fun q => L (30 + 22 * q)
/-- the whole object while it is made: its fields, how many saved yards there are -/
def cP (cy : Nat → ClassId) (L : Nat → Nat) (F : Nat → va_E) (fs : List Value) (k : Nat) : Nat → va_E :=
  gup (gup (cW cy L F c0C) 23 (.inl (cy 3, 6, .inr (.inr (.inr (.inr (rr 6 k (g3 L)))))))) 0 (.inr (4, fs))
section CCP
variable {cy : Nat → ClassId} {L : Nat → Nat} {F : Nat → va_E} {fs fs2 : List Value} {k k2 : Nat}
theorem cP_0 : cP cy L F fs k 0 = .inr (4, fs) := gup_s
theorem cP_23 : cP cy L F fs k 23 = .inl (cy 3, 6, .inr (.inr (.inr (.inr (rr 6 k (g3 L)))))) := (gup_n (by omega)).trans gup_s
theorem cP_n {i : Nat} (h0 : i ≠ 0) (h1 : i ≠ 23) : cP cy L F fs k i = cW cy L F c0C i := (gup_n h0).trans (gup_n h1)
theorem cP_u0 : gup (cP cy L F fs k) 0 (.inr (4, fs2)) = cP cy L F fs2 k := gup_gup
theorem cP_u23 : gup (cP cy L F fs k) 23 (.inl (cy 3, 6, .inr (.inr (.inr (.inr (rr 6 k2 (g3 L))))))) = cP cy L F fs k2 := by
  funext i
  by_cases h1 : i = 23
  · rw [h1, gup_s, cP_23]
  · rw [gup_n h1]
    by_cases h0 : i = 0
    · rw [h0, cP_0, cP_0]
    · rw [cP_n h0 h1, cP_n h0 h1]
theorem cP_end : cP cy L F [.ref (L 1), .ref (L 23), .int 0, .ref (L 24), .int 0, .ref (L 25), .ref (L 26), .ref (L 29)] 6 = cW cy L F c0C := by
  funext i
  by_cases h0 : i = 0
  · rw [h0, cP_0, cW_o]; rfl
  · by_cases h1 : i = 23
    · rw [h1, cP_23, cW_v, rr_n]; rfl
    · rw [cP_n h0 h1]
theorem cP_y : ∀ r, r < 22 → cP cy L F fs k (1 + r) = yCell cy L 1 y0 r := fun r hr => by
  by_cases h : r = 22
  · omega
  · rw [cP_n (by omega) (by omega), cW_i (by omega), cCell_y hr]
    rfl
theorem cP_b : cP cy L F fs k 24 = .inl (cy 0, 60, .inl (fun _ => 0)) := (cP_n (by omega) (by omega)).trans cW_b
theorem cP_r : cP cy L F fs k 25 = .inr (2, [.int 0, .int 0, .int 0, .int 43, .int 1]) := (cP_n (by omega) (by omega)).trans cW_r
theorem cP_so : cP cy L F fs k 26 = .inr (1, [.ref (L (26 + 1)), .ref (L (26 + 2)), .int (nI 0), .int 0, .int 0, .int 0]) := (cP_n (by omega) (by omega)).trans (cW_i (by omega))
theorem cP_st : cP cy L F fs k (26 + 1) = .inl (cy 0, 10, .inl (fun _ => 0)) := (cP_n (by omega) (by omega)).trans (cW_i (by omega))
theorem cP_sa : cP cy L F fs k (26 + 2) = .inl (cy 0, 10, .inl (fun _ => 0)) := (cP_n (by omega) (by omega)).trans (cW_i (by omega))
theorem cP_h : cP cy L F fs k 29 = .inr (0, [.int 0, .int 500]) := (cP_n (by omega) (by omega)).trans (cW_i (by omega))
theorem cP_v {p : Nat} (hp : p < 6) : ∀ r, r < 22 → cP cy L F fs k (30 + 22 * p + r) = yCell cy L (30 + 22 * p) y0 r := fun r hr => by
  rw [cP_n (by omega) (by omega), cW_i (by omega), cCell_v hr]
  rfl
end CCP
set_option maxHeartbeats 4000000 in
set_option maxRecDepth 100000 in
theorem i_X4 (l : Launch) (D : va_G) (cy : Nat → ClassId) (base : Nat) (F : Nat → va_E) (hF : F 0 = .inr (4, [.null, .null, .int 0, .null, .int 0, .null, .null, .null])) : GC l D cy base 0 yX4_init wsX4_init ({ frames := 3, cells := 161, slots := 1072, locals := 53 }) F (162) (cW cy (Lb base) F c0C) 161 1072 := by
  refine GC.ofW (cc := cX4_init) (maxL := 2) (by decide) rfl rfl (Nat.le_of_ble_eq_true rfl) ?_
  intro p e s m below meth c ls hx hb hr hts hown hlocks hml hin hK hV h0 hA hG hS hl
  have loop1 : ∀ (n k : Nat), n + k = 6 → ∀ (H : Heap) (locs : List Loc) (ls : Array Slot), lv_has ls 2 [(1, .int (nI k)), (0, .ref (Lb base 0))] → GW D (30 + 22 * k) (Lb base) (Ab base) (cP cy (Lb base) F [.ref (Lb base 1), .ref (Lb base 23), .int 0, .ref (Lb base 24), .int 0, .ref (Lb base 25), .ref (Lb base 26), .ref (Lb base 29)] k) H → va_S (Ab base) s.heap H locs → W p l e (headSpec wsX4_init ({ frames := 3, cells := 161, slots := 1072, locals := 53 })).room s m #[Value.ref (Lb base 0)] below meth c H locs (29 + 22 * k) (238 + 139 * k) (MQ below (gQn D base 162 (cW cy (Lb base) F c0C)) #[Value.ref (Lb base 0)] s 161 1072 (Ab base)) (F0 m 77 ls []) := by
    intro n
    induction n with
    | zero =>
      intro k hk H locs ls hl hG hS
      refine lv_iload_n hx hb dX4_init_77 rfl (lv_at hl 0 rfl) ?_
      refine lv_aload_n hx hb dX4_init_78 rfl (lv_at hl 1 rfl) ?_
      refine g_get (ci := 4) (C := RX4) (T := TX4) (M := 8) hx hb hts (by decide +kernel) hown hK hG (by omega) cP_0 rfl 1 (by decide) (hts (.fieldLink RX4 16 "SiloPads" "saved" "[LSiloPads$Yard;") (by decide +kernel)) rfl rfl dX4_init_79 ?_
      refine g_alen (t0 := 3) (v := nI 6) hx hb hK hG (by omega) cP_23 rfl rfl dX4_init_82 ?_
      refine lv_icmp_ge (tgt := 105) hx hb dX4_init_83 (by decide) (fun c9 => ?_) (fun c9 => ?_)
      · have e9 : k = 6 := by omega
        subst e9
        exact g_vretN hx hb hr hlocks (hG.to cP_end) hS dX4_init_105
      · exact absurd (nI_le (a := 6) (b := k) (by omega) (by omega)) c9
    | succ n ih =>
      intro k hk H locs ls hl hG hS
      refine lv_iload_n hx hb dX4_init_77 rfl (lv_at hl 0 rfl) ?_
      refine lv_aload_n hx hb dX4_init_78 rfl (lv_at hl 1 rfl) ?_
      refine g_get (ci := 4) (C := RX4) (T := TX4) (M := 8) hx hb hts (by decide +kernel) hown hK hG (by omega) cP_0 rfl 1 (by decide) (hts (.fieldLink RX4 16 "SiloPads" "saved" "[LSiloPads$Yard;") (by decide +kernel)) rfl rfl dX4_init_79 ?_
      refine g_alen (t0 := 3) (v := nI 6) hx hb hK hG (by omega) cP_23 rfl rfl dX4_init_82 ?_
      refine lv_icmp_ge (tgt := 105) hx hb dX4_init_83 (by decide) (fun c9 => ?_) (fun c9 => ?_)
      · exact absurd c9 (nI_ge (a := k) (b := 6) (by omega) (by omega))
      · skip
        refine lv_aload_n hx hb dX4_init_86 rfl (lv_at hl 1 rfl) ?_
        refine g_get (ci := 4) (C := RX4) (T := TX4) (M := 8) hx hb hts (by decide +kernel) hown hK hG (by omega) cP_0 rfl 1 (by decide) (hts (.fieldLink RX4 16 "SiloPads" "saved" "[LSiloPads$Yard;") (by decide +kernel)) rfl rfl dX4_init_87 ?_
        refine lv_iload_n hx hb dX4_init_90 rfl (lv_at hl 0 rfl) ?_
        refine g_newN (N0 := 1) (ci := 3) (C := RX3) (T := TX3) (M := 9) (fs := [.null, .null, .null, .int 0, .int 0, .int 0, .int 0, .int 0, .int 0]) hx hb hts (by decide +kernel) tyX3 tyX3_ok hown (hts (.classLink RX4 7 RX3) (by decide +kernel)) (hts (.instantiable RX3 9) (by decide +kernel)) (hts (.initialized RX3) (by decide +kernel)) hK h0 (by omega) hG hS rfl (fun j hj => by rcases (show j = 0 ∨ j = 1 ∨ j = 2 ∨ j = 3 ∨ j = 4 ∨ j = 5 ∨ j = 6 ∨ j = 7 ∨ j = 8 by omega) with rfl | rfl | rfl | rfl | rfl | rfl | rfl | rfl | rfl <;> rfl) (by show _ + 1 ≤ 161; omega) (by show _ + 9 ≤ 1072; omega) dX4_init_91 (fun H hG hS => ?_)
        refine lv_dup hx hb dX4_init_94 rfl ?_
        refine g_init (N0 := 1) hx hb hml hown hts hK hV h0 (by omega) hG hS (i_X3 l D cy base _ (30 + 22 * k) gup_s) (cwI 0 hts gX4_init_X3_init rfl rfl rfl (hts (.initialized RX3) (by decide +kernel)) (hts (.methodLink RX4 9 yX3_init) (by decide +kernel)) (hts (.instanceMethod yX3_init) (by decide +kernel)) rfl (by decide +kernel) ⟨Nat.le_of_ble_eq_true rfl, Nat.le_of_ble_eq_true rfl⟩) hl.1 (Nat.le_of_ble_eq_true rfl) dX4_init_95 ⟨by show _ ≤ 161; omega, by show _ ≤ 1072; omega⟩ (fun H locs hG hS => ?_)
        have hG := hG.to (yW_self (cP_v (p := k) (by omega)))
        refine g_aast (j := 30 + 22 * k) (ci := 3) (f := rr 6 k (g3 (Lb base))) hx hb hK hG hS (by omega) cP_23 (t0 := 3) rfl (by omega) ((cP_n (by omega) (by omega)).trans (cW_vo (p := k) (by omega))) rfl (k := k) rfl (by omega) (by decide) dX4_init_98 (fun H locs hG hS => ?_)
        have hG := hG.to (show gup (cP cy (Lb base) F [.ref (Lb base 1), .ref (Lb base 23), .int 0, .ref (Lb base 24), .int 0, .ref (Lb base 25), .ref (Lb base 26), .ref (Lb base 29)] k) 23 _ = cP cy (Lb base) F [.ref (Lb base 1), .ref (Lb base 23), .int 0, .ref (Lb base 24), .int 0, .ref (Lb base 25), .ref (Lb base 26), .ref (Lb base 29)] (k + 1) from by rw [show va_up (rr 6 k (g3 (Lb base))) k (some (Lb base (30 + 22 * k))) = rr 6 (k + 1) (g3 (Lb base)) from rr_s (by omega)]; exact cP_u23)
        refine lv_iinc (v := nI (k + 1)) (lv' := [(1, .int (nI (k + 1))), (0, .ref (Lb base 0))]) hx hb dX4_init_99 hl (k := 0) rfl (nI_add k 1) (by decide) rfl (fun ls hl => ?_)
        refine lv_goto (tgt := 77) hx hb dX4_init_102 (by decide) ?_
        refine W.widen (k := 29 + 22 * (k + 1)) (n := 238 + 139 * (k + 1)) (by omega) (by omega) (ih (k + 1) (by omega) _ _ _ hl hG hS)
  have hG : GW D 1 (Lb base) (Ab base) (cP cy (Lb base) F [.null, .null, .int 0, .null, .int 0, .null, .null, .null] 0) _ := hG.toN (fun i hi => by
    have q : i = 0 := by omega
    rw [q, cP_0, hF])
  refine lv_aload_n hx hb dX4_init_0 rfl (lv_at hl 0 rfl) ?_
  refine W.objInit hx hb hown (hts (.methodLink RX4 1 objectInit) (by decide +kernel)) (hts (.instanceMethod objectInit) (by decide +kernel)) (hts (.code objectInit ⟨#[0xb1]⟩ 1 none) (by decide +kernel)) rfl (by rw [hml]; exact hl.1) rfl dX4_init_1 (Nat.le_of_ble_eq_true rfl) (Nat.le_of_ble_eq_true rfl) ?_
  refine W.eq (g2 := F0 m 4 ls []) rfl ?_
  refine lv_aload_n hx hb dX4_init_4 rfl (lv_at hl 0 rfl) ?_
  refine g_newN (N0 := 1) (ci := 3) (C := RX3) (T := TX3) (M := 9) (fs := [.null, .null, .null, .int 0, .int 0, .int 0, .int 0, .int 0, .int 0]) hx hb hts (by decide +kernel) tyX3 tyX3_ok hown (hts (.classLink RX4 7 RX3) (by decide +kernel)) (hts (.instantiable RX3 9) (by decide +kernel)) (hts (.initialized RX3) (by decide +kernel)) hK h0 (by omega) hG hS rfl (fun j hj => by rcases (show j = 0 ∨ j = 1 ∨ j = 2 ∨ j = 3 ∨ j = 4 ∨ j = 5 ∨ j = 6 ∨ j = 7 ∨ j = 8 by omega) with rfl | rfl | rfl | rfl | rfl | rfl | rfl | rfl | rfl <;> rfl) (Nat.le_of_ble_eq_true rfl) (Nat.le_of_ble_eq_true rfl) dX4_init_5 (fun H hG hS => ?_)
  refine lv_dup hx hb dX4_init_8 rfl ?_
  refine g_init (N0 := 1) hx hb hml hown hts hK hV h0 (by omega) hG hS (i_X3 l D cy base _ (1) gup_s) (cwI 0 hts gX4_init_X3_init rfl rfl rfl (hts (.initialized RX3) (by decide +kernel)) (hts (.methodLink RX4 9 yX3_init) (by decide +kernel)) (hts (.instanceMethod yX3_init) (by decide +kernel)) rfl (by decide +kernel) ⟨Nat.le_of_ble_eq_true rfl, Nat.le_of_ble_eq_true rfl⟩) hl.1 (Nat.le_of_ble_eq_true rfl) dX4_init_9 ⟨Nat.le_of_ble_eq_true rfl, Nat.le_of_ble_eq_true rfl⟩ (fun H locs hG hS => ?_)
  have hG := hG.to (yW_self cP_y)
  have hG : GW D 23 (Lb base) (Ab base) _ _ := hG
  refine g_putF (ci := 4) (C := RX4) (T := TX4) (M := 8) (ty := .object RX3) hx hb hts (by decide +kernel) tyX4 tyX4_ok nmX4 hown hK hG hS (by omega) cP_0 rfl 0 (by decide) (hts (.fieldLink RX4 10 "SiloPads" "now" "LSiloPads$Yard;") (by decide +kernel)) rfl rfl hin rfl (by decide +kernel) rfl rfl (Nat.le_of_ble_eq_true rfl) dX4_init_12 (fs2 := [.ref (Lb base 1), .null, .int 0, .null, .int 0, .null, .null, .null]) rfl (fun H locs hG hS => ?_)
  have hG := hG.to cP_u0
  refine lv_aload_n hx hb dX4_init_15 rfl (lv_at hl 0 rfl) ?_
  refine lv_bipush (v := 6) hx hb dX4_init_16 (by decide) ?_
  refine g_newR (N0 := 1) (t0 := 3) (f := rr 6 0 (g3 (Lb base))) rr_0 hx hb hown (hts (.classLink RX4 7 RX3) (by decide +kernel)) hV.1.2.2.1 hK rfl h0 (by omega) hG hS (by decide) (by decide +kernel) (by decide) (Nat.le_of_ble_eq_true rfl) (Nat.le_of_ble_eq_true rfl) dX4_init_18 (fun H hG hS => ?_)
  have hG := hG.to cP_u23
  have hG : GW D 24 (Lb base) (Ab base) _ _ := hG
  refine g_putF (ci := 4) (C := RX4) (T := TX4) (M := 8) (ty := .array (.object RX3)) hx hb hts (by decide +kernel) tyX4 tyX4_ok nmX4 hown hK hG hS (by omega) cP_0 rfl 1 (by decide) (hts (.fieldLink RX4 16 "SiloPads" "saved" "[LSiloPads$Yard;") (by decide +kernel)) rfl rfl hin rfl (by decide +kernel) rfl rfl (Nat.le_of_ble_eq_true rfl) dX4_init_21 (fs2 := [.ref (Lb base 1), .ref (Lb base 23), .int 0, .null, .int 0, .null, .null, .null]) rfl (fun H locs hG hS => ?_)
  have hG := hG.to cP_u0
  refine lv_aload_n hx hb dX4_init_24 rfl (lv_at hl 0 rfl) ?_
  refine lv_iconst (v := 0) hx hb dX4_init_25 (by decide) ?_
  refine g_put (ci := 4) (C := RX4) (T := TX4) (M := 8) (ty := .int) hx hb hts (by decide +kernel) tyX4 tyX4_ok nmX4 hown hK hG hS (by omega) cP_0 rfl 2 (by decide) (hts (.fieldLink RX4 20 "SiloPads" "savedStates" "I") (by decide +kernel)) rfl rfl (by decide +kernel) rfl rfl (Nat.le_of_ble_eq_true rfl) dX4_init_26 (fs2 := [.ref (Lb base 1), .ref (Lb base 23), .int 0, .null, .int 0, .null, .null, .null]) rfl (fun H locs hG hS => ?_)
  have hG := hG.to cP_u0
  refine lv_aload_n hx hb dX4_init_29 rfl (lv_at hl 0 rfl) ?_
  refine lv_bipush (v := 60) hx hb dX4_init_30 (by decide) ?_
  refine g_newI (n := 60) (N0 := 1) hx hb (hts (.arrayClass .int) (by decide +kernel)) hK h0 (by omega) hG hS (by decide) (by decide +kernel) (by decide) (Nat.le_of_ble_eq_true rfl) (Nat.le_of_ble_eq_true rfl) dX4_init_32 (fun H hG hS => ?_)
  have hG := hG.to (gup_self cP_b)
  have hG : GW D 25 (Lb base) (Ab base) _ _ := hG
  refine g_putF (ci := 4) (C := RX4) (T := TX4) (M := 8) (ty := .array .int) hx hb hts (by decide +kernel) tyX4 tyX4_ok nmX4 hown hK hG hS (by omega) cP_0 rfl 3 (by decide) (hts (.fieldLink RX4 24 "SiloPads" "codes" "[I") (by decide +kernel)) rfl rfl hin rfl (by decide +kernel) rfl rfl (Nat.le_of_ble_eq_true rfl) dX4_init_34 (fs2 := [.ref (Lb base 1), .ref (Lb base 23), .int 0, .ref (Lb base 24), .int 0, .null, .null, .null]) rfl (fun H locs hG hS => ?_)
  have hG := hG.to cP_u0
  refine lv_aload_n hx hb dX4_init_37 rfl (lv_at hl 0 rfl) ?_
  refine lv_iconst (v := 0) hx hb dX4_init_38 (by decide) ?_
  refine g_put (ci := 4) (C := RX4) (T := TX4) (M := 8) (ty := .int) hx hb hts (by decide +kernel) tyX4 tyX4_ok nmX4 hown hK hG hS (by omega) cP_0 rfl 4 (by decide) (hts (.fieldLink RX4 28 "SiloPads" "length" "I") (by decide +kernel)) rfl rfl (by decide +kernel) rfl rfl (Nat.le_of_ble_eq_true rfl) dX4_init_39 (fs2 := [.ref (Lb base 1), .ref (Lb base 23), .int 0, .ref (Lb base 24), .int 0, .null, .null, .null]) rfl (fun H locs hG hS => ?_)
  have hG := hG.to cP_u0
  refine lv_aload_n hx hb dX4_init_42 rfl (lv_at hl 0 rfl) ?_
  refine g_newN (N0 := 1) (ci := 2) (C := RX2) (T := TX2) (M := 5) (fs := [.int 0, .int 0, .int 0, .int 0, .int 0]) hx hb hts (by decide +kernel) tyX2 tyX2_ok hown (hts (.classLink RX4 31 RX2) (by decide +kernel)) (hts (.instantiable RX2 5) (by decide +kernel)) (hts (.initialized RX2) (by decide +kernel)) hK h0 (by omega) hG hS rfl (fun j hj => by rcases (show j = 0 ∨ j = 1 ∨ j = 2 ∨ j = 3 ∨ j = 4 by omega) with rfl | rfl | rfl | rfl | rfl <;> rfl) (Nat.le_of_ble_eq_true rfl) (Nat.le_of_ble_eq_true rfl) dX4_init_43 (fun H hG hS => ?_)
  refine lv_dup hx hb dX4_init_46 rfl ?_
  refine g_initN (N0 := 1) hx hb hml hown hts hK hV h0 (by omega) hG hS (i_X2 l D cy base _ (25) gup_s) (va_cnB 0 hts gX4_init_X2_init_n33 rfl rfl rfl (hK.2.1.1 (RX4, 33, yX2_init, RX4) (by decide +kernel)) (hts (.initialized RX2) (by decide +kernel)) (by decide +kernel) ⟨Nat.le_of_ble_eq_true rfl, Nat.le_of_ble_eq_true rfl⟩) rfl (hts (.instanceMethod yX2_init) (by decide +kernel)) hl.1 (Nat.le_of_ble_eq_true rfl) dX4_init_47 ⟨Nat.le_of_ble_eq_true rfl, Nat.le_of_ble_eq_true rfl⟩ (fun H locs hG hS => ?_)
  have hG := hG.to (rW_self cP_r)
  have hG : GW D 26 (Lb base) (Ab base) _ _ := hG
  refine g_putF (ci := 4) (C := RX4) (T := TX4) (M := 8) (ty := .object RX2) hx hb hts (by decide +kernel) tyX4 tyX4_ok nmX4 hown hK hG hS (by omega) cP_0 rfl 5 (by decide) (hts (.fieldLink RX4 34 "SiloPads" "reader" "LSiloPads$TextReader;") (by decide +kernel)) rfl rfl hin rfl (by decide +kernel) rfl rfl (Nat.le_of_ble_eq_true rfl) dX4_init_50 (fs2 := [.ref (Lb base 1), .ref (Lb base 23), .int 0, .ref (Lb base 24), .int 0, .ref (Lb base 25), .null, .null]) rfl (fun H locs hG hS => ?_)
  have hG := hG.to cP_u0
  refine lv_aload_n hx hb dX4_init_53 rfl (lv_at hl 0 rfl) ?_
  refine g_newN (N0 := 1) (ci := 1) (C := RX1) (T := TX1) (M := 6) (fs := [.null, .null, .int 0, .int 0, .int 0, .int 0]) hx hb hts (by decide +kernel) tyX1 tyX1_ok hown (hts (.classLink RX4 38 RX1) (by decide +kernel)) (hts (.instantiable RX1 6) (by decide +kernel)) (hts (.initialized RX1) (by decide +kernel)) hK h0 (by omega) hG hS rfl (fun j hj => by rcases (show j = 0 ∨ j = 1 ∨ j = 2 ∨ j = 3 ∨ j = 4 ∨ j = 5 by omega) with rfl | rfl | rfl | rfl | rfl | rfl <;> rfl) (Nat.le_of_ble_eq_true rfl) (Nat.le_of_ble_eq_true rfl) dX4_init_54 (fun H hG hS => ?_)
  refine lv_dup hx hb dX4_init_57 rfl ?_
  refine g_initN (N0 := 1) hx hb hml hown hts hK hV h0 (by omega) hG hS (i_X1 l D cy base _ (26) gup_s) (va_cnB 0 hts gX4_init_X1_init_n40 rfl rfl rfl (hK.2.1.1 (RX4, 40, yX1_init, RX4) (by decide +kernel)) (hts (.initialized RX1) (by decide +kernel)) (by decide +kernel) ⟨Nat.le_of_ble_eq_true rfl, Nat.le_of_ble_eq_true rfl⟩) rfl (hts (.instanceMethod yX1_init) (by decide +kernel)) hl.1 (Nat.le_of_ble_eq_true rfl) dX4_init_58 ⟨Nat.le_of_ble_eq_true rfl, Nat.le_of_ble_eq_true rfl⟩ (fun H locs hG hS => ?_)
  have hG := hG.to (sW_self cP_so cP_st cP_sa)
  have hG : GW D 29 (Lb base) (Ab base) _ _ := hG
  refine g_putF (ci := 4) (C := RX4) (T := TX4) (M := 8) (ty := .object RX1) hx hb hts (by decide +kernel) tyX4 tyX4_ok nmX4 hown hK hG hS (by omega) cP_0 rfl 6 (by decide) (hts (.fieldLink RX4 41 "SiloPads" "trialSilo" "LSiloPads$Silo;") (by decide +kernel)) rfl rfl hin rfl (by decide +kernel) rfl rfl (Nat.le_of_ble_eq_true rfl) dX4_init_61 (fs2 := [.ref (Lb base 1), .ref (Lb base 23), .int 0, .ref (Lb base 24), .int 0, .ref (Lb base 25), .ref (Lb base 26), .null]) rfl (fun H locs hG hS => ?_)
  have hG := hG.to cP_u0
  refine lv_aload_n hx hb dX4_init_64 rfl (lv_at hl 0 rfl) ?_
  refine g_newN (N0 := 1) (ci := 0) (C := RX0) (T := TX0) (M := 2) (fs := [.int 0, .int 0]) hx hb hts (by decide +kernel) tyX0 tyX0_ok hown (hts (.classLink RX4 45 RX0) (by decide +kernel)) (hts (.instantiable RX0 2) (by decide +kernel)) (hts (.initialized RX0) (by decide +kernel)) hK h0 (by omega) hG hS rfl (fun j hj => by rcases (show j = 0 ∨ j = 1 by omega) with rfl | rfl <;> rfl) (Nat.le_of_ble_eq_true rfl) (Nat.le_of_ble_eq_true rfl) dX4_init_65 (fun H hG hS => ?_)
  refine lv_dup hx hb dX4_init_68 rfl ?_
  refine g_initN (N0 := 1) hx hb hml hown hts hK hV h0 (by omega) hG hS (i_X0 l D cy base _ (29) gup_s) (va_cnB 0 hts gX4_init_X0_init_n47 rfl rfl rfl (hK.2.1.1 (RX4, 47, yX0_init, RX4) (by decide +kernel)) (hts (.initialized RX0) (by decide +kernel)) (by decide +kernel) ⟨Nat.le_of_ble_eq_true rfl, Nat.le_of_ble_eq_true rfl⟩) rfl (hts (.instanceMethod yX0_init) (by decide +kernel)) hl.1 (Nat.le_of_ble_eq_true rfl) dX4_init_69 ⟨Nat.le_of_ble_eq_true rfl, Nat.le_of_ble_eq_true rfl⟩ (fun H locs hG hS => ?_)
  have hG := hG.to (hW_self cP_h)
  have hG : GW D 30 (Lb base) (Ab base) _ _ := hG
  refine g_putF (ci := 4) (C := RX4) (T := TX4) (M := 8) (ty := .object RX0) hx hb hts (by decide +kernel) tyX4 tyX4_ok nmX4 hown hK hG hS (by omega) cP_0 rfl 7 (by decide) (hts (.fieldLink RX4 48 "SiloPads" "trialShip" "LSiloPads$Ship;") (by decide +kernel)) rfl rfl hin rfl (by decide +kernel) rfl rfl (Nat.le_of_ble_eq_true rfl) dX4_init_72 (fs2 := [.ref (Lb base 1), .ref (Lb base 23), .int 0, .ref (Lb base 24), .int 0, .ref (Lb base 25), .ref (Lb base 26), .ref (Lb base 29)]) rfl (fun H locs hG hS => ?_)
  have hG := hG.to cP_u0
  refine lv_iconst (v := 0) hx hb dX4_init_75 (by decide) ?_
  refine lv_toN (k := 0) (by decide +kernel) ?_
  refine lv_istore_n (lv' := [(1, .int (nI 0)), (0, .ref (Lb base 0))]) hx hb dX4_init_76 rfl hl (by decide) rfl (fun ls hl => ?_)
  exact loop1 6 0 rfl _ _ _ hl hG hS
