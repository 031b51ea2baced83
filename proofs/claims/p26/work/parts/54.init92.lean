/-! THE CONSTRUCTORS of the ship, the silo, the reader -/
def s0 : ST := (fun _ => 0, fun _ => 0, 0, 0, 0, 0)
def h0s : HT := (0, 500)
def r0 : RT := (0, 0, 0, 43, 1)
section CSELF
variable {cy : Nat → ClassId} {L : Nat → Nat} {F : Nat → va_E} {b : Nat} {e : va_E}
theorem gup_h {t q : Int32} : gup F b (.inr (0, [.int t, .int q])) = hW F b (t, q) := rfl
theorem gup_r {a b2 c d q : Int32} : gup F b (.inr (2, [.int a, .int b2, .int c, .int d, .int q])) = rW F b (a, b2, c, d, q) := rfl
theorem hW_self {h : HT} (h1 : F b = .inr (0, [.int h.1, .int h.2])) : hW (gup F b e) b h = F := by
  funext i
  unfold hW
  by_cases q : i = b
  · rw [if_pos q, q, h1]
  · rw [if_neg q, gup_n q]
theorem rW_self {r : RT} (h1 : F b = .inr (2, [.int r.1, .int r.2.1, .int r.2.2.1, .int r.2.2.2.1, .int r.2.2.2.2])) : rW (gup F b e) b r = F := by
  funext i
  unfold rW
  by_cases q : i = b
  · rw [if_pos q, q, h1]
  · rw [if_neg q, gup_n q]
theorem sW_self {v : ST} (h1 : F b = .inr (1, [.ref (L (b + 1)), .ref (L (b + 2)), .int (nI v.2.2.1), .int v.2.2.2.1, .int v.2.2.2.2.1, .int v.2.2.2.2.2])) (h2 : F (b + 1) = .inl (cy 0, 10, .inl v.1)) (h3 : F (b + 2) = .inl (cy 0, 10, .inl v.2.1)) : sW cy L (gup F b e) b v = F := by
  funext i
  unfold sW
  by_cases q : i = b
  · rw [if_pos q, q, h1]
  · rw [if_neg q]
    by_cases q2 : i = b + 1
    · rw [if_pos q2, q2, h2]
    · rw [if_neg q2]
      by_cases q3 : i = b + 2
      · rw [if_pos q3, q3, h3]
      · rw [if_neg q3, gup_n q]
theorem yW_self {y : YT} (h : ∀ r, r < 22 → F (b + r) = yCell cy L b y r) : yW cy L (gup F b e) b y = F := by
  funext i
  unfold yW
  by_cases q : i < b ∨ b + 22 ≤ i
  · rw [if_pos q, gup_n (by omega)]
  · rw [if_neg q, ← h (i - b) (by omega), show b + (i - b) = i by omega]
end CSELF
set_option maxHeartbeats 4000000 in
set_option maxRecDepth 100000 in
theorem i_X0 (l : Launch) (D : va_G) (cy : Nat → ClassId) (base : Nat) (F : Nat → va_E) (b : Nat) (hF : F b = .inr (0, [.int 0, .int 0])) : GC l D cy base b yX0_init wsX0_init ({ frames := 1, cells := 0, slots := 0, locals := 12 }) F ((b + 1)) (hW F b h0s) 0 0 := by
  refine GC.ofW (cc := cX0_init) (maxL := 1) (by decide) rfl rfl (Nat.le_of_ble_eq_true rfl) ?_
  intro p e s m below meth c ls hx hb hr hts hown hlocks hml hin hK hV h0 hA hG hS hl
  refine lv_aload_n hx hb dX0_init_0 rfl (lv_at hl 0 rfl) ?_
  refine W.objInit hx hb hown (hts (.methodLink RX0 3 objectInit) (by decide +kernel)) (hts (.instanceMethod objectInit) (by decide +kernel)) (hts (.code objectInit ⟨#[0xb1]⟩ 1 none) (by decide +kernel)) rfl (by rw [hml]; exact hl.1) rfl dX0_init_1 (Nat.le_of_ble_eq_true rfl) (Nat.le_of_ble_eq_true rfl) ?_
  refine W.eq (g2 := F0 m 4 ls []) rfl ?_
  refine lv_aload_n hx hb dX0_init_4 rfl (lv_at hl 0 rfl) ?_
  refine lv_iconst (v := 0) hx hb dX0_init_5 (by decide) ?_
  refine g_put (ci := 0) (C := RX0) (T := TX0) (M := 2) (ty := .int) hx hb hts (by decide +kernel) tyX0 tyX0_ok nmX0 hown hK hG hS (by omega) hF rfl 0 (by decide) (hts (.fieldLink RX0 9 "SiloPads$Ship" "tonnes" "I") (by decide +kernel)) rfl rfl (by decide +kernel) rfl rfl (Nat.le_of_ble_eq_true rfl) dX0_init_6 (fs2 := [.int 0, .int 0]) rfl (fun H locs hG hS => ?_)
  refine lv_aload_n hx hb dX0_init_9 rfl (lv_at hl 0 rfl) ?_
  refine lv_sipush (v := 500) hx hb dX0_init_10 (by decide) ?_
  refine g_put (ci := 0) (C := RX0) (T := TX0) (M := 2) (ty := .int) hx hb hts (by decide +kernel) tyX0 tyX0_ok nmX0 hown hK hG hS (by omega) gup_s rfl 1 (by decide) (hts (.fieldLink RX0 15 "SiloPads$Ship" "hold" "I") (by decide +kernel)) rfl rfl (by decide +kernel) rfl rfl (Nat.le_of_ble_eq_true rfl) dX0_init_13 (fs2 := [.int 0, .int 500]) rfl (fun H locs hG hS => ?_)
  have hG := hG.to gup_gup
  have hG := hG.to gup_h
  exact g_vretN hx hb hr hlocks hG hS dX0_init_16
set_option maxHeartbeats 4000000 in
set_option maxRecDepth 100000 in
theorem i_X2 (l : Launch) (D : va_G) (cy : Nat → ClassId) (base : Nat) (F : Nat → va_E) (b : Nat) (hF : F b = .inr (2, [.int 0, .int 0, .int 0, .int 0, .int 0])) : GC l D cy base b yX2_init wsX2_init ({ frames := 1, cells := 0, slots := 0, locals := 12 }) F ((b + 1)) (rW F b r0) 0 0 := by
  refine GC.ofW (cc := cX2_init) (maxL := 1) (by decide) rfl rfl (Nat.le_of_ble_eq_true rfl) ?_
  intro p e s m below meth c ls hx hb hr hts hown hlocks hml hin hK hV h0 hA hG hS hl
  refine lv_aload_n hx hb dX2_init_0 rfl (lv_at hl 0 rfl) ?_
  refine W.objInit hx hb hown (hts (.methodLink RX2 3 objectInit) (by decide +kernel)) (hts (.instanceMethod objectInit) (by decide +kernel)) (hts (.code objectInit ⟨#[0xb1]⟩ 1 none) (by decide +kernel)) rfl (by rw [hml]; exact hl.1) rfl dX2_init_1 (Nat.le_of_ble_eq_true rfl) (Nat.le_of_ble_eq_true rfl) ?_
  refine W.eq (g2 := F0 m 4 ls []) rfl ?_
  refine lv_aload_n hx hb dX2_init_4 rfl (lv_at hl 0 rfl) ?_
  refine lv_iconst (v := 0) hx hb dX2_init_5 (by decide) ?_
  refine g_put (ci := 2) (C := RX2) (T := TX2) (M := 5) (ty := .int) hx hb hts (by decide +kernel) tyX2 tyX2_ok nmX2 hown hK hG hS (by omega) hF rfl 0 (by decide) (hts (.fieldLink RX2 11 "SiloPads$TextReader" "place" "I") (by decide +kernel)) rfl rfl (by decide +kernel) rfl rfl (Nat.le_of_ble_eq_true rfl) dX2_init_6 (fs2 := [.int 0, .int 0, .int 0, .int 0, .int 0]) rfl (fun H locs hG hS => ?_)
  refine lv_aload_n hx hb dX2_init_9 rfl (lv_at hl 0 rfl) ?_
  refine lv_iconst (v := 0) hx hb dX2_init_10 (by decide) ?_
  refine g_put (ci := 2) (C := RX2) (T := TX2) (M := 5) (ty := .int) hx hb hts (by decide +kernel) tyX2 tyX2_ok nmX2 hown hK hG hS (by omega) gup_s rfl 1 (by decide) (hts (.fieldLink RX2 15 "SiloPads$TextReader" "silo" "I") (by decide +kernel)) rfl rfl (by decide +kernel) rfl rfl (Nat.le_of_ble_eq_true rfl) dX2_init_11 (fs2 := [.int 0, .int 0, .int 0, .int 0, .int 0]) rfl (fun H locs hG hS => ?_)
  have hG := hG.to gup_gup
  refine lv_aload_n hx hb dX2_init_14 rfl (lv_at hl 0 rfl) ?_
  refine lv_iconst (v := 0) hx hb dX2_init_15 (by decide) ?_
  refine g_put (ci := 2) (C := RX2) (T := TX2) (M := 5) (ty := .int) hx hb hts (by decide +kernel) tyX2 tyX2_ok nmX2 hown hK hG hS (by omega) gup_s rfl 2 (by decide) (hts (.fieldLink RX2 18 "SiloPads$TextReader" "ship" "I") (by decide +kernel)) rfl rfl (by decide +kernel) rfl rfl (Nat.le_of_ble_eq_true rfl) dX2_init_16 (fs2 := [.int 0, .int 0, .int 0, .int 0, .int 0]) rfl (fun H locs hG hS => ?_)
  have hG := hG.to gup_gup
  refine lv_aload_n hx hb dX2_init_19 rfl (lv_at hl 0 rfl) ?_
  refine lv_bipush (v := 43) hx hb dX2_init_20 (by decide) ?_
  refine g_put (ci := 2) (C := RX2) (T := TX2) (M := 5) (ty := .int) hx hb hts (by decide +kernel) tyX2 tyX2_ok nmX2 hown hK hG hS (by omega) gup_s rfl 3 (by decide) (hts (.fieldLink RX2 21 "SiloPads$TextReader" "kind" "I") (by decide +kernel)) rfl rfl (by decide +kernel) rfl rfl (Nat.le_of_ble_eq_true rfl) dX2_init_22 (fs2 := [.int 0, .int 0, .int 0, .int 43, .int 0]) rfl (fun H locs hG hS => ?_)
  have hG := hG.to gup_gup
  refine lv_aload_n hx hb dX2_init_25 rfl (lv_at hl 0 rfl) ?_
  refine lv_iconst (v := 1) hx hb dX2_init_26 (by decide) ?_
  refine g_put (ci := 2) (C := RX2) (T := TX2) (M := 5) (ty := .int) hx hb hts (by decide +kernel) tyX2 tyX2_ok nmX2 hown hK hG hS (by omega) gup_s rfl 4 (by decide) (hts (.fieldLink RX2 24 "SiloPads$TextReader" "number" "I") (by decide +kernel)) rfl rfl (by decide +kernel) rfl rfl (Nat.le_of_ble_eq_true rfl) dX2_init_27 (fs2 := [.int 0, .int 0, .int 0, .int 43, .int 1]) rfl (fun H locs hG hS => ?_)
  have hG := hG.to gup_gup
  have hG := hG.to gup_r
  exact g_vretN hx hb hr hlocks hG hS dX2_init_30
set_option maxHeartbeats 4000000 in
set_option maxRecDepth 100000 in
theorem i_X1 (l : Launch) (D : va_G) (cy : Nat → ClassId) (base : Nat) (F : Nat → va_E) (b : Nat) (hF : F b = .inr (1, [.null, .null, .int 0, .int 0, .int 0, .int 0])) : GC l D cy base b yX1_init wsX1_init ({ frames := 1, cells := 2, slots := 20, locals := 12 }) F ((b + 3)) (sW cy (Lb base) F b s0) 2 20 := by
  refine GC.ofW (cc := cX1_init) (maxL := 1) (by decide) rfl rfl (Nat.le_of_ble_eq_true rfl) ?_
  intro p e s m below meth c ls hx hb hr hts hown hlocks hml hin hK hV h0 hA hG hS hl
  have hG : GW D (b + 1) (Lb base) (Ab base) (gup (sW cy (Lb base) F b s0) b (.inr (1, [.null, .null, .int 0, .int 0, .int 0, .int 0]))) _ := hG.toN (fun i hi => by
    by_cases q : i = b
    · rw [q, gup_s, hF]
    · rw [gup_n q, sW_n (by omega)])
  refine lv_aload_n hx hb dX1_init_0 rfl (lv_at hl 0 rfl) ?_
  refine W.objInit hx hb hown (hts (.methodLink RX1 3 objectInit) (by decide +kernel)) (hts (.instanceMethod objectInit) (by decide +kernel)) (hts (.code objectInit ⟨#[0xb1]⟩ 1 none) (by decide +kernel)) rfl (by rw [hml]; exact hl.1) rfl dX1_init_1 (Nat.le_of_ble_eq_true rfl) (Nat.le_of_ble_eq_true rfl) ?_
  refine W.eq (g2 := F0 m 4 ls []) rfl ?_
  refine lv_aload_n hx hb dX1_init_4 rfl (lv_at hl 0 rfl) ?_
  refine lv_bipush (v := 10) hx hb dX1_init_5 (by decide) ?_
  refine g_newI (n := 10) (N0 := b + 1) hx hb (hts (.arrayClass .int) (by decide +kernel)) hK h0 (by omega) hG hS (by decide) (by decide +kernel) (by decide) (Nat.le_of_ble_eq_true rfl) (Nat.le_of_ble_eq_true rfl) dX1_init_7 (fun H hG hS => ?_)
  have hG := hG.to (gup_self ((gup_n (by omega)).trans sW_t))
  refine g_putF (ci := 1) (C := RX1) (T := TX1) (M := 6) (ty := .array .int) hx hb hts (by decide +kernel) tyX1 tyX1_ok nmX1 hown hK hG hS (by omega) gup_s rfl 0 (by decide) (hts (.fieldLink RX1 9 "SiloPads$Silo" "tonnes" "[I") (by decide +kernel)) rfl rfl hin rfl (by decide +kernel) rfl rfl (Nat.le_of_ble_eq_true rfl) dX1_init_9 (fs2 := [.ref (Lb base (b + 1)), .null, .int 0, .int 0, .int 0, .int 0]) rfl (fun H locs hG hS => ?_)
  have hG := hG.to gup_gup
  refine lv_aload_n hx hb dX1_init_12 rfl (lv_at hl 0 rfl) ?_
  refine lv_bipush (v := 10) hx hb dX1_init_13 (by decide) ?_
  refine g_newI (n := 10) (N0 := b + 1) hx hb (hts (.arrayClass .int) (by decide +kernel)) hK h0 (by omega) hG hS (by decide) (by decide +kernel) (by decide) (Nat.le_of_ble_eq_true rfl) (Nat.le_of_ble_eq_true rfl) dX1_init_15 (fun H hG hS => ?_)
  have hG := hG.to (gup_self ((gup_n (by omega)).trans sW_a))
  refine g_putF (ci := 1) (C := RX1) (T := TX1) (M := 6) (ty := .array .int) hx hb hts (by decide +kernel) tyX1 tyX1_ok nmX1 hown hK hG hS (by omega) gup_s rfl 1 (by decide) (hts (.fieldLink RX1 15 "SiloPads$Silo" "ages" "[I") (by decide +kernel)) rfl rfl hin rfl (by decide +kernel) rfl rfl (Nat.le_of_ble_eq_true rfl) dX1_init_17 (fs2 := [.ref (Lb base (b + 1)), .ref (Lb base (b + 2)), .int 0, .int 0, .int 0, .int 0]) rfl (fun H locs hG hS => ?_)
  have hG := hG.to gup_gup
  refine lv_aload_n hx hb dX1_init_20 rfl (lv_at hl 0 rfl) ?_
  refine lv_iconst (v := 0) hx hb dX1_init_21 (by decide) ?_
  refine g_put (ci := 1) (C := RX1) (T := TX1) (M := 6) (ty := .int) hx hb hts (by decide +kernel) tyX1 tyX1_ok nmX1 hown hK hG hS (by omega) gup_s rfl 2 (by decide) (hts (.fieldLink RX1 18 "SiloPads$Silo" "layers" "I") (by decide +kernel)) rfl rfl (by decide +kernel) rfl rfl (Nat.le_of_ble_eq_true rfl) dX1_init_22 (fs2 := [.ref (Lb base (b + 1)), .ref (Lb base (b + 2)), .int 0, .int 0, .int 0, .int 0]) rfl (fun H locs hG hS => ?_)
  have hG := hG.to gup_gup
  refine lv_aload_n hx hb dX1_init_25 rfl (lv_at hl 0 rfl) ?_
  refine lv_iconst (v := 0) hx hb dX1_init_26 (by decide) ?_
  refine g_put (ci := 1) (C := RX1) (T := TX1) (M := 6) (ty := .int) hx hb hts (by decide +kernel) tyX1 tyX1_ok nmX1 hown hK hG hS (by omega) gup_s rfl 3 (by decide) (hts (.fieldLink RX1 22 "SiloPads$Silo" "padsOn" "I") (by decide +kernel)) rfl rfl (by decide +kernel) rfl rfl (Nat.le_of_ble_eq_true rfl) dX1_init_27 (fs2 := [.ref (Lb base (b + 1)), .ref (Lb base (b + 2)), .int 0, .int 0, .int 0, .int 0]) rfl (fun H locs hG hS => ?_)
  have hG := hG.to gup_gup
  refine lv_aload_n hx hb dX1_init_30 rfl (lv_at hl 0 rfl) ?_
  refine lv_iconst (v := 0) hx hb dX1_init_31 (by decide) ?_
  refine g_put (ci := 1) (C := RX1) (T := TX1) (M := 6) (ty := .int) hx hb hts (by decide +kernel) tyX1 tyX1_ok nmX1 hown hK hG hS (by omega) gup_s rfl 4 (by decide) (hts (.fieldLink RX1 25 "SiloPads$Silo" "arch" "I") (by decide +kernel)) rfl rfl (by decide +kernel) rfl rfl (Nat.le_of_ble_eq_true rfl) dX1_init_32 (fs2 := [.ref (Lb base (b + 1)), .ref (Lb base (b + 2)), .int 0, .int 0, .int 0, .int 0]) rfl (fun H locs hG hS => ?_)
  have hG := hG.to gup_gup
  refine lv_aload_n hx hb dX1_init_35 rfl (lv_at hl 0 rfl) ?_
  refine lv_iconst (v := 0) hx hb dX1_init_36 (by decide) ?_
  refine g_put (ci := 1) (C := RX1) (T := TX1) (M := 6) (ty := .int) hx hb hts (by decide +kernel) tyX1 tyX1_ok nmX1 hown hK hG hS (by omega) gup_s rfl 5 (by decide) (hts (.fieldLink RX1 28 "SiloPads$Silo" "shakes" "I") (by decide +kernel)) rfl rfl (by decide +kernel) rfl rfl (Nat.le_of_ble_eq_true rfl) dX1_init_37 (fs2 := [.ref (Lb base (b + 1)), .ref (Lb base (b + 2)), .int 0, .int 0, .int 0, .int 0]) rfl (fun H locs hG hS => ?_)
  have hG := hG.to gup_gup
  have hG := hG.to (gup_self sW_o)
  exact g_vretN hx hb hr hlocks hG hS dX1_init_40
