/-! THE CONSTRUCTOR of a yard -/
def y0 : YT := (fun _ => s0, fun _ => h0s, z_first, fun _ => 0)
def g4 (L : Nat → Nat) (b : Nat) : Nat → Nat := fun q => L (b + 4 + 3 * q)
def g6 (L : Nat → Nat) (b : Nat) : Nat → Nat := fun q => L (b + 16 + q)
/-- a yard while it is made: its object's fields, how many silos and ships its rows hold -/
def yP (cy : Nat → ClassId) (L : Nat → Nat) (F : Nat → va_E) (b : Nat) (fs : List Value) (k j : Nat) : Nat → va_E :=
  gup (gup (gup (yW cy L F b y0) (b + 2) (.inl (cy 2, 6, .inr (.inr (.inr (.inr (rr 6 j (g6 L b)))))))) (b + 1) (.inl (cy 1, 4, .inr (.inr (.inr (.inr (rr 4 k (g4 L b)))))))) b (.inr (3, fs))
section CYP
variable {cy : Nat → ClassId} {L : Nat → Nat} {F : Nat → va_E} {b : Nat} {fs fs2 : List Value} {k k2 j j2 : Nat}
theorem yP_b : yP cy L F b fs k j b = .inr (3, fs) := gup_s
theorem yP_1 : yP cy L F b fs k j (b + 1) = .inl (cy 1, 4, .inr (.inr (.inr (.inr (rr 4 k (g4 L b)))))) := (gup_n (by omega)).trans gup_s
theorem yP_2 : yP cy L F b fs k j (b + 2) = .inl (cy 2, 6, .inr (.inr (.inr (.inr (rr 6 j (g6 L b)))))) := (gup_n (by omega)).trans ((gup_n (by omega)).trans gup_s)
theorem yP_n {i : Nat} (h0 : i ≠ b) (h1 : i ≠ b + 1) (h2 : i ≠ b + 2) : yP cy L F b fs k j i = yW cy L F b y0 i := (gup_n h0).trans ((gup_n h1).trans (gup_n h2))
theorem yP_ub : gup (yP cy L F b fs k j) b (.inr (3, fs2)) = yP cy L F b fs2 k j := gup_gup
theorem yP_u1 : gup (yP cy L F b fs k j) (b + 1) (.inl (cy 1, 4, .inr (.inr (.inr (.inr (rr 4 k2 (g4 L b))))))) = yP cy L F b fs k2 j := by
  funext i
  by_cases h1 : i = b + 1
  · rw [h1, gup_s, yP_1]
  · rw [gup_n h1]
    by_cases h0 : i = b
    · rw [h0, yP_b, yP_b]
    · by_cases h2 : i = b + 2
      · rw [h2, yP_2, yP_2]
      · rw [yP_n h0 h1 h2, yP_n h0 h1 h2]
theorem yP_u2 : gup (yP cy L F b fs k j) (b + 2) (.inl (cy 2, 6, .inr (.inr (.inr (.inr (rr 6 j2 (g6 L b))))))) = yP cy L F b fs k j2 := by
  funext i
  by_cases h1 : i = b + 2
  · rw [h1, gup_s, yP_2]
  · rw [gup_n h1]
    by_cases h0 : i = b
    · rw [h0, yP_b, yP_b]
    · by_cases h2 : i = b + 1
      · rw [h2, yP_1, yP_1]
      · rw [yP_n h0 h2 h1, yP_n h0 h2 h1]
theorem yP_end : yP cy L F b [.ref (L (b + 1)), .ref (L (b + 2)), .ref (L (b + 3)), .int 0, .int 0, .int 0, .int 0, .int 0, .int 0] 4 6 = yW cy L F b y0 := by
  funext i
  by_cases h0 : i = b
  · rw [h0, yP_b, yW_o]; rfl
  · by_cases h1 : i = b + 1
    · rw [h1, yP_1, yW_s, rr_n]; rfl
    · by_cases h2 : i = b + 2
      · rw [h2, yP_2, yW_h, rr_n]; rfl
      · rw [yP_n h0 h1 h2]
theorem yP_z : yP cy L F b fs k j (b + 3) = .inl (cy 0, 4, .inl z_first) := (yP_n (by omega) (by omega) (by omega)).trans yW_z
theorem yP_so {q : Nat} (hq : q < 4) : yP cy L F b fs k j (b + 4 + 3 * q) = .inr (1, [.ref (L (b + 4 + 3 * q + 1)), .ref (L (b + 4 + 3 * q + 2)), .int (nI 0), .int 0, .int 0, .int 0]) := (yP_n (by omega) (by omega) (by omega)).trans (yW_so hq)
theorem yP_st {q : Nat} (hq : q < 4) : yP cy L F b fs k j (b + 4 + 3 * q + 1) = .inl (cy 0, 10, .inl (fun _ => 0)) := (yP_n (by omega) (by omega) (by omega)).trans (yW_st hq)
theorem yP_sa {q : Nat} (hq : q < 4) : yP cy L F b fs k j (b + 4 + 3 * q + 2) = .inl (cy 0, 10, .inl (fun _ => 0)) := (yP_n (by omega) (by omega) (by omega)).trans (yW_sa hq)
theorem yP_ho {q : Nat} (hq : q < 6) : yP cy L F b fs k j (b + 16 + q) = .inr (0, [.int 0, .int 500]) := (yP_n (by omega) (by omega) (by omega)).trans (yW_ho hq)
end CYP
set_option maxHeartbeats 4000000 in
set_option maxRecDepth 100000 in
theorem i_X3 (l : Launch) (D : va_G) (cy : Nat → ClassId) (base : Nat) (F : Nat → va_E) (b : Nat) (hF : F b = .inr (3, [.null, .null, .null, .int 0, .int 0, .int 0, .int 0, .int 0, .int 0])) : GC l D cy base b yX3_init wsX3_init ({ frames := 2, cells := 21, slots := 130, locals := 32 }) F ((b + 22)) (yW cy (Lb base) F b y0) 21 130 := by
  refine GC.ofW (cc := cX3_init) (maxL := 2) (by decide) rfl rfl (Nat.le_of_ble_eq_true rfl) ?_
  intro p e s m below meth c ls hx hb hr hts hown hlocks hml hin hK hV h0 hA hG hS hl
  obtain ⟨t, cell, hz, ht1, ht2, ht3, ht4, ht5, ht6⟩ := hV.2.2
  have loop2 : ∀ (n j : Nat), n + j = 6 → ∀ (H : Heap) (locs : List Loc) (ls : Array Slot), lv_has ls 2 [(1, .int (nI j)), (0, .ref (Lb base b))] → GW D (b + 16 + j) (Lb base) (Ab base) (yP cy (Lb base) F b [.ref (Lb base (b + 1)), .ref (Lb base (b + 2)), .ref (Lb base (b + 3)), .int 0, .int 0, .int 0, .int 0, .int 0, .int 0] 4 j) H → va_S (Ab base) s.heap H locs → W p l e (headSpec wsX3_init ({ frames := 2, cells := 21, slots := 130, locals := 32 })).room s m #[Value.ref (Lb base b)] below meth c H locs (15 + j) (118 + 2 * j) (MQ below (gQn D base (b + 22) (yW cy (Lb base) F b y0)) #[Value.ref (Lb base b)] s 21 130 (Ab base)) (F0 m 96 ls []) := by
    intro n
    induction n with
    | zero =>
      intro j hk H locs ls hl hG hS
      refine lv_iload_n hx hb dX3_init_96 rfl (lv_at hl 0 rfl) ?_
      refine lv_aload_n hx hb dX3_init_97 rfl (lv_at hl 1 rfl) ?_
      refine g_get (ci := 3) (C := RX3) (T := TX3) (M := 9) hx hb hts (by decide +kernel) hown hK hG (by omega) yP_b rfl 1 (by decide) (hts (.fieldLink RX3 19 "SiloPads$Yard" "ships" "[LSiloPads$Ship;") (by decide +kernel)) rfl rfl dX3_init_98 ?_
      refine g_alen (t0 := 2) (v := nI 6) hx hb hK hG (by omega) yP_2 rfl rfl dX3_init_101 ?_
      refine lv_icmp_ge (tgt := 124) hx hb dX3_init_102 (by decide) (fun c9 => ?_) (fun c9 => ?_)
      · have e9 : j = 6 := by omega
        subst e9
        exact g_vretN hx hb hr hlocks (hG.to yP_end) hS dX3_init_124
      · exact absurd (nI_le (a := 6) (b := j) (by omega) (by omega)) c9
    | succ n ih =>
      intro j hk H locs ls hl hG hS
      refine lv_iload_n hx hb dX3_init_96 rfl (lv_at hl 0 rfl) ?_
      refine lv_aload_n hx hb dX3_init_97 rfl (lv_at hl 1 rfl) ?_
      refine g_get (ci := 3) (C := RX3) (T := TX3) (M := 9) hx hb hts (by decide +kernel) hown hK hG (by omega) yP_b rfl 1 (by decide) (hts (.fieldLink RX3 19 "SiloPads$Yard" "ships" "[LSiloPads$Ship;") (by decide +kernel)) rfl rfl dX3_init_98 ?_
      refine g_alen (t0 := 2) (v := nI 6) hx hb hK hG (by omega) yP_2 rfl rfl dX3_init_101 ?_
      refine lv_icmp_ge (tgt := 124) hx hb dX3_init_102 (by decide) (fun c9 => ?_) (fun c9 => ?_)
      · exact absurd c9 (nI_ge (a := j) (b := 6) (by omega) (by omega))
      · skip
        refine lv_aload_n hx hb dX3_init_105 rfl (lv_at hl 1 rfl) ?_
        refine g_get (ci := 3) (C := RX3) (T := TX3) (M := 9) hx hb hts (by decide +kernel) hown hK hG (by omega) yP_b rfl 1 (by decide) (hts (.fieldLink RX3 19 "SiloPads$Yard" "ships" "[LSiloPads$Ship;") (by decide +kernel)) rfl rfl dX3_init_106 ?_
        refine lv_iload_n hx hb dX3_init_109 rfl (lv_at hl 0 rfl) ?_
        refine g_newN (N0 := b + 1) (ci := 0) (C := RX0) (T := TX0) (M := 2) (fs := [.int 0, .int 0]) hx hb hts (by decide +kernel) tyX0 tyX0_ok hown (hts (.classLink RX3 17 RX0) (by decide +kernel)) (hts (.instantiable RX0 2) (by decide +kernel)) (hts (.initialized RX0) (by decide +kernel)) hK h0 (by omega) hG hS rfl (fun j hj => by rcases (show j = 0 ∨ j = 1 by omega) with rfl | rfl <;> rfl) (by show _ + 1 ≤ 21; omega) (by show _ + 2 ≤ 130; omega) dX3_init_110 (fun H hG hS => ?_)
        refine lv_dup hx hb dX3_init_113 rfl ?_
        refine g_initN (N0 := b + 1) hx hb hml hown hts hK hV h0 (by omega) hG hS (i_X0 l D cy base _ (b + 16 + j) gup_s) (va_cnB 0 hts gX3_init_X0_init_n55 rfl rfl rfl (hK.2.1.1 (RX3, 55, yX0_init, RX4) (by decide +kernel)) (hts (.initialized RX0) (by decide +kernel)) (by decide +kernel) ⟨Nat.le_of_ble_eq_true rfl, Nat.le_of_ble_eq_true rfl⟩) rfl (hts (.instanceMethod yX0_init) (by decide +kernel)) hl.1 (Nat.le_of_ble_eq_true rfl) dX3_init_114 ⟨by show _ ≤ 21; omega, by show _ ≤ 130; omega⟩ (fun H locs hG hS => ?_)
        have hG := hG.to (hW_self (yP_ho (by omega)))
        refine g_aast (j := b + 16 + j) (ci := 0) (f := rr 6 j (g6 (Lb base) b)) hx hb hK hG hS (by omega) yP_2 (t0 := 2) rfl (by omega) (yP_ho (by omega)) rfl (k := j) rfl (by omega) (by decide) dX3_init_117 (fun H locs hG hS => ?_)
        have hG := hG.to (show gup (yP cy (Lb base) F b [.ref (Lb base (b + 1)), .ref (Lb base (b + 2)), .ref (Lb base (b + 3)), .int 0, .int 0, .int 0, .int 0, .int 0, .int 0] 4 j) (b + 2) _ = yP cy (Lb base) F b [.ref (Lb base (b + 1)), .ref (Lb base (b + 2)), .ref (Lb base (b + 3)), .int 0, .int 0, .int 0, .int 0, .int 0, .int 0] 4 (j + 1) from by rw [show va_up (rr 6 j (g6 (Lb base) b)) j (some (Lb base (b + 16 + j))) = rr 6 (j + 1) (g6 (Lb base) b) from rr_s (by omega)]; exact yP_u2)
        refine lv_iinc (v := nI (j + 1)) (lv' := [(1, .int (nI (j + 1))), (0, .ref (Lb base b))]) hx hb dX3_init_118 hl (k := 0) rfl (nI_add j 1) (by decide) rfl (fun ls hl => ?_)
        refine lv_goto (tgt := 96) hx hb dX3_init_121 (by decide) ?_
        refine W.widen (k := 15 + (j + 1)) (n := 118 + 2 * (j + 1)) (by omega) (by omega) (ih (j + 1) (by omega) _ _ _ hl hG hS)
  have loop1 : ∀ (n k : Nat), n + k = 4 → ∀ (H : Heap) (locs : List Loc) (ls : Array Slot), lv_has ls 2 [(1, .int (nI k)), (0, .ref (Lb base b))] → GW D (b + 4 + 3 * k) (Lb base) (Ab base) (yP cy (Lb base) F b [.ref (Lb base (b + 1)), .ref (Lb base (b + 2)), .ref (Lb base (b + 3)), .int 0, .int 0, .int 0, .int 0, .int 0, .int 0] k 0) H → va_S (Ab base) s.heap H locs → W p l e (headSpec wsX3_init ({ frames := 2, cells := 21, slots := 130, locals := 32 })).room s m #[Value.ref (Lb base b)] below meth c H locs (3 + 3 * k) (14 + 26 * k) (MQ below (gQn D base (b + 22) (yW cy (Lb base) F b y0)) #[Value.ref (Lb base b)] s 21 130 (Ab base)) (F0 m 66 ls []) := by
    intro n
    induction n with
    | zero =>
      intro k hk H locs ls hl hG hS
      refine lv_iload_n hx hb dX3_init_66 rfl (lv_at hl 0 rfl) ?_
      refine lv_aload_n hx hb dX3_init_67 rfl (lv_at hl 1 rfl) ?_
      refine g_get (ci := 3) (C := RX3) (T := TX3) (M := 9) hx hb hts (by decide +kernel) hown hK hG (by omega) yP_b rfl 0 (by decide) (hts (.fieldLink RX3 11 "SiloPads$Yard" "silos" "[LSiloPads$Silo;") (by decide +kernel)) rfl rfl dX3_init_68 ?_
      refine g_alen (t0 := 1) (v := nI 4) hx hb hK hG (by omega) yP_1 rfl rfl dX3_init_71 ?_
      refine lv_icmp_ge (tgt := 94) hx hb dX3_init_72 (by decide) (fun c9 => ?_) (fun c9 => ?_)
      · have e9 : k = 4 := by omega
        subst e9
        refine lv_iconst (v := 0) hx hb dX3_init_94 (by decide) ?_
        refine lv_toN (k := 0) (by decide +kernel) ?_
        refine lv_istore_n (lv' := [(1, .int (nI 0)), (0, .ref (Lb base b))]) hx hb dX3_init_95 rfl hl (by decide) rfl (fun ls hl => ?_)
        exact loop2 6 0 rfl H locs ls hl hG hS
      · exact absurd (nI_le (a := 4) (b := k) (by omega) (by omega)) c9
    | succ n ih =>
      intro k hk H locs ls hl hG hS
      refine lv_iload_n hx hb dX3_init_66 rfl (lv_at hl 0 rfl) ?_
      refine lv_aload_n hx hb dX3_init_67 rfl (lv_at hl 1 rfl) ?_
      refine g_get (ci := 3) (C := RX3) (T := TX3) (M := 9) hx hb hts (by decide +kernel) hown hK hG (by omega) yP_b rfl 0 (by decide) (hts (.fieldLink RX3 11 "SiloPads$Yard" "silos" "[LSiloPads$Silo;") (by decide +kernel)) rfl rfl dX3_init_68 ?_
      refine g_alen (t0 := 1) (v := nI 4) hx hb hK hG (by omega) yP_1 rfl rfl dX3_init_71 ?_
      refine lv_icmp_ge (tgt := 94) hx hb dX3_init_72 (by decide) (fun c9 => ?_) (fun c9 => ?_)
      · exact absurd c9 (nI_ge (a := k) (b := 4) (by omega) (by omega))
      · skip
        refine lv_aload_n hx hb dX3_init_75 rfl (lv_at hl 1 rfl) ?_
        refine g_get (ci := 3) (C := RX3) (T := TX3) (M := 9) hx hb hts (by decide +kernel) hown hK hG (by omega) yP_b rfl 0 (by decide) (hts (.fieldLink RX3 11 "SiloPads$Yard" "silos" "[LSiloPads$Silo;") (by decide +kernel)) rfl rfl dX3_init_76 ?_
        refine lv_iload_n hx hb dX3_init_79 rfl (lv_at hl 0 rfl) ?_
        refine g_newN (N0 := b + 1) (ci := 1) (C := RX1) (T := TX1) (M := 6) (fs := [.null, .null, .int 0, .int 0, .int 0, .int 0]) hx hb hts (by decide +kernel) tyX1 tyX1_ok hown (hts (.classLink RX3 9 RX1) (by decide +kernel)) (hts (.instantiable RX1 6) (by decide +kernel)) (hts (.initialized RX1) (by decide +kernel)) hK h0 (by omega) hG hS rfl (fun j hj => by rcases (show j = 0 ∨ j = 1 ∨ j = 2 ∨ j = 3 ∨ j = 4 ∨ j = 5 by omega) with rfl | rfl | rfl | rfl | rfl | rfl <;> rfl) (by show _ + 1 ≤ 21; omega) (by show _ + 6 ≤ 130; omega) dX3_init_80 (fun H hG hS => ?_)
        refine lv_dup hx hb dX3_init_83 rfl ?_
        refine g_initN (N0 := b + 1) hx hb hml hown hts hK hV h0 (by omega) hG hS (i_X1 l D cy base _ (b + 4 + 3 * k) gup_s) (va_cnB 0 hts gX3_init_X1_init_n54 rfl rfl rfl (hK.2.1.1 (RX3, 54, yX1_init, RX4) (by decide +kernel)) (hts (.initialized RX1) (by decide +kernel)) (by decide +kernel) ⟨Nat.le_of_ble_eq_true rfl, Nat.le_of_ble_eq_true rfl⟩) rfl (hts (.instanceMethod yX1_init) (by decide +kernel)) hl.1 (Nat.le_of_ble_eq_true rfl) dX3_init_84 ⟨by show _ ≤ 21; omega, by show _ ≤ 130; omega⟩ (fun H locs hG hS => ?_)
        have hG := hG.to (sW_self (yP_so (by omega)) (yP_st (by omega)) (yP_sa (by omega)))
        refine g_aast (j := b + 4 + 3 * k) (ci := 1) (f := rr 4 k (g4 (Lb base) b)) hx hb hK hG hS (by omega) yP_1 (t0 := 1) rfl (by omega) (yP_so (by omega)) rfl (k := k) rfl (by omega) (by decide) dX3_init_87 (fun H locs hG hS => ?_)
        have hG := hG.to (show gup (yP cy (Lb base) F b [.ref (Lb base (b + 1)), .ref (Lb base (b + 2)), .ref (Lb base (b + 3)), .int 0, .int 0, .int 0, .int 0, .int 0, .int 0] k 0) (b + 1) _ = yP cy (Lb base) F b [.ref (Lb base (b + 1)), .ref (Lb base (b + 2)), .ref (Lb base (b + 3)), .int 0, .int 0, .int 0, .int 0, .int 0, .int 0] (k + 1) 0 from by rw [show va_up (rr 4 k (g4 (Lb base) b)) k (some (Lb base (b + 4 + 3 * k))) = rr 4 (k + 1) (g4 (Lb base) b) from rr_s (by omega)]; exact yP_u1)
        refine lv_iinc (v := nI (k + 1)) (lv' := [(1, .int (nI (k + 1))), (0, .ref (Lb base b))]) hx hb dX3_init_88 hl (k := 0) rfl (nI_add k 1) (by decide) rfl (fun ls hl => ?_)
        refine lv_goto (tgt := 66) hx hb dX3_init_91 (by decide) ?_
        refine W.widen (k := 3 + 3 * (k + 1)) (n := 14 + 26 * (k + 1)) (by omega) (by omega) (ih (k + 1) (by omega) _ _ _ hl hG hS)
  have hG : GW D (b + 1) (Lb base) (Ab base) (yP cy (Lb base) F b [.null, .null, .null, .int 0, .int 0, .int 0, .int 0, .int 0, .int 0] 0 0) _ := hG.toN (fun i hi => by
    by_cases q : i = b
    · rw [q, yP_b, hF]
    · rw [yP_n q (by omega) (by omega), yW_n (by omega)])
  refine lv_aload_n hx hb dX3_init_0 rfl (lv_at hl 0 rfl) ?_
  refine W.objInit hx hb hown (hts (.methodLink RX3 3 objectInit) (by decide +kernel)) (hts (.instanceMethod objectInit) (by decide +kernel)) (hts (.code objectInit ⟨#[0xb1]⟩ 1 none) (by decide +kernel)) rfl (by rw [hml]; exact hl.1) rfl dX3_init_1 (Nat.le_of_ble_eq_true rfl) (Nat.le_of_ble_eq_true rfl) ?_
  refine W.eq (g2 := F0 m 4 ls []) rfl ?_
  refine lv_aload_n hx hb dX3_init_4 rfl (lv_at hl 0 rfl) ?_
  refine lv_iconst (v := 4) hx hb dX3_init_5 (by decide) ?_
  refine g_newR (N0 := b + 1) (t0 := 1) (f := rr 4 0 (g4 (Lb base) b)) rr_0 hx hb hown (hts (.classLink RX3 9 RX1) (by decide +kernel)) hV.1.1 hK rfl h0 (by omega) hG hS (by decide) (by decide +kernel) (by decide) (Nat.le_of_ble_eq_true rfl) (Nat.le_of_ble_eq_true rfl) dX3_init_6 (fun H hG hS => ?_)
  have hG := hG.to yP_u1
  refine g_putF (ci := 3) (C := RX3) (T := TX3) (M := 9) (ty := .array (.object RX1)) hx hb hts (by decide +kernel) tyX3 tyX3_ok nmX3 hown hK hG hS (by omega) yP_b rfl 0 (by decide) (hts (.fieldLink RX3 11 "SiloPads$Yard" "silos" "[LSiloPads$Silo;") (by decide +kernel)) rfl rfl hin rfl (by decide +kernel) rfl rfl (Nat.le_of_ble_eq_true rfl) dX3_init_9 (fs2 := [.ref (Lb base (b + 1)), .null, .null, .int 0, .int 0, .int 0, .int 0, .int 0, .int 0]) rfl (fun H locs hG hS => ?_)
  have hG := hG.to yP_ub
  refine lv_aload_n hx hb dX3_init_12 rfl (lv_at hl 0 rfl) ?_
  refine lv_bipush (v := 6) hx hb dX3_init_13 (by decide) ?_
  refine g_newR (N0 := b + 1) (t0 := 2) (f := rr 6 0 (g6 (Lb base) b)) rr_0 hx hb hown (hts (.classLink RX3 17 RX0) (by decide +kernel)) hV.1.2.1 hK rfl h0 (by omega) hG hS (by decide) (by decide +kernel) (by decide) (Nat.le_of_ble_eq_true rfl) (Nat.le_of_ble_eq_true rfl) dX3_init_15 (fun H hG hS => ?_)
  have hG := hG.to yP_u2
  refine g_putF (ci := 3) (C := RX3) (T := TX3) (M := 9) (ty := .array (.object RX0)) hx hb hts (by decide +kernel) tyX3 tyX3_ok nmX3 hown hK hG hS (by omega) yP_b rfl 1 (by decide) (hts (.fieldLink RX3 19 "SiloPads$Yard" "ships" "[LSiloPads$Ship;") (by decide +kernel)) rfl rfl hin rfl (by decide +kernel) rfl rfl (Nat.le_of_ble_eq_true rfl) dX3_init_18 (fs2 := [.ref (Lb base (b + 1)), .ref (Lb base (b + 2)), .null, .int 0, .int 0, .int 0, .int 0, .int 0, .int 0]) rfl (fun H locs hG hS => ?_)
  have hG := hG.to yP_ub
  refine lv_aload_n hx hb dX3_init_21 rfl (lv_at hl 0 rfl) ?_
  refine va_getsN (ref := "SiloPads") (host := RX4) hx hb hz hS hown (va_Nw.use rfl hV.1.2.2.2) (fun x h => h) dX3_init_22 ?_
  refine g_clone (N0 := b + 1) hx hb (hml.trans hl.1.symm) hown (hts (.methodLink RX3 27 ⟨"[I", "clone", "()Ljava/lang/Object;"⟩) (by decide +kernel)) (hts (.sameMethod "[I" "java/lang/Object" "clone" "()Ljava/lang/Object;") (by decide +kernel)) (hts (.native ⟨"java/lang/Object", "clone", "()Ljava/lang/Object;"⟩) (by decide +kernel)) (hts (.instanceMethod ⟨"java/lang/Object", "clone", "()Ljava/lang/Object;"⟩) (by decide +kernel)) (hts (.selects "[I" ⟨"[I", "clone", "()Ljava/lang/Object;"⟩ ⟨"java/lang/Object", "clone", "()Ljava/lang/Object;"⟩) (by decide +kernel)) hV.2.1 hK h0 (by omega) hG hS ht1 ht2 ht3 ht4 ht5 ht6 (Nat.le_of_ble_eq_true rfl) (Nat.le_of_ble_eq_true rfl) (Nat.le_of_ble_eq_true rfl) (Nat.le_of_ble_eq_true rfl) dX3_init_25 (fun H hG hS => ?_)
  have hG := hG.to (gup_self yP_z)
  refine g_castA hx hb hown (hts (.classLink RX3 28 "[I") (by decide +kernel)) hK hG (by omega) yP_z dX3_init_28 ?_
  refine g_putF (ci := 3) (C := RX3) (T := TX3) (M := 9) (ty := .array .int) hx hb hts (by decide +kernel) tyX3 tyX3_ok nmX3 hown hK hG hS (by omega) yP_b rfl 2 (by decide) (hts (.fieldLink RX3 32 "SiloPads$Yard" "settings" "[I") (by decide +kernel)) rfl rfl hin rfl (by decide +kernel) rfl rfl (Nat.le_of_ble_eq_true rfl) dX3_init_31 (fs2 := [.ref (Lb base (b + 1)), .ref (Lb base (b + 2)), .ref (Lb base (b + 3)), .int 0, .int 0, .int 0, .int 0, .int 0, .int 0]) rfl (fun H locs hG hS => ?_)
  have hG := hG.to yP_ub
  refine lv_aload_n hx hb dX3_init_34 rfl (lv_at hl 0 rfl) ?_
  refine lv_iconst (v := 0) hx hb dX3_init_35 (by decide) ?_
  refine g_put (ci := 3) (C := RX3) (T := TX3) (M := 9) (ty := .int) hx hb hts (by decide +kernel) tyX3 tyX3_ok nmX3 hown hK hG hS (by omega) yP_b rfl 3 (by decide) (hts (.fieldLink RX3 35 "SiloPads$Yard" "days" "I") (by decide +kernel)) rfl rfl (by decide +kernel) rfl rfl (Nat.le_of_ble_eq_true rfl) dX3_init_36 (fs2 := [.ref (Lb base (b + 1)), .ref (Lb base (b + 2)), .ref (Lb base (b + 3)), .int 0, .int 0, .int 0, .int 0, .int 0, .int 0]) rfl (fun H locs hG hS => ?_)
  have hG := hG.to yP_ub
  refine lv_aload_n hx hb dX3_init_39 rfl (lv_at hl 0 rfl) ?_
  refine lv_iconst (v := 0) hx hb dX3_init_40 (by decide) ?_
  refine g_put (ci := 3) (C := RX3) (T := TX3) (M := 9) (ty := .int) hx hb hts (by decide +kernel) tyX3 tyX3_ok nmX3 hown hK hG hS (by omega) yP_b rfl 4 (by decide) (hts (.fieldLink RX3 39 "SiloPads$Yard" "dust" "I") (by decide +kernel)) rfl rfl (by decide +kernel) rfl rfl (Nat.le_of_ble_eq_true rfl) dX3_init_41 (fs2 := [.ref (Lb base (b + 1)), .ref (Lb base (b + 2)), .ref (Lb base (b + 3)), .int 0, .int 0, .int 0, .int 0, .int 0, .int 0]) rfl (fun H locs hG hS => ?_)
  have hG := hG.to yP_ub
  refine lv_aload_n hx hb dX3_init_44 rfl (lv_at hl 0 rfl) ?_
  refine lv_iconst (v := 0) hx hb dX3_init_45 (by decide) ?_
  refine g_put (ci := 3) (C := RX3) (T := TX3) (M := 9) (ty := .int) hx hb hts (by decide +kernel) tyX3 tyX3_ok nmX3 hown hK hG hS (by omega) yP_b rfl 5 (by decide) (hts (.fieldLink RX3 42 "SiloPads$Yard" "brought" "I") (by decide +kernel)) rfl rfl (by decide +kernel) rfl rfl (Nat.le_of_ble_eq_true rfl) dX3_init_46 (fs2 := [.ref (Lb base (b + 1)), .ref (Lb base (b + 2)), .ref (Lb base (b + 3)), .int 0, .int 0, .int 0, .int 0, .int 0, .int 0]) rfl (fun H locs hG hS => ?_)
  have hG := hG.to yP_ub
  refine lv_aload_n hx hb dX3_init_49 rfl (lv_at hl 0 rfl) ?_
  refine lv_iconst (v := 0) hx hb dX3_init_50 (by decide) ?_
  refine g_put (ci := 3) (C := RX3) (T := TX3) (M := 9) (ty := .int) hx hb hts (by decide +kernel) tyX3 tyX3_ok nmX3 hown hK hG hS (by omega) yP_b rfl 6 (by decide) (hts (.fieldLink RX3 45 "SiloPads$Yard" "gone" "I") (by decide +kernel)) rfl rfl (by decide +kernel) rfl rfl (Nat.le_of_ble_eq_true rfl) dX3_init_51 (fs2 := [.ref (Lb base (b + 1)), .ref (Lb base (b + 2)), .ref (Lb base (b + 3)), .int 0, .int 0, .int 0, .int 0, .int 0, .int 0]) rfl (fun H locs hG hS => ?_)
  have hG := hG.to yP_ub
  refine lv_aload_n hx hb dX3_init_54 rfl (lv_at hl 0 rfl) ?_
  refine lv_iconst (v := 0) hx hb dX3_init_55 (by decide) ?_
  refine g_put (ci := 3) (C := RX3) (T := TX3) (M := 9) (ty := .int) hx hb hts (by decide +kernel) tyX3 tyX3_ok nmX3 hown hK hG hS (by omega) yP_b rfl 7 (by decide) (hts (.fieldLink RX3 48 "SiloPads$Yard" "shakes" "I") (by decide +kernel)) rfl rfl (by decide +kernel) rfl rfl (Nat.le_of_ble_eq_true rfl) dX3_init_56 (fs2 := [.ref (Lb base (b + 1)), .ref (Lb base (b + 2)), .ref (Lb base (b + 3)), .int 0, .int 0, .int 0, .int 0, .int 0, .int 0]) rfl (fun H locs hG hS => ?_)
  have hG := hG.to yP_ub
  refine lv_aload_n hx hb dX3_init_59 rfl (lv_at hl 0 rfl) ?_
  refine lv_iconst (v := 0) hx hb dX3_init_60 (by decide) ?_
  refine g_put (ci := 3) (C := RX3) (T := TX3) (M := 9) (ty := .int) hx hb hts (by decide +kernel) tyX3 tyX3_ok nmX3 hown hK hG hS (by omega) yP_b rfl 8 (by decide) (hts (.fieldLink RX3 51 "SiloPads$Yard" "formed" "I") (by decide +kernel)) rfl rfl (by decide +kernel) rfl rfl (Nat.le_of_ble_eq_true rfl) dX3_init_61 (fs2 := [.ref (Lb base (b + 1)), .ref (Lb base (b + 2)), .ref (Lb base (b + 3)), .int 0, .int 0, .int 0, .int 0, .int 0, .int 0]) rfl (fun H locs hG hS => ?_)
  have hG := hG.to yP_ub
  refine lv_iconst (v := 0) hx hb dX3_init_64 (by decide) ?_
  refine lv_toN (k := 0) (by decide +kernel) ?_
  refine lv_istore_n (lv' := [(1, .int (nI 0)), (0, .ref (Lb base b))]) hx hb dX3_init_65 rfl hl (by decide) rfl (fun ls hl => ?_)
  exact loop1 4 0 rfl _ _ _ hl hG hS
