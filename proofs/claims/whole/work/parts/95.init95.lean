/-! THE CONSTRUCTOR of the reference -/
def sI : Nat → Nat → Int32
  | 0 => upd (upd (upd (upd (fun _ => 0) 6 6) 7 3) 8 20) 9 200
  | k + 1 => upd (sI k) (106 + 2 * k + 1) 500
def m0M : MT := (0, sI 6, fun _ => 0, fun _ => 0, 0, fun _ => 0, 0, 0, 0, fun _ => 0, 0, 0)
def mV (cy : Nat → ClassId) (L : Nat → Nat) (F : Nat → va_E) (ms : Nat → Int32) : Nat → va_E := mW cy L F 0 ms (fun _ => 0) (fun _ => 0) 0 (fun _ => 0) 0 0 0 (fun _ => 0) 0 0
theorem mV_o {cy : Nat → ClassId} {L : Nat → Nat} {F : Nat → va_E} {ms : Nat → Int32} : mV cy L F ms 162 = .inr (5, [.int 0, .ref (L 163), .ref (L 164), .ref (L 165), .int 0, .ref (L 166), .int 0, .int 0, .int 0, .ref (L 167), .int 0, .long 0]) := mW_o
set_option maxHeartbeats 4000000 in
set_option maxRecDepth 100000 in
theorem i_X5 (l : Launch) (D : va_G) (cy : Nat → ClassId) (base : Nat) (F : Nat → va_E) (hF : F 162 = .inr (5, [.int 0, .null, .null, .null, .int 0, .null, .int 0, .int 0, .int 0, .null, .int 0, .long 0])) : GC l D cy base 162 yX5_init wsX5_init ({ frames := 1, cells := 5, slots := 1092, locals := 12 }) F (168) (mV cy (Lb base) F (sI 6)) 5 1092 := by
  refine GC.ofW (cc := cX5_init) (maxL := 2) (by decide) rfl rfl (Nat.le_of_ble_eq_true rfl) ?_
  intro p e s m below meth c ls hx hb hr hts hown hlocks hml hin hK hV h0 hA hG hS hl
  have loop1 : ∀ (n k : Nat), n + k = 6 → ∀ (H : Heap) (locs : List Loc) (ls : Array Slot), lv_has ls 2 [(1, .int (nI k)), (0, .ref (Lb base 162))] → GW D 168 (Lb base) (Ab base) (mV cy (Lb base) F (sI k)) H → va_S (Ab base) s.heap H locs → W p l e (headSpec wsX5_init ({ frames := 1, cells := 5, slots := 1092, locals := 12 })).room s m #[Value.ref (Lb base 162)] below meth c H locs 5 1092 (MQ below (gQn D base 168 (mV cy (Lb base) F (sI 6))) #[Value.ref (Lb base 162)] s 5 1092 (Ab base)) (F0 m 88 ls []) := by
    intro n
    induction n with
    | zero =>
      intro k hk H locs ls hl hG hS
      refine lv_iload_n hx hb dX5_init_88 rfl (lv_at hl 0 rfl) ?_
      refine lv_bipush (v := 6) hx hb dX5_init_89 (by decide) ?_
      refine lv_toN (k := 6) (by decide +kernel) ?_
      refine lv_icmp_ge (tgt := 116) hx hb dX5_init_91 (by decide) (fun c9 => ?_) (fun c9 => ?_)
      · have e9 : k = 6 := by omega
        subst e9
        exact g_vretN hx hb hr hlocks hG hS dX5_init_116
      · exact absurd (nI_le (a := 6) (b := k) (by omega) (by omega)) c9
    | succ n ih =>
      intro k hk H locs ls hl hG hS
      refine lv_iload_n hx hb dX5_init_88 rfl (lv_at hl 0 rfl) ?_
      refine lv_bipush (v := 6) hx hb dX5_init_89 (by decide) ?_
      refine lv_toN (k := 6) (by decide +kernel) ?_
      refine lv_icmp_ge (tgt := 116) hx hb dX5_init_91 (by decide) (fun c9 => ?_) (fun c9 => ?_)
      · exact absurd c9 (nI_ge (a := k) (b := 6) (by omega) (by omega))
      · skip
        refine lv_aload_n hx hb dX5_init_94 rfl (lv_at hl 1 rfl) ?_
        refine g_get (ci := 5) (C := RX5) (T := TX5) (M := 12) hx hb hts (by decide +kernel) hown hK hG (by omega) mV_o rfl 1 (by decide) (hts (.fieldLink RX5 7 "SiloPadsModel" "s" "[I") (by decide +kernel)) rfl rfl dX5_init_95 ?_
        refine lv_bipush (v := 106) hx hb dX5_init_98 (by decide) ?_
        refine lv_iconst (v := 2) hx hb dX5_init_100 (by decide) ?_
        refine lv_iload_n hx hb dX5_init_101 rfl (lv_at hl 0 rfl) ?_
        refine lv_imul hx hb dX5_init_102 ?_
        refine lv_toN (k := 2 * k) (pk_mul 2 k) ?_
        refine lv_iadd hx hb dX5_init_103 ?_
        refine lv_toN (k := 106 + 2 * k) (nI_add 106 (2 * k)) ?_
        refine lv_iconst (v := 1) hx hb dX5_init_104 (by decide) ?_
        refine lv_iadd hx hb dX5_init_105 ?_
        refine lv_toN (k := 106 + 2 * k + 1) (nI_add (106 + 2 * k) 1) ?_
        refine lv_sipush (v := 500) hx hb dX5_init_106 (by decide) ?_
        refine g_iast hx hb hK hG hS (i := 163) (by omega) mW_a163 (k := 106 + 2 * k + 1) rfl (by omega) (by decide) dX5_init_109 (fun H locs hG hS => ?_)
        have hG : GW D 168 (Lb base) (Ab base) (mV cy (Lb base) F (sI (k + 1))) _ := hG.to mW_us
        refine lv_iinc (v := nI (k + 1)) (lv' := [(1, .int (nI (k + 1))), (0, .ref (Lb base 162))]) hx hb dX5_init_110 hl (k := 0) rfl (nI_add k 1) (by decide) rfl (fun ls hl => ?_)
        refine lv_goto (tgt := 88) hx hb dX5_init_113 (by decide) ?_
        exact ih (k + 1) (by omega) _ _ _ hl hG hS
  have hG : GW D 163 (Lb base) (Ab base) (gup (mV cy (Lb base) F (fun _ => 0)) 162 (.inr (5, [.int 0, .null, .null, .null, .int 0, .null, .int 0, .int 0, .int 0, .null, .int 0, .long 0]))) _ := hG.toN (fun i hi => by
    by_cases q : i = 162
    · rw [q, gup_s, hF]
    · rw [gup_n q]; unfold mV mW; rw [if_neg (by omega), if_neg (by omega), if_neg (by omega), if_neg (by omega), if_neg (by omega), if_neg (by omega)])
  refine lv_aload_n hx hb dX5_init_0 rfl (lv_at hl 0 rfl) ?_
  refine W.objInit hx hb hown (hts (.methodLink RX5 1 objectInit) (by decide +kernel)) (hts (.instanceMethod objectInit) (by decide +kernel)) (hts (.code objectInit ⟨#[0xb1]⟩ 1 none) (by decide +kernel)) rfl (by rw [hml]; exact hl.1) rfl dX5_init_1 (Nat.le_of_ble_eq_true rfl) (Nat.le_of_ble_eq_true rfl) ?_
  refine W.eq (g2 := F0 m 4 ls []) rfl ?_
  refine lv_aload_n hx hb dX5_init_4 rfl (lv_at hl 0 rfl) ?_
  refine lv_bipush (v := 118) hx hb dX5_init_5 (by decide) ?_
  refine g_newI (n := 118) (N0 := 163) hx hb (hts (.arrayClass .int) (by decide +kernel)) hK h0 (by omega) hG hS (by decide) (by decide +kernel) (by decide) (Nat.le_of_ble_eq_true rfl) (Nat.le_of_ble_eq_true rfl) dX5_init_7 (fun H hG hS => ?_)
  have hG := hG.to (gup_self ((gup_n (by omega)).trans mW_a163))
  have hG : GW D 164 (Lb base) (Ab base) _ _ := hG
  refine g_putF (ci := 5) (C := RX5) (T := TX5) (M := 12) (ty := .array .int) hx hb hts (by decide +kernel) tyX5 tyX5_ok nmX5 hown hK hG hS (by omega) gup_s rfl 1 (by decide) (hts (.fieldLink RX5 7 "SiloPadsModel" "s" "[I") (by decide +kernel)) rfl rfl hin rfl (by decide +kernel) rfl rfl (Nat.le_of_ble_eq_true rfl) dX5_init_9 (fs2 := [.int 0, .ref (Lb base 163), .null, .null, .int 0, .null, .int 0, .int 0, .int 0, .null, .int 0, .long 0]) rfl (fun H locs hG hS => ?_)
  have hG := hG.to gup_gup
  refine lv_aload_n hx hb dX5_init_12 rfl (lv_at hl 0 rfl) ?_
  refine lv_bipush (v := 118) hx hb dX5_init_13 (by decide) ?_
  refine g_newI (n := 118) (N0 := 163) hx hb (hts (.arrayClass .int) (by decide +kernel)) hK h0 (by omega) hG hS (by decide) (by decide +kernel) (by decide) (Nat.le_of_ble_eq_true rfl) (Nat.le_of_ble_eq_true rfl) dX5_init_15 (fun H hG hS => ?_)
  have hG := hG.to (gup_self ((gup_n (by omega)).trans mW_a164))
  have hG : GW D 165 (Lb base) (Ab base) _ _ := hG
  refine g_putF (ci := 5) (C := RX5) (T := TX5) (M := 12) (ty := .array .int) hx hb hts (by decide +kernel) tyX5 tyX5_ok nmX5 hown hK hG hS (by omega) gup_s rfl 2 (by decide) (hts (.fieldLink RX5 13 "SiloPadsModel" "aside" "[I") (by decide +kernel)) rfl rfl hin rfl (by decide +kernel) rfl rfl (Nat.le_of_ble_eq_true rfl) dX5_init_17 (fs2 := [.int 0, .ref (Lb base 163), .ref (Lb base 164), .null, .int 0, .null, .int 0, .int 0, .int 0, .null, .int 0, .long 0]) rfl (fun H locs hG hS => ?_)
  have hG := hG.to gup_gup
  refine lv_aload_n hx hb dX5_init_20 rfl (lv_at hl 0 rfl) ?_
  refine lv_sipush (v := 708) hx hb dX5_init_21 (by decide) ?_
  refine g_newI (n := 708) (N0 := 163) hx hb (hts (.arrayClass .int) (by decide +kernel)) hK h0 (by omega) hG hS (by decide) (by decide +kernel) (by decide) (Nat.le_of_ble_eq_true rfl) (Nat.le_of_ble_eq_true rfl) dX5_init_24 (fun H hG hS => ?_)
  have hG := hG.to (gup_self ((gup_n (by omega)).trans mW_a165))
  have hG : GW D 166 (Lb base) (Ab base) _ _ := hG
  refine g_putF (ci := 5) (C := RX5) (T := TX5) (M := 12) (ty := .array .int) hx hb hts (by decide +kernel) tyX5 tyX5_ok nmX5 hown hK hG hS (by omega) gup_s rfl 3 (by decide) (hts (.fieldLink RX5 16 "SiloPadsModel" "saved" "[I") (by decide +kernel)) rfl rfl hin rfl (by decide +kernel) rfl rfl (Nat.le_of_ble_eq_true rfl) dX5_init_26 (fs2 := [.int 0, .ref (Lb base 163), .ref (Lb base 164), .ref (Lb base 165), .int 0, .null, .int 0, .int 0, .int 0, .null, .int 0, .long 0]) rfl (fun H locs hG hS => ?_)
  have hG := hG.to gup_gup
  refine lv_aload_n hx hb dX5_init_29 rfl (lv_at hl 0 rfl) ?_
  refine lv_bipush (v := 60) hx hb dX5_init_30 (by decide) ?_
  refine g_newI (n := 60) (N0 := 163) hx hb (hts (.arrayClass .int) (by decide +kernel)) hK h0 (by omega) hG hS (by decide) (by decide +kernel) (by decide) (Nat.le_of_ble_eq_true rfl) (Nat.le_of_ble_eq_true rfl) dX5_init_32 (fun H hG hS => ?_)
  have hG := hG.to (gup_self ((gup_n (by omega)).trans mW_a166))
  have hG : GW D 167 (Lb base) (Ab base) _ _ := hG
  refine g_putF (ci := 5) (C := RX5) (T := TX5) (M := 12) (ty := .array .int) hx hb hts (by decide +kernel) tyX5 tyX5_ok nmX5 hown hK hG hS (by omega) gup_s rfl 5 (by decide) (hts (.fieldLink RX5 19 "SiloPadsModel" "buffer" "[I") (by decide +kernel)) rfl rfl hin rfl (by decide +kernel) rfl rfl (Nat.le_of_ble_eq_true rfl) dX5_init_34 (fs2 := [.int 0, .ref (Lb base 163), .ref (Lb base 164), .ref (Lb base 165), .int 0, .ref (Lb base 166), .int 0, .int 0, .int 0, .null, .int 0, .long 0]) rfl (fun H locs hG hS => ?_)
  have hG := hG.to gup_gup
  refine lv_aload_n hx hb dX5_init_37 rfl (lv_at hl 0 rfl) ?_
  refine lv_bipush (v := 88) hx hb dX5_init_38 (by decide) ?_
  refine g_newI (n := 88) (N0 := 163) hx hb (hts (.arrayClass .int) (by decide +kernel)) hK h0 (by omega) hG hS (by decide) (by decide +kernel) (by decide) (Nat.le_of_ble_eq_true rfl) (Nat.le_of_ble_eq_true rfl) dX5_init_40 (fun H hG hS => ?_)
  have hG := hG.to (gup_self ((gup_n (by omega)).trans mW_a167))
  have hG : GW D 168 (Lb base) (Ab base) _ _ := hG
  refine g_putF (ci := 5) (C := RX5) (T := TX5) (M := 12) (ty := .array .int) hx hb hts (by decide +kernel) tyX5 tyX5_ok nmX5 hown hK hG hS (by omega) gup_s rfl 9 (by decide) (hts (.fieldLink RX5 22 "SiloPadsModel" "read" "[I") (by decide +kernel)) rfl rfl hin rfl (by decide +kernel) rfl rfl (Nat.le_of_ble_eq_true rfl) dX5_init_42 (fs2 := [.int 0, .ref (Lb base 163), .ref (Lb base 164), .ref (Lb base 165), .int 0, .ref (Lb base 166), .int 0, .int 0, .int 0, .ref (Lb base 167), .int 0, .long 0]) rfl (fun H locs hG hS => ?_)
  have hG := hG.to gup_gup
  refine lv_aload_n hx hb dX5_init_45 rfl (lv_at hl 0 rfl) ?_
  refine lv_iconst (v := 0) hx hb dX5_init_46 (by decide) ?_
  refine g_put (ci := 5) (C := RX5) (T := TX5) (M := 12) (ty := .int) hx hb hts (by decide +kernel) tyX5 tyX5_ok nmX5 hown hK hG hS (by omega) gup_s rfl 0 (by decide) (hts (.fieldLink RX5 25 "SiloPadsModel" "thrown" "I") (by decide +kernel)) rfl rfl (by decide +kernel) rfl rfl (Nat.le_of_ble_eq_true rfl) dX5_init_47 (fs2 := [.int 0, .ref (Lb base 163), .ref (Lb base 164), .ref (Lb base 165), .int 0, .ref (Lb base 166), .int 0, .int 0, .int 0, .ref (Lb base 167), .int 0, .long 0]) rfl (fun H locs hG hS => ?_)
  have hG := hG.to gup_gup
  have hG := hG.to (gup_self mV_o)
  refine lv_aload_n hx hb dX5_init_50 rfl (lv_at hl 0 rfl) ?_
  refine g_get (ci := 5) (C := RX5) (T := TX5) (M := 12) hx hb hts (by decide +kernel) hown hK hG (by omega) mV_o rfl 1 (by decide) (hts (.fieldLink RX5 7 "SiloPadsModel" "s" "[I") (by decide +kernel)) rfl rfl dX5_init_51 ?_
  refine lv_bipush (v := 6) hx hb dX5_init_54 (by decide) ?_
  refine lv_bipush (v := 6) hx hb dX5_init_56 (by decide) ?_
  refine g_iast hx hb hK hG hS (i := 163) (by omega) mW_a163 (k := 6) (by decide +kernel) (by omega) (by decide) dX5_init_58 (fun H locs hG hS => ?_)
  have hG : GW D 168 (Lb base) (Ab base) (mV cy (Lb base) F (upd (fun _ => 0) 6 6)) _ := hG.to mW_us
  refine lv_aload_n hx hb dX5_init_59 rfl (lv_at hl 0 rfl) ?_
  refine g_get (ci := 5) (C := RX5) (T := TX5) (M := 12) hx hb hts (by decide +kernel) hown hK hG (by omega) mV_o rfl 1 (by decide) (hts (.fieldLink RX5 7 "SiloPadsModel" "s" "[I") (by decide +kernel)) rfl rfl dX5_init_60 ?_
  refine lv_bipush (v := 7) hx hb dX5_init_63 (by decide) ?_
  refine lv_iconst (v := 3) hx hb dX5_init_65 (by decide) ?_
  refine g_iast hx hb hK hG hS (i := 163) (by omega) mW_a163 (k := 7) (by decide +kernel) (by omega) (by decide) dX5_init_66 (fun H locs hG hS => ?_)
  have hG : GW D 168 (Lb base) (Ab base) (mV cy (Lb base) F (upd (upd (fun _ => 0) 6 6) 7 3)) _ := hG.to mW_us
  refine lv_aload_n hx hb dX5_init_67 rfl (lv_at hl 0 rfl) ?_
  refine g_get (ci := 5) (C := RX5) (T := TX5) (M := 12) hx hb hts (by decide +kernel) hown hK hG (by omega) mV_o rfl 1 (by decide) (hts (.fieldLink RX5 7 "SiloPadsModel" "s" "[I") (by decide +kernel)) rfl rfl dX5_init_68 ?_
  refine lv_bipush (v := 8) hx hb dX5_init_71 (by decide) ?_
  refine lv_bipush (v := 20) hx hb dX5_init_73 (by decide) ?_
  refine g_iast hx hb hK hG hS (i := 163) (by omega) mW_a163 (k := 8) (by decide +kernel) (by omega) (by decide) dX5_init_75 (fun H locs hG hS => ?_)
  have hG : GW D 168 (Lb base) (Ab base) (mV cy (Lb base) F (upd (upd (upd (fun _ => 0) 6 6) 7 3) 8 20)) _ := hG.to mW_us
  refine lv_aload_n hx hb dX5_init_76 rfl (lv_at hl 0 rfl) ?_
  refine g_get (ci := 5) (C := RX5) (T := TX5) (M := 12) hx hb hts (by decide +kernel) hown hK hG (by omega) mV_o rfl 1 (by decide) (hts (.fieldLink RX5 7 "SiloPadsModel" "s" "[I") (by decide +kernel)) rfl rfl dX5_init_77 ?_
  refine lv_bipush (v := 9) hx hb dX5_init_80 (by decide) ?_
  refine lv_sipush (v := 200) hx hb dX5_init_82 (by decide) ?_
  refine g_iast hx hb hK hG hS (i := 163) (by omega) mW_a163 (k := 9) (by decide +kernel) (by omega) (by decide) dX5_init_85 (fun H locs hG hS => ?_)
  have hG : GW D 168 (Lb base) (Ab base) (mV cy (Lb base) F (upd (upd (upd (upd (fun _ => 0) 6 6) 7 3) 8 20) 9 200)) _ := hG.to mW_us
  refine lv_iconst (v := 0) hx hb dX5_init_86 (by decide) ?_
  refine lv_toN (k := 0) (by decide +kernel) ?_
  refine lv_istore_n (lv' := [(1, .int (nI 0)), (0, .ref (Lb base 162))]) hx hb dX5_init_87 rfl hl (by decide) rfl (fun ls hl => ?_)
  exact loop1 6 0 rfl _ _ _ hl hG hS
