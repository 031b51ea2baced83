/-! THE LAW, FROM ITS ENTRY -/
theorem start_KW {cy : Nat → ClassId} {L : Nat → Nat} {F : Nat → va_E} {e : va_E} : ∀ i, i < 169 → gup (mV cy L (gup (cW cy L F c0C) 162 e) (sI 6)) 168 (.inl (cy 4, 1, .inr (.inl (fun _ => 0)))) i = KW cy L F (fun _ => 0) c0C m0M i := by
  intro i hi
  by_cases h : i = 168
  · rw [h, gup_s, KW_168]
  · rw [gup_n h]
    unfold KW
    by_cases h2 : 162 ≤ i
    · rw [cW_n h2]
      unfold oW mV mT mW
      rw [if_neg h]
      rcases (show i = 162 ∨ i = 163 ∨ i = 164 ∨ i = 165 ∨ i = 166 ∨ i = 167 by omega) with rfl | rfl | rfl | rfl | rfl | rfl <;> rfl
    · rw [cW_i (by omega)]
      unfold mV mW
      rw [if_neg (by omega), if_neg (by omega), if_neg (by omega), if_neg (by omega), if_neg (by omega), if_neg (by omega), gup_n (by omega), cW_i (by omega)]
set_option maxHeartbeats 4000000 in
set_option maxRecDepth 100000 in
theorem whole_start {p : Program} {e : Env} {s : State} {m : MethodId} {below : List Frame} {meth : Method} {c : Code} (l : Launch) (hflags : l.flags = flags0) {b L : Nat} {xs : Nat → Int32} (hL : L ≤ 2560) (C0 : lw_At p s m meth c b L xs) : W p l e room_1 s m #[Value.ref b] below meth c s.heap [] 0 0 (lw_Z below #[Value.ref b] s) (entryFrame m ([Value.ref b] : List Value).toArray 9) := by
  obtain ⟨hx, hb, hr, hml, hown, htbl, hX, hbl, hlocks, hgv⟩ := id C0
  have hg := flat_of_before _ hgv
  obtain ⟨D, cy, hKK⟩ := entry_K htbl wsL_law_in
  have hB : ∀ a : Nat, a < s.heap.size → ¬ Ab s.heap.size a := fun a h => Nat.not_le.mpr h
  have hst := entry_st (B := Ab s.heap.size) htbl hg hB
  have hK : gK D cy (Ab s.heap.size) s := ⟨hKK, entry_X htbl hg, hst⟩
  have hV := entry_V htbl hg hKK hst
  have hts : ∀ w ∈ wsL_law, w.before #[Value.ref b] s = true := fun w hw => htbl w (wsL_law_in w hw)
  have hfl : l.stackTraces = false := by
    unfold Launch.stackTraces
    rw [hflags]
    decide +kernel
  have hS : va_S (Ab s.heap.size) s.heap s.heap [] := va_S.rf
  have hG : GW D 0 (Lb s.heap.size) (Ab s.heap.size) (fun _ => (.inl (cy 0, 0, .inl (fun _ => 0)) : va_E)) s.heap := ⟨fun k q hq => absurd (gw_of hq).1 (Nat.not_lt_zero k), gw_Db⟩
  have h0 : s.heap.size = s.heap.size + 0 := rfl
  have hl := lv_entry ([.ref b]) (n := 9) (Nat.le_of_ble_eq_true rfl)
  rw [lg_entry_eq]
  generalize (lg_sl ([.ref b]) ++ List.replicate (9 - (lg_sl ([.ref b])).length) Slot.unset).toArray = ls at hl ⊢
  have hl : lv_has ls 9 [(0, .ref b)] := hl
  refine g_newN (base := s.heap.size) (N0 := 0) (ci := 4) (C := RX4) (T := TX4) (M := 8) (fs := [.null, .null, .int 0, .null, .int 0, .null, .null, .null]) hx hb hts (by decide +kernel) tyX4 tyX4_ok hown (hts (.classLink RL 8 RX4) (by decide +kernel)) (hts (.instantiable RX4 8) (by decide +kernel)) (hts (.initialized RX4) (by decide +kernel)) hK h0 (by omega) hG hS rfl (fun j hj => by rcases (show j = 0 ∨ j = 1 ∨ j = 2 ∨ j = 3 ∨ j = 4 ∨ j = 5 ∨ j = 6 ∨ j = 7 by omega) with rfl | rfl | rfl | rfl | rfl | rfl | rfl | rfl <;> rfl) (Nat.le_of_ble_eq_true rfl) (Nat.le_of_ble_eq_true rfl) dL_law_0 (fun H hG hS => ?_)
  refine lv_dup hx hb dL_law_3 rfl ?_
  refine g_init (base := s.heap.size) (N0 := 0) hx hb hml hown hts hK hV h0 (by omega) hG hS (i_X4 l D cy s.heap.size _ gup_s) (cwI 0 hts gL_law_X4_init rfl rfl rfl (hts (.initialized RX4) (by decide +kernel)) (hts (.methodLink RL 71 yX4_init) (by decide +kernel)) (hts (.instanceMethod yX4_init) (by decide +kernel)) rfl (by decide +kernel) ⟨(Nat.le_of_ble_eq_true rfl), (Nat.le_of_ble_eq_true rfl)⟩) hl.1 (Nat.le_of_ble_eq_true rfl) dL_law_4 ⟨(Nat.le_of_ble_eq_true rfl), (Nat.le_of_ble_eq_true rfl)⟩ (fun H locs hG hS => ?_)
  refine lv_astore_n (lv' := [(1, .ref (Lb s.heap.size 0)), (0, .ref b)]) hx hb dL_law_7 rfl hl (by decide) rfl (fun ls hl => ?_)
  refine g_newN (base := s.heap.size) (N0 := 0) (ci := 5) (C := RX5) (T := TX5) (M := 12) (fs := [.int 0, .null, .null, .null, .int 0, .null, .int 0, .int 0, .int 0, .null, .int 0, .long 0]) hx hb hts (by decide +kernel) tyX5 tyX5_ok hown (hts (.classLink RL 72 RX5) (by decide +kernel)) (hts (.instantiable RX5 12) (by decide +kernel)) (hts (.initialized RX5) (by decide +kernel)) hK h0 (by omega) hG hS rfl (fun j hj => by rcases (show j = 0 ∨ j = 1 ∨ j = 2 ∨ j = 3 ∨ j = 4 ∨ j = 5 ∨ j = 6 ∨ j = 7 ∨ j = 8 ∨ j = 9 ∨ j = 10 ∨ j = 11 by omega) with rfl | rfl | rfl | rfl | rfl | rfl | rfl | rfl | rfl | rfl | rfl | rfl <;> rfl) (Nat.le_of_ble_eq_true rfl) (Nat.le_of_ble_eq_true rfl) dL_law_8 (fun H hG hS => ?_)
  refine lv_dup hx hb dL_law_11 rfl ?_
  refine g_init (base := s.heap.size) (N0 := 0) hx hb hml hown hts hK hV h0 (by omega) hG hS (i_X5 l D cy s.heap.size _ gup_s) (cwI 0 hts gL_law_X5_init rfl rfl rfl (hts (.initialized RX5) (by decide +kernel)) (hts (.methodLink RL 74 yX5_init) (by decide +kernel)) (hts (.instanceMethod yX5_init) (by decide +kernel)) rfl (by decide +kernel) ⟨(Nat.le_of_ble_eq_true rfl), (Nat.le_of_ble_eq_true rfl)⟩) hl.1 (Nat.le_of_ble_eq_true rfl) dL_law_12 ⟨(Nat.le_of_ble_eq_true rfl), (Nat.le_of_ble_eq_true rfl)⟩ (fun H locs hG hS => ?_)
  refine lv_astore_n (lv' := [(2, .ref (Lb s.heap.size 162)), (1, .ref (Lb s.heap.size 0)), (0, .ref b)]) hx hb dL_law_15 rfl hl (by decide) rfl (fun ls hl => ?_)
  refine lv_iconst (v := 1) hx hb dL_law_16 (by decide) ?_
  refine g_newL (base := s.heap.size) (n := 1) (N0 := 0) hx hb (hts (.arrayClass .long) (by decide +kernel)) hK h0 (by omega) hG hS (by decide) (by decide +kernel) (by decide) (Nat.le_of_ble_eq_true rfl) (Nat.le_of_ble_eq_true rfl) dL_law_17 (fun H hG hS => ?_)
  have hG : GW D 169 (Lb s.heap.size) (Ab s.heap.size) (KW cy (Lb s.heap.size) _ (fun _ => 0) c0C m0M) _ := hG.toN start_KW
  refine lv_astore_n (lv' := [(3, .ref (Lb s.heap.size 168)), (2, .ref (Lb s.heap.size 162)), (1, .ref (Lb s.heap.size 0)), (0, .ref b)]) hx hb dL_law_19 rfl hl (by decide) rfl (fun ls hl => ?_)
  refine lv_iconst (v := 0) hx hb dL_law_20 (by decide) ?_
  refine lv_toN (k := 0) (by decide +kernel) ?_
  refine lv_istore (lv' := [(4, .int (nI (5 * 0))), (3, .ref (Lb s.heap.size 168)), (2, .ref (Lb s.heap.size 162)), (1, .ref (Lb s.heap.size 0)), (0, .ref b)]) hx hb dL_law_21 hl (by decide) rfl (fun ls hl => ?_)
  refine W.widen (k := 169 + 0) (n := 2185 + 6 * 0) (by omega) (by omega) ?_
  have hC : LC p s m meth c b L xs D cy l := ⟨hx, hb, hml, hown, hts, hK, hX, hbl, hL, hfl⟩
  refine law_loop (c0 := 169) (s0 := 2185) hC ⟨(Nat.le_of_ble_eq_true rfl), (Nat.le_of_ble_eq_true rfl)⟩ (fun H locs ls u hu hS => ?_) (L + 1) 0 (Nat.zero_le L) (by omega) (fun _ => 0) c0C m0M H locs ls (WR_0.mono (by omega)) hG hS hl
  refine va_forget (fun q hq => hS.2.2 q hq) ?_
  refine W.widen (k := 605289) (n := 7280238) (by omega) (by omega) ?_
  exact lw_ret (d0 := s.drawn) (Drawn.sameBut.refl s.drawn lw_cs) hx hb hr hlocks dL_law_1378
