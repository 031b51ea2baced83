set_option maxHeartbeats 4000000 in
set_option maxRecDepth 100000 in
theorem whole_start {p : Program} {e : Env} {s : State} {m : MethodId} {below : List Frame} {meth : Method} {c : Code} (l : Launch) (hflags : l.flags = flags0) {b L : Nat} {xs : Nat → Int32} (hL : L ≤ 260) (C0 : lw_At p s m meth c b L xs) : W p l e room_1 s m #[Value.ref b] below meth c s.heap [] 0 0 (lw_Z below #[Value.ref b] s) (entryFrame m ([Value.ref b] : List Value).toArray 11) := by
  obtain ⟨hx, hb, hr, hml, hown, htbl, hX, hbl, hlocks, hgv⟩ := id C0
  have hg := flat_of_before _ hgv
  obtain ⟨D, cy, hKK⟩ := entry_K htbl wsL_law_in
  have hB : ∀ a : Nat, a < s.heap.size → ¬ Ab s.heap.size a := fun a h => Nat.not_le.mpr h
  have hst := entry_st (B := Ab s.heap.size) htbl hg hB
  have hK : gK D cy (Ab s.heap.size) s := ⟨hKK, entry_X htbl, hst⟩
  have hV := entry_V htbl hg hKK hst
  have hts : ∀ w ∈ wsL_law, w.before #[Value.ref b] s = true := fun w hw => htbl w (wsL_law_in w hw)
  have hfl : l.stackTraces = false := by
    unfold Launch.stackTraces
    rw [hflags]
    decide +kernel
  have hS : va_S (Ab s.heap.size) s.heap s.heap [] := va_S.rf
  have hG : GW D 0 (Lb s.heap.size) (Ab s.heap.size) (fun _ => (.inl (cy 0, 0, .inl (fun _ => 0)) : va_E)) s.heap := ⟨fun k q hq => absurd (gw_of hq).1 (Nat.not_lt_zero k), gw_Db⟩
  have h0 : s.heap.size = s.heap.size + 0 := rfl
  have hl := lv_entry ([.ref b]) (n := 11) (Nat.le_of_ble_eq_true rfl)
  rw [lg_entry_eq]
  generalize (lg_sl ([.ref b]) ++ List.replicate (11 - (lg_sl ([.ref b])).length) Slot.unset).toArray = ls at hl ⊢
  have hl : lv_has ls 11 [(0, .ref b)] := hl
  refine g_newN (base := s.heap.size) (N0 := 0) (ci := 4) (C := RX4) (T := TX4) (M := 8) (fs := [.null, .null, .int 0, .null, .int 0, .null, .null, .null]) hx hb hts (by decide +kernel) tyX4 tyX4_ok hown (hts (.classLink RL 13 RX4) (by decide +kernel)) (hts (.instantiable RX4 8) (by decide +kernel)) (hts (.initialized RX4) (by decide +kernel)) hK h0 (by omega) hG hS rfl (fun j hj => by rcases (show j = 0 ∨ j = 1 ∨ j = 2 ∨ j = 3 ∨ j = 4 ∨ j = 5 ∨ j = 6 ∨ j = 7 by omega) with rfl | rfl | rfl | rfl | rfl | rfl | rfl | rfl <;> rfl) (Nat.le_of_ble_eq_true rfl) (Nat.le_of_ble_eq_true rfl) dL_law_0 (fun H hG hS => ?_)
  refine lv_dup hx hb dL_law_3 rfl ?_
  refine g_init (base := s.heap.size) (N0 := 0) hx hb hml hown hts hK hV h0 (by omega) hG hS (i_X4 l D cy s.heap.size _ gup_s) (cwI 0 hts gL_law_X4_init rfl rfl rfl (hts (.initialized RX4) (by decide +kernel)) (hts (.methodLink RL 69 yX4_init) (by decide +kernel)) (hts (.instanceMethod yX4_init) (by decide +kernel)) rfl (by decide +kernel) ⟨(Nat.le_of_ble_eq_true rfl), (Nat.le_of_ble_eq_true rfl)⟩) hl.1 (Nat.le_of_ble_eq_true rfl) dL_law_4 ⟨(Nat.le_of_ble_eq_true rfl), (Nat.le_of_ble_eq_true rfl)⟩ (fun H locs hG hS => ?_)
  refine lv_astore_n (lv' := [(1, .ref (Lb s.heap.size 0)), (0, .ref b)]) hx hb dL_law_7 rfl hl (by decide) rfl (fun ls hl => ?_)
  refine lv_iconst (v := 0) hx hb dL_law_8 (by decide) ?_
  refine lv_toN (k := 0) (by decide +kernel) ?_
  refine lv_istore_n (lv' := [(2, .int (nI 0)), (1, .ref (Lb s.heap.size 0)), (0, .ref b)]) hx hb dL_law_9 rfl hl (by decide) rfl (fun ls hl => ?_)
  have hC : LC p l s m c b L xs D cy 162 (Ab s.heap.size) 162 1080 := ⟨hx, hb, hml, hown, hts, hK, fun q hq => hq, Nat.le_refl _, ⟨Nat.le_of_ble_eq_true rfl, Nat.le_of_ble_eq_true rfl⟩, hX, hbl, Nat.not_le.mpr hbl, hL⟩
  refine law_loop hC (fun H locs ls hS => ?_) 44 0 rfl c0C H locs ls LI_0 hG hS hl
  refine va_forget (fun q hq => hS.2.2 q hq) ?_
  refine W.widen (k := 643612) (n := 7170788) (by omega) (by omega) ?_
  exact lw_ret (d0 := s.drawn) (Drawn.sameBut.refl s.drawn lw_cs) hx hb hr hlocks dL_law_222
