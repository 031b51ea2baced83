set_option maxHeartbeats 4000000 in
set_option maxRecDepth 100000 in
theorem k_L_play_ok (l : Launch) (D : va_G) (cy : Nat → ClassId) (N : Nat) (L : Nat → Nat) (F : Nat → va_E) (hN : 169 ≤ N) (f : Nat → Int64) (C : CT)  (why : wfY (cY C)) (whq : cQ C ≤ 6) (whm : ∀ i, i < 6 → cM C i < 6) (whl60 : cL C ≤ 60) (whgo : ¬ t_err (cB C) (t_r0 (cR C)) (cL C) < cL C) (whdo : ¬ r_done (t_end (cB C) (t_r0 (cR C)) (cL C)) = 0) (whr1 : ∀ k, k < cL (c_save (c_read C)) → cB (c_save (c_read C)) k = 59 → rOK (r_at (cB (c_save (c_read C))) (t_r0 (cR (c_save (c_read C)))) k)) (whr2 : rOK (r_at (cB (c_save (c_read C))) (t_r0 (cR (c_save (c_read C)))) (cL (c_save (c_read C))))) : GMw l D cy N L yL_play wsL_play ({ frames := 8, cells := 0, slots := 0, locals := 183 }) 0 0 [.ref (L 0), .ref (L 168)] (cW cy L (oW cy F f) C) (some (.int 0)) (cW cy L (oW cy F (vp_updL f 0 ((c_playR (c_save (c_read C))).toInt64))) (c_play (c_save (c_read C)))) := by
  refine GMw.ofW (cc := cL_play) (maxL := 3) (ret := (some .int)) (by decide) rfl (Nat.le_of_ble_eq_true rfl) ?_
  intro p e s m below meth c ls hx hb hr hts hown hlocks hml hK hA hG hS hl htb
  have hl : lv_has ls 3 [(0, .ref (L 0)), (1, .ref (L 168))] := hl
  refine lv_aload_n hx hb dL_play_0 rfl (lv_at hl 1 rfl) ?_
  refine lv_iconst (v := 0) hx hb dL_play_1 (by decide) ?_
  refine lv_aload_n hx hb dL_play_2 rfl (lv_at hl 0 rfl) ?_
  refine g_cVi (As := []) (rest := [.int 0, .ref (L 168)]) hx hb hml hown hts hK hA hG hS (k_X4_play_ok l D cy N L _ (by omega) C  (why) (whq) (whm) (whl60) (whgo) (whdo) (whr1) (whr2)) (cwV 0 hts gL_play_X4_play rfl rfl rfl (by decide +kernel) ⟨Nat.le_of_ble_eq_true rfl, Nat.le_of_ble_eq_true rfl⟩) (by omega) cW_o (ci := 4) rfl rfl rfl rfl hl.1 (Nat.le_of_ble_eq_true rfl) dL_play_3 ⟨Nat.zero_le _, Nat.zero_le _⟩ (fun H locs hG hS => ?_)
  refine lv_i2l hx hb dL_play_6 rfl ?_
  refine g_last hx hb hK hG hS (by omega) cW_168 (k := 0) rfl (by omega) (by decide) dL_play_7 (fun H locs hG hS => ?_)
  have hG : GW D N L (gA N L s.heap.size) (cW cy L (oW cy F (vp_updL f 0 ((c_playR (c_save (c_read C))).toInt64))) (c_play (c_save (c_read C)))) _ := hG.to cW_u168
  refine lv_goto (tgt := 14) hx hb dL_play_8 (by decide) ?_
  refine lv_iconst (v := 0) hx hb dL_play_14 (by decide) ?_
  exact g_iret hx hb hr hlocks hK hG hS rfl dL_play_15 ⟨rfl, rfl⟩
set_option maxHeartbeats 4000000 in
set_option maxRecDepth 100000 in
theorem k_L_play_t1a (l : Launch) (hst : l.stackTraces = false) (D : va_G) (cy : Nat → ClassId) (N : Nat) (L : Nat → Nat) (F : Nat → va_E) (hN : 169 ≤ N) (f : Nat → Int64) (C : CT)  (whl60 : cL C ≤ 60) (wh : t_err (cB C) (t_r0 (cR C)) (cL C) < cL C) : GMw l D cy N L yL_play wsL_play ({ frames := 8, cells := 1, slots := 6, locals := 183 }) 1 6 [.ref (L 0), .ref (L 168)] (cW cy L (oW cy F f) C) (some (.int 1)) (cW cy L (oW cy F f) (cY C, cV C, cM C, cQ C, cB C, cL C, t_end (cB C) (t_r0 (cR C)) (cL C), cT C, cU C)) := by
  refine GMw.ofW (cc := cL_play) (maxL := 3) (ret := (some .int)) (by decide) rfl (Nat.le_of_ble_eq_true rfl) ?_
  intro p e s m below meth c ls hx hb hr hts hown hlocks hml hK hA hG hS hl htb
  have hl : lv_has ls 3 [(0, .ref (L 0)), (1, .ref (L 168))] := hl
  refine lv_aload_n hx hb dL_play_0 rfl (lv_at hl 1 rfl) ?_
  refine lv_iconst (v := 0) hx hb dL_play_1 (by decide) ?_
  refine lv_aload_n hx hb dL_play_2 rfl (lv_at hl 0 rfl) ?_
  have hpre : ∀ z ∈ ([] : List ExceptionTableEntry), z.catchType ≠ 0 ∧ ∃ nm : String, Cond.classLink RL z.catchType nm ∈ wsL_play ∧ (xA, nm) ∈ gNc := fun z hz => nomatch hz
  refine g_catchV2 (As := []) (rest := [.int 0, .ref (L 168)]) (hpc := 11) hx hb hml hown hts hK hA hG hS (k_X4_play_t1a l hst D cy N L _ (by omega) C  (whl60) (wh)) (cwV 0 hts gL_play_X4_play rfl rfl rfl (by decide +kernel) ⟨Nat.le_of_ble_eq_true rfl, Nat.le_of_ble_eq_true rfl⟩) (by omega) cW_o (ci := 4) rfl rfl rfl rfl hl.1 (Nat.le_of_ble_eq_true rfl) dL_play_3 ⟨Nat.le_of_ble_eq_true rfl, Nat.le_of_ble_eq_true rfl⟩ [] ⟨0, 8, 11, 15⟩ [] htb hpre (by decide) (by decide) (by decide +kernel) (by decide) rfl (fun H locs q9 hG hS => ?_)
  refine lv_astore_n (lv' := [(2, .ref q9), (0, .ref (L 0)), (1, .ref (L 168))]) hx hb dL_play_11 rfl hl (by decide) rfl (fun ls hl => ?_)
  refine lv_iconst (v := 1) hx hb dL_play_12 (by decide) ?_
  exact g_iret hx hb hr hlocks hK hG hS rfl dL_play_13 ⟨rfl, rfl⟩
set_option maxHeartbeats 4000000 in
set_option maxRecDepth 100000 in
theorem k_L_play_t1b (l : Launch) (hst : l.stackTraces = false) (D : va_G) (cy : Nat → ClassId) (N : Nat) (L : Nat → Nat) (F : Nat → va_E) (hN : 169 ≤ N) (f : Nat → Int64) (C : CT)  (whl60 : cL C ≤ 60) (whgo : ¬ t_err (cB C) (t_r0 (cR C)) (cL C) < cL C) (wh : r_done (t_end (cB C) (t_r0 (cR C)) (cL C)) = 0) : GMw l D cy N L yL_play wsL_play ({ frames := 8, cells := 1, slots := 6, locals := 183 }) 1 6 [.ref (L 0), .ref (L 168)] (cW cy L (oW cy F f) C) (some (.int 1)) (cW cy L (oW cy F f) (cY C, cV C, cM C, cQ C, cB C, cL C, t_end (cB C) (t_r0 (cR C)) (cL C), cT C, cU C)) := by
  refine GMw.ofW (cc := cL_play) (maxL := 3) (ret := (some .int)) (by decide) rfl (Nat.le_of_ble_eq_true rfl) ?_
  intro p e s m below meth c ls hx hb hr hts hown hlocks hml hK hA hG hS hl htb
  have hl : lv_has ls 3 [(0, .ref (L 0)), (1, .ref (L 168))] := hl
  refine lv_aload_n hx hb dL_play_0 rfl (lv_at hl 1 rfl) ?_
  refine lv_iconst (v := 0) hx hb dL_play_1 (by decide) ?_
  refine lv_aload_n hx hb dL_play_2 rfl (lv_at hl 0 rfl) ?_
  have hpre : ∀ z ∈ ([] : List ExceptionTableEntry), z.catchType ≠ 0 ∧ ∃ nm : String, Cond.classLink RL z.catchType nm ∈ wsL_play ∧ (xA, nm) ∈ gNc := fun z hz => nomatch hz
  refine g_catchV2 (As := []) (rest := [.int 0, .ref (L 168)]) (hpc := 11) hx hb hml hown hts hK hA hG hS (k_X4_play_t1b l hst D cy N L _ (by omega) C  (whl60) (whgo) (wh)) (cwV 0 hts gL_play_X4_play rfl rfl rfl (by decide +kernel) ⟨Nat.le_of_ble_eq_true rfl, Nat.le_of_ble_eq_true rfl⟩) (by omega) cW_o (ci := 4) rfl rfl rfl rfl hl.1 (Nat.le_of_ble_eq_true rfl) dL_play_3 ⟨Nat.le_of_ble_eq_true rfl, Nat.le_of_ble_eq_true rfl⟩ [] ⟨0, 8, 11, 15⟩ [] htb hpre (by decide) (by decide) (by decide +kernel) (by decide) rfl (fun H locs q9 hG hS => ?_)
  refine lv_astore_n (lv' := [(2, .ref q9), (0, .ref (L 0)), (1, .ref (L 168))]) hx hb dL_play_11 rfl hl (by decide) rfl (fun ls hl => ?_)
  refine lv_iconst (v := 1) hx hb dL_play_12 (by decide) ?_
  exact g_iret hx hb hr hlocks hK hG hS rfl dL_play_13 ⟨rfl, rfl⟩
