set_option maxHeartbeats 4000000 in
set_option maxRecDepth 100000 in
theorem k_L_unload_ok (l : Launch) (D : va_G) (cy : Nat → ClassId) (N : Nat) (L : Nat → Nat) (F : Nat → va_E) (hN : 169 ≤ N) (f : Nat → Int64) (C : CT) (k j : Nat) (t : Int32) (why : wfY (cY C)) (whq : cQ C ≤ 6) (whm : ∀ i, i < 6 → cM C i < 6) (whk : k < 4) (whj : j < 6) (wht1 : ¬ t < 1) (wht2 : t ≤ 500) : GMw l D cy N L yL_unload wsL_unload ({ frames := 8, cells := 0, slots := 0, locals := 173 }) 0 0 [.ref (L 0), .int (nI k), .int (nI j), .int t, .ref (L 168)] (cW cy L (oW cy F f) C) (some (.int 0)) (cW cy L (oW cy F (vp_updL f 0 ((c_brR (yS (cY C) k) (yH (cY C) j) t).toInt64))) (c_unl (c_save C) k j t)) := by
  refine GMw.ofW (cc := cL_unload) (maxL := 6) (ret := (some .int)) (by decide) rfl (Nat.le_of_ble_eq_true rfl) ?_
  intro p e s m below meth c ls hx hb hr hts hown hlocks hml hK hA hG hS hl htb
  have hl : lv_has ls 6 [(0, .ref (L 0)), (1, .int (nI k)), (2, .int (nI j)), (3, .int t), (4, .ref (L 168))] := hl
  refine lv_aload hx hb dL_unload_0 (lv_at hl 4 rfl) ?_
  refine lv_iconst (v := 0) hx hb dL_unload_2 (by decide) ?_
  refine lv_aload_n hx hb dL_unload_3 rfl (lv_at hl 0 rfl) ?_
  refine lv_iload_n hx hb dL_unload_4 rfl (lv_at hl 1 rfl) ?_
  refine lv_iload_n hx hb dL_unload_5 rfl (lv_at hl 2 rfl) ?_
  refine lv_iload_n hx hb dL_unload_6 rfl (lv_at hl 3 rfl) ?_
  refine g_cVi (As := [.int (nI k), .int (nI j), .int t]) (rest := [.int 0, .ref (L 168)]) hx hb hml hown hts hK hA hG hS (k_X4_unload_ok l D cy N L _ (by omega) C k j t (why) (whq) (whm) (whk) (whj) (wht1) (wht2)) (cwV 3 hts gL_unload_X4_unload rfl rfl rfl (by decide +kernel) ⟨Nat.le_of_ble_eq_true rfl, Nat.le_of_ble_eq_true rfl⟩) (by omega) cW_o (ci := 4) rfl rfl rfl rfl hl.1 (Nat.le_of_ble_eq_true rfl) dL_unload_7 ⟨Nat.zero_le _, Nat.zero_le _⟩ (fun H locs hG hS => ?_)
  refine lv_i2l hx hb dL_unload_10 rfl ?_
  refine g_last hx hb hK hG hS (by omega) cW_168 (k := 0) rfl (by omega) (by decide) dL_unload_11 (fun H locs hG hS => ?_)
  have hG : GW D N L (gA N L s.heap.size) (cW cy L (oW cy F (vp_updL f 0 ((c_brR (yS (cY C) k) (yH (cY C) j) t).toInt64))) (c_unl (c_save C) k j t)) _ := hG.to cW_u168
  refine lv_goto (tgt := 23) hx hb dL_unload_12 (by decide) ?_
  refine lv_iconst (v := 0) hx hb dL_unload_23 (by decide) ?_
  exact g_iret hx hb hr hlocks hK hG hS rfl dL_unload_24 ⟨rfl, rfl⟩
set_option maxHeartbeats 4000000 in
set_option maxRecDepth 100000 in
theorem k_L_flow_ok (l : Launch) (D : va_G) (cy : Nat → ClassId) (N : Nat) (L : Nat → Nat) (F : Nat → va_E) (hN : 169 ≤ N) (f : Nat → Int64) (C : CT) (k j q : Nat) (why : wfY (cY C)) (whq : cQ C ≤ 6) (whm : ∀ i, i < 6 → cM C i < 6) (whk : k < 4) (whj : j < 6) (wh1 : 1 ≤ q) (wh2 : q ≤ 24) : GMw l D cy N L yL_flow wsL_flow ({ frames := 8, cells := 0, slots := 0, locals := 173 }) 0 0 [.ref (L 0), .int (nI k), .int (nI j), .int (nI q), .ref (L 168)] (cW cy L (oW cy F f) C) (some (.int 0)) (cW cy L (oW cy F (vp_updL f 0 ((y_letR (cY C) k j q).toInt64))) (c_setY (c_save C) (y_let (cY C) k j q))) := by
  refine GMw.ofW (cc := cL_flow) (maxL := 6) (ret := (some .int)) (by decide) rfl (Nat.le_of_ble_eq_true rfl) ?_
  intro p e s m below meth c ls hx hb hr hts hown hlocks hml hK hA hG hS hl htb
  have hl : lv_has ls 6 [(0, .ref (L 0)), (1, .int (nI k)), (2, .int (nI j)), (3, .int (nI q)), (4, .ref (L 168))] := hl
  refine lv_aload hx hb dL_flow_0 (lv_at hl 4 rfl) ?_
  refine lv_iconst (v := 0) hx hb dL_flow_2 (by decide) ?_
  refine lv_aload_n hx hb dL_flow_3 rfl (lv_at hl 0 rfl) ?_
  refine lv_iload_n hx hb dL_flow_4 rfl (lv_at hl 1 rfl) ?_
  refine lv_iload_n hx hb dL_flow_5 rfl (lv_at hl 2 rfl) ?_
  refine lv_iload_n hx hb dL_flow_6 rfl (lv_at hl 3 rfl) ?_
  refine g_cVi (As := [.int (nI k), .int (nI j), .int (nI q)]) (rest := [.int 0, .ref (L 168)]) hx hb hml hown hts hK hA hG hS (k_X4_flow_ok l D cy N L _ (by omega) C k j q (why) (whq) (whm) (whk) (whj) (wh1) (wh2)) (cwV 3 hts gL_flow_X4_flow rfl rfl rfl (by decide +kernel) ⟨Nat.le_of_ble_eq_true rfl, Nat.le_of_ble_eq_true rfl⟩) (by omega) cW_o (ci := 4) rfl rfl rfl rfl hl.1 (Nat.le_of_ble_eq_true rfl) dL_flow_7 ⟨Nat.zero_le _, Nat.zero_le _⟩ (fun H locs hG hS => ?_)
  refine lv_i2l hx hb dL_flow_10 rfl ?_
  refine g_last hx hb hK hG hS (by omega) cW_168 (k := 0) rfl (by omega) (by decide) dL_flow_11 (fun H locs hG hS => ?_)
  have hG : GW D N L (gA N L s.heap.size) (cW cy L (oW cy F (vp_updL f 0 ((y_letR (cY C) k j q).toInt64))) (c_setY (c_save C) (y_let (cY C) k j q))) _ := hG.to cW_u168
  refine lv_goto (tgt := 23) hx hb dL_flow_12 (by decide) ?_
  refine lv_iconst (v := 0) hx hb dL_flow_23 (by decide) ?_
  exact g_iret hx hb hr hlocks hK hG hS rfl dL_flow_24 ⟨rfl, rfl⟩
set_option maxHeartbeats 4000000 in
set_option maxRecDepth 100000 in
theorem k_L_ship_ok (l : Launch) (D : va_G) (cy : Nat → ClassId) (N : Nat) (L : Nat → Nat) (F : Nat → va_E) (hN : 169 ≤ N) (f : Nat → Int64) (C : CT) (j : Nat) (u t : Int32) (why : wfY (cY C)) (whq : cQ C ≤ 6) (whm : ∀ i, i < 6 → cM C i < 6) (whj : j < 6) (whu1 : ¬ u < 0) (whu2 : ¬ 900 < u) (wht1 : ¬ t < 0) (wht2 : t ≤ u) : GMw l D cy N L yL_ship wsL_ship ({ frames := 8, cells := 0, slots := 0, locals := 175 }) 0 0 [.ref (L 0), .int (nI j), .int u, .int t, .ref (L 168)] (cW cy L (oW cy F f) C) (some (.int 0)) (cW cy L (oW cy F (vp_updL f 0 ((hT (yH (cY C) j)).toInt64))) (c_setY (c_save C) (y_ship (cY C) j u t))) := by
  refine GMw.ofW (cc := cL_ship) (maxL := 6) (ret := (some .int)) (by decide) rfl (Nat.le_of_ble_eq_true rfl) ?_
  intro p e s m below meth c ls hx hb hr hts hown hlocks hml hK hA hG hS hl htb
  have hl : lv_has ls 6 [(0, .ref (L 0)), (1, .int (nI j)), (2, .int u), (3, .int t), (4, .ref (L 168))] := hl
  refine lv_aload hx hb dL_ship_0 (lv_at hl 4 rfl) ?_
  refine lv_iconst (v := 0) hx hb dL_ship_2 (by decide) ?_
  refine lv_aload_n hx hb dL_ship_3 rfl (lv_at hl 0 rfl) ?_
  refine lv_iload_n hx hb dL_ship_4 rfl (lv_at hl 1 rfl) ?_
  refine lv_iload_n hx hb dL_ship_5 rfl (lv_at hl 2 rfl) ?_
  refine lv_iload_n hx hb dL_ship_6 rfl (lv_at hl 3 rfl) ?_
  refine g_cVi (As := [.int (nI j), .int u, .int t]) (rest := [.int 0, .ref (L 168)]) hx hb hml hown hts hK hA hG hS (k_X4_ship_ok l D cy N L _ (by omega) C j u t (why) (whq) (whm) (whj) (whu1) (whu2) (wht1) (wht2)) (cwV 3 hts gL_ship_X4_ship rfl rfl rfl (by decide +kernel) ⟨Nat.le_of_ble_eq_true rfl, Nat.le_of_ble_eq_true rfl⟩) (by omega) cW_o (ci := 4) rfl rfl rfl rfl hl.1 (Nat.le_of_ble_eq_true rfl) dL_ship_7 ⟨Nat.zero_le _, Nat.zero_le _⟩ (fun H locs hG hS => ?_)
  refine lv_i2l hx hb dL_ship_10 rfl ?_
  refine g_last hx hb hK hG hS (by omega) cW_168 (k := 0) rfl (by omega) (by decide) dL_ship_11 (fun H locs hG hS => ?_)
  have hG : GW D N L (gA N L s.heap.size) (cW cy L (oW cy F (vp_updL f 0 ((hT (yH (cY C) j)).toInt64))) (c_setY (c_save C) (y_ship (cY C) j u t))) _ := hG.to cW_u168
  refine lv_goto (tgt := 23) hx hb dL_ship_12 (by decide) ?_
  refine lv_iconst (v := 0) hx hb dL_ship_23 (by decide) ?_
  exact g_iret hx hb hr hlocks hK hG hS rfl dL_ship_24 ⟨rfl, rfl⟩
set_option maxHeartbeats 4000000 in
set_option maxRecDepth 100000 in
theorem k_L_pads_ok (l : Launch) (D : va_G) (cy : Nat → ClassId) (N : Nat) (L : Nat → Nat) (F : Nat → va_E) (hN : 169 ≤ N) (f : Nat → Int64) (C : CT) (k q : Nat) (why : wfY (cY C)) (whq : cQ C ≤ 6) (whm : ∀ i, i < 6 → cM C i < 6) (whk : k < 4) (wh4 : q ≤ 4) (whbl : y_pads (cY C) 4 - sP (yS (cY C) k) + nI q ≤ yZ (cY C) 0) : GMw l D cy N L yL_pads wsL_pads ({ frames := 8, cells := 0, slots := 0, locals := 173 }) 0 0 [.ref (L 0), .int (nI k), .int (nI q), .ref (L 168)] (cW cy L (oW cy F f) C) (some (.int 0)) (cW cy L (oW cy F (vp_updL f 0 ((sP (yS (cY C) k)).toInt64))) (c_setY (c_save C) (y_padsS (cY C) k (nI q)))) := by
  refine GMw.ofW (cc := cL_pads) (maxL := 5) (ret := (some .int)) (by decide) rfl (Nat.le_of_ble_eq_true rfl) ?_
  intro p e s m below meth c ls hx hb hr hts hown hlocks hml hK hA hG hS hl htb
  have hl : lv_has ls 5 [(0, .ref (L 0)), (1, .int (nI k)), (2, .int (nI q)), (3, .ref (L 168))] := hl
  refine lv_aload_n hx hb dL_pads_0 rfl (lv_at hl 3 rfl) ?_
  refine lv_iconst (v := 0) hx hb dL_pads_1 (by decide) ?_
  refine lv_aload_n hx hb dL_pads_2 rfl (lv_at hl 0 rfl) ?_
  refine lv_iload_n hx hb dL_pads_3 rfl (lv_at hl 1 rfl) ?_
  refine lv_iload_n hx hb dL_pads_4 rfl (lv_at hl 2 rfl) ?_
  refine g_cVi (As := [.int (nI k), .int (nI q)]) (rest := [.int 0, .ref (L 168)]) hx hb hml hown hts hK hA hG hS (k_X4_pads_ok l D cy N L _ (by omega) C k q (why) (whq) (whm) (whk) (wh4) (whbl)) (cwV 2 hts gL_pads_X4_pads rfl rfl rfl (by decide +kernel) ⟨Nat.le_of_ble_eq_true rfl, Nat.le_of_ble_eq_true rfl⟩) (by omega) cW_o (ci := 4) rfl rfl rfl rfl hl.1 (Nat.le_of_ble_eq_true rfl) dL_pads_5 ⟨Nat.zero_le _, Nat.zero_le _⟩ (fun H locs hG hS => ?_)
  refine lv_i2l hx hb dL_pads_8 rfl ?_
  refine g_last hx hb hK hG hS (by omega) cW_168 (k := 0) rfl (by omega) (by decide) dL_pads_9 (fun H locs hG hS => ?_)
  have hG : GW D N L (gA N L s.heap.size) (cW cy L (oW cy F (vp_updL f 0 ((sP (yS (cY C) k)).toInt64))) (c_setY (c_save C) (y_padsS (cY C) k (nI q)))) _ := hG.to cW_u168
  refine lv_goto (tgt := 25) hx hb dL_pads_10 (by decide) ?_
  refine lv_iconst (v := 0) hx hb dL_pads_25 (by decide) ?_
  exact g_iret hx hb hr hlocks hK hG hS rfl dL_pads_26 ⟨rfl, rfl⟩
set_option maxHeartbeats 4000000 in
set_option maxRecDepth 100000 in
theorem k_L_shake_ok (l : Launch) (D : va_G) (cy : Nat → ClassId) (N : Nat) (L : Nat → Nat) (F : Nat → va_E) (hN : 169 ≤ N) (f : Nat → Int64) (C : CT) (k : Nat) (why : wfY (cY C)) (whq : cQ C ≤ 6) (whm : ∀ i, i < 6 → cM C i < 6) (whk : k < 4) (whn1 : 1 ≤ sN (yS (cY C) k)) : GMw l D cy N L yL_shake wsL_shake ({ frames := 8, cells := 0, slots := 0, locals := 173 }) 0 0 [.ref (L 0), .int (nI k), .ref (L 168)] (cW cy L (oW cy F f) C) (some (.int 0)) (cW cy L (oW cy F (vp_updL f 0 ((y_shakeR (cY (c_save C)) k).toInt64))) (c_setY (c_save C) (y_shake (cY (c_save C)) k))) := by
  refine GMw.ofW (cc := cL_shake) (maxL := 4) (ret := (some .int)) (by decide) rfl (Nat.le_of_ble_eq_true rfl) ?_
  intro p e s m below meth c ls hx hb hr hts hown hlocks hml hK hA hG hS hl htb
  have hl : lv_has ls 4 [(0, .ref (L 0)), (1, .int (nI k)), (2, .ref (L 168))] := hl
  refine lv_aload_n hx hb dL_shake_0 rfl (lv_at hl 2 rfl) ?_
  refine lv_iconst (v := 0) hx hb dL_shake_1 (by decide) ?_
  refine lv_aload_n hx hb dL_shake_2 rfl (lv_at hl 0 rfl) ?_
  refine lv_iload_n hx hb dL_shake_3 rfl (lv_at hl 1 rfl) ?_
  refine g_cVi (As := [.int (nI k)]) (rest := [.int 0, .ref (L 168)]) hx hb hml hown hts hK hA hG hS (k_X4_shake_ok l D cy N L _ (by omega) C k (why) (whq) (whm) (whk) (whn1)) (cwV 1 hts gL_shake_X4_shake rfl rfl rfl (by decide +kernel) ⟨Nat.le_of_ble_eq_true rfl, Nat.le_of_ble_eq_true rfl⟩) (by omega) cW_o (ci := 4) rfl rfl rfl rfl hl.1 (Nat.le_of_ble_eq_true rfl) dL_shake_4 ⟨Nat.zero_le _, Nat.zero_le _⟩ (fun H locs hG hS => ?_)
  refine lv_i2l hx hb dL_shake_7 rfl ?_
  refine g_last hx hb hK hG hS (by omega) cW_168 (k := 0) rfl (by omega) (by decide) dL_shake_8 (fun H locs hG hS => ?_)
  have hG : GW D N L (gA N L s.heap.size) (cW cy L (oW cy F (vp_updL f 0 ((y_shakeR (cY (c_save C)) k).toInt64))) (c_setY (c_save C) (y_shake (cY (c_save C)) k))) _ := hG.to cW_u168
  refine lv_goto (tgt := 18) hx hb dL_shake_9 (by decide) ?_
  refine lv_iconst (v := 0) hx hb dL_shake_18 (by decide) ?_
  exact g_iret hx hb hr hlocks hK hG hS rfl dL_shake_19 ⟨rfl, rfl⟩
set_option maxHeartbeats 4000000 in
set_option maxRecDepth 100000 in
theorem k_L_pass_ok (l : Launch) (D : va_G) (cy : Nat → ClassId) (N : Nat) (L : Nat → Nat) (F : Nat → va_E) (hN : 169 ≤ N) (f : Nat → Int64) (C : CT) (q : Nat) (why : wfY (cY C)) (whq : cQ C ≤ 6) (whm : ∀ i, i < 6 → cM C i < 6) (wh1 : 1 ≤ q) (wh2 : q ≤ 30) : GMw l D cy N L yL_pass wsL_pass ({ frames := 8, cells := 0, slots := 0, locals := 171 }) 0 0 [.ref (L 0), .int (nI q), .ref (L 168)] (cW cy L (oW cy F f) C) (some (.int 0)) (cW cy L (oW cy F (vp_updL f 0 ((y_PR (cY C) q).toInt64))) (c_setY (c_save C) (y_pass (cY C) q))) := by
  refine GMw.ofW (cc := cL_pass) (maxL := 4) (ret := (some .int)) (by decide) rfl (Nat.le_of_ble_eq_true rfl) ?_
  intro p e s m below meth c ls hx hb hr hts hown hlocks hml hK hA hG hS hl htb
  have hl : lv_has ls 4 [(0, .ref (L 0)), (1, .int (nI q)), (2, .ref (L 168))] := hl
  refine lv_aload_n hx hb dL_pass_0 rfl (lv_at hl 2 rfl) ?_
  refine lv_iconst (v := 0) hx hb dL_pass_1 (by decide) ?_
  refine lv_aload_n hx hb dL_pass_2 rfl (lv_at hl 0 rfl) ?_
  refine lv_iload_n hx hb dL_pass_3 rfl (lv_at hl 1 rfl) ?_
  refine g_cVi (As := [.int (nI q)]) (rest := [.int 0, .ref (L 168)]) hx hb hml hown hts hK hA hG hS (k_X4_pass_ok l D cy N L _ (by omega) C q (why) (whq) (whm) (wh1) (wh2)) (cwV 1 hts gL_pass_X4_pass rfl rfl rfl (by decide +kernel) ⟨Nat.le_of_ble_eq_true rfl, Nat.le_of_ble_eq_true rfl⟩) (by omega) cW_o (ci := 4) rfl rfl rfl rfl hl.1 (Nat.le_of_ble_eq_true rfl) dL_pass_4 ⟨Nat.zero_le _, Nat.zero_le _⟩ (fun H locs hG hS => ?_)
  refine lv_i2l hx hb dL_pass_7 rfl ?_
  refine g_last hx hb hK hG hS (by omega) cW_168 (k := 0) rfl (by omega) (by decide) dL_pass_8 (fun H locs hG hS => ?_)
  have hG : GW D N L (gA N L s.heap.size) (cW cy L (oW cy F (vp_updL f 0 ((y_PR (cY C) q).toInt64))) (c_setY (c_save C) (y_pass (cY C) q))) _ := hG.to cW_u168
  refine lv_goto (tgt := 15) hx hb dL_pass_9 (by decide) ?_
  refine lv_iconst (v := 0) hx hb dL_pass_15 (by decide) ?_
  exact g_iret hx hb hr hlocks hK hG hS rfl dL_pass_16 ⟨rfl, rfl⟩
set_option maxHeartbeats 4000000 in
set_option maxRecDepth 100000 in
theorem k_L_set_ok (l : Launch) (D : va_G) (cy : Nat → ClassId) (N : Nat) (L : Nat → Nat) (F : Nat → va_E) (hN : 169 ≤ N) (f : Nat → Int64) (C : CT) (i : Nat) (v : Int32) (why : wfY (cY C)) (whq : cQ C ≤ 6) (whm : ∀ i, i < 6 → cM C i < 6) (whi : i < 4) (whv1 : ¬ v < z_least i) (whv2 : v ≤ z_most i) (whv3 : i = 0 → y_pads (cY C) 4 ≤ v) : GMw l D cy N L yL_set wsL_set ({ frames := 8, cells := 0, slots := 0, locals := 173 }) 0 0 [.ref (L 0), .int (nI i), .int v, .ref (L 168)] (cW cy L (oW cy F f) C) (some (.int 0)) (cW cy L (oW cy F (vp_updL f 0 ((yZ (cY C) i).toInt64))) (c_setY (c_save C) (y_setZ (cY C) i v))) := by
  refine GMw.ofW (cc := cL_set) (maxL := 5) (ret := (some .int)) (by decide) rfl (Nat.le_of_ble_eq_true rfl) ?_
  intro p e s m below meth c ls hx hb hr hts hown hlocks hml hK hA hG hS hl htb
  have hl : lv_has ls 5 [(0, .ref (L 0)), (1, .int (nI i)), (2, .int v), (3, .ref (L 168))] := hl
  refine lv_aload_n hx hb dL_set_0 rfl (lv_at hl 3 rfl) ?_
  refine lv_iconst (v := 0) hx hb dL_set_1 (by decide) ?_
  refine lv_aload_n hx hb dL_set_2 rfl (lv_at hl 0 rfl) ?_
  refine lv_iload_n hx hb dL_set_3 rfl (lv_at hl 1 rfl) ?_
  refine lv_iload_n hx hb dL_set_4 rfl (lv_at hl 2 rfl) ?_
  refine g_cVi (As := [.int (nI i), .int v]) (rest := [.int 0, .ref (L 168)]) hx hb hml hown hts hK hA hG hS (k_X4_set_ok l D cy N L _ (by omega) C i v (why) (whq) (whm) (whi) (whv1) (whv2) (whv3)) (cwV 2 hts gL_set_X4_set rfl rfl rfl (by decide +kernel) ⟨Nat.le_of_ble_eq_true rfl, Nat.le_of_ble_eq_true rfl⟩) (by omega) cW_o (ci := 4) rfl rfl rfl rfl hl.1 (Nat.le_of_ble_eq_true rfl) dL_set_5 ⟨Nat.zero_le _, Nat.zero_le _⟩ (fun H locs hG hS => ?_)
  refine lv_i2l hx hb dL_set_8 rfl ?_
  refine g_last hx hb hK hG hS (by omega) cW_168 (k := 0) rfl (by omega) (by decide) dL_set_9 (fun H locs hG hS => ?_)
  have hG : GW D N L (gA N L s.heap.size) (cW cy L (oW cy F (vp_updL f 0 ((yZ (cY C) i).toInt64))) (c_setY (c_save C) (y_setZ (cY C) i v))) _ := hG.to cW_u168
  refine lv_goto (tgt := 25) hx hb dL_set_10 (by decide) ?_
  refine lv_iconst (v := 0) hx hb dL_set_25 (by decide) ?_
  exact g_iret hx hb hr hlocks hK hG hS rfl dL_set_26 ⟨rfl, rfl⟩
set_option maxHeartbeats 4000000 in
set_option maxRecDepth 100000 in
theorem k_L_append_ok (l : Launch) (D : va_G) (cy : Nat → ClassId) (N : Nat) (L : Nat → Nat) (F : Nat → va_E) (hN : 169 ≤ N) (f : Nat → Int64) (C : CT) (a : Int32) (whl : cL C < 60) (wha1 : ¬ a < 33) (wha2 : a ≤ 126) : GMw l D cy N L yL_append wsL_append ({ frames := 8, cells := 0, slots := 0, locals := 171 }) 0 0 [.ref (L 0), .int a, .ref (L 168)] (cW cy L (oW cy F f) C) (some (.int 0)) (cW cy L (oW cy F (vp_updL f 0 ((nI (cL C + 1)).toInt64))) (cY C, cV C, cM C, cQ C, upd (cB C) (cL C) a, cL C + 1, cR C, cT C, cU C)) := by
  refine GMw.ofW (cc := cL_append) (maxL := 4) (ret := (some .int)) (by decide) rfl (Nat.le_of_ble_eq_true rfl) ?_
  intro p e s m below meth c ls hx hb hr hts hown hlocks hml hK hA hG hS hl htb
  have hl : lv_has ls 4 [(0, .ref (L 0)), (1, .int a), (2, .ref (L 168))] := hl
  refine lv_aload_n hx hb dL_append_0 rfl (lv_at hl 2 rfl) ?_
  refine lv_iconst (v := 0) hx hb dL_append_1 (by decide) ?_
  refine lv_aload_n hx hb dL_append_2 rfl (lv_at hl 0 rfl) ?_
  refine lv_iload_n hx hb dL_append_3 rfl (lv_at hl 1 rfl) ?_
  refine g_cVi (As := [.int a]) (rest := [.int 0, .ref (L 168)]) hx hb hml hown hts hK hA hG hS (k_X4_append_ok l D cy N L _ (by omega) C a (whl) (wha1) (wha2)) (cwV 1 hts gL_append_X4_append rfl rfl rfl (by decide +kernel) ⟨Nat.le_of_ble_eq_true rfl, Nat.le_of_ble_eq_true rfl⟩) (by omega) cW_o (ci := 4) rfl rfl rfl rfl hl.1 (Nat.le_of_ble_eq_true rfl) dL_append_4 ⟨Nat.zero_le _, Nat.zero_le _⟩ (fun H locs hG hS => ?_)
  refine lv_i2l hx hb dL_append_7 rfl ?_
  refine g_last hx hb hK hG hS (by omega) cW_168 (k := 0) rfl (by omega) (by decide) dL_append_8 (fun H locs hG hS => ?_)
  have hG : GW D N L (gA N L s.heap.size) (cW cy L (oW cy F (vp_updL f 0 ((nI (cL C + 1)).toInt64))) (cY C, cV C, cM C, cQ C, upd (cB C) (cL C) a, cL C + 1, cR C, cT C, cU C)) _ := hG.to cW_u168
  refine lv_goto (tgt := 18) hx hb dL_append_9 (by decide) ?_
  refine lv_iconst (v := 0) hx hb dL_append_18 (by decide) ?_
  exact g_iret hx hb hr hlocks hK hG hS rfl dL_append_19 ⟨rfl, rfl⟩
set_option maxHeartbeats 4000000 in
set_option maxRecDepth 100000 in
theorem k_L_undo_ok (l : Launch) (D : va_G) (cy : Nat → ClassId) (N : Nat) (L : Nat → Nat) (F : Nat → va_E) (hN : 169 ≤ N) (f : Nat → Int64) (C : CT)  (whq1 : 1 ≤ cQ C) (whq : cQ C ≤ 6) (whm : ∀ i, i < 6 → cM C i < 6) : GMw l D cy N L yL_undo wsL_undo ({ frames := 8, cells := 0, slots := 0, locals := 170 }) 0 0 [.ref (L 0), .ref (L 168)] (cW cy L (oW cy F f) C) (some (.int 0)) (cW cy L (oW cy F (vp_updL f 0 ((nI (cQ C - 1)).toInt64))) (y_like (cY C) (cV C (cM C (cQ C - 1))), cV C, cM C, cQ C - 1, cB C, cL C, cR C, cT C, cU C)) := by
  refine GMw.ofW (cc := cL_undo) (maxL := 3) (ret := (some .int)) (by decide) rfl (Nat.le_of_ble_eq_true rfl) ?_
  intro p e s m below meth c ls hx hb hr hts hown hlocks hml hK hA hG hS hl htb
  have hl : lv_has ls 3 [(0, .ref (L 0)), (1, .ref (L 168))] := hl
  refine lv_aload_n hx hb dL_undo_0 rfl (lv_at hl 1 rfl) ?_
  refine lv_iconst (v := 0) hx hb dL_undo_1 (by decide) ?_
  refine lv_aload_n hx hb dL_undo_2 rfl (lv_at hl 0 rfl) ?_
  refine g_cVi (As := []) (rest := [.int 0, .ref (L 168)]) hx hb hml hown hts hK hA hG hS (k_X4_undo_ok l D cy N L _ (by omega) C  (whq1) (whq) (whm)) (cwV 0 hts gL_undo_X4_undo rfl rfl rfl (by decide +kernel) ⟨Nat.le_of_ble_eq_true rfl, Nat.le_of_ble_eq_true rfl⟩) (by omega) cW_o (ci := 4) rfl rfl rfl rfl hl.1 (Nat.le_of_ble_eq_true rfl) dL_undo_3 ⟨Nat.zero_le _, Nat.zero_le _⟩ (fun H locs hG hS => ?_)
  refine lv_i2l hx hb dL_undo_6 rfl ?_
  refine g_last hx hb hK hG hS (by omega) cW_168 (k := 0) rfl (by omega) (by decide) dL_undo_7 (fun H locs hG hS => ?_)
  have hG : GW D N L (gA N L s.heap.size) (cW cy L (oW cy F (vp_updL f 0 ((nI (cQ C - 1)).toInt64))) (y_like (cY C) (cV C (cM C (cQ C - 1))), cV C, cM C, cQ C - 1, cB C, cL C, cR C, cT C, cU C)) _ := hG.to cW_u168
  refine lv_goto (tgt := 14) hx hb dL_undo_8 (by decide) ?_
  refine lv_iconst (v := 0) hx hb dL_undo_14 (by decide) ?_
  exact g_iret hx hb hr hlocks hK hG hS rfl dL_undo_15 ⟨rfl, rfl⟩
set_option maxHeartbeats 4000000 in
set_option maxRecDepth 100000 in
theorem k_L_silo_ok (l : Launch) (D : va_G) (cy : Nat → ClassId) (N : Nat) (L : Nat → Nat) (F : Nat → va_E) (hN : 169 ≤ N) (f : Nat → Int64) (C : CT) (k : Nat) (v : Int32) (why : wfY (cY C)) (whk : k < 4) (whv : v = 0 ∨ v = 1 ∨ v = 2 ∨ v = 3 ∨ v = 4 ∨ v = 5) : GMw l D cy N L yL_silo wsL_silo ({ frames := 8, cells := 0, slots := 0, locals := 173 }) 0 0 [.ref (L 0), .int (nI k), .int v, .ref (L 168)] (cW cy L (oW cy F f) C) (some (.int 0)) (cW cy L (oW cy F (vp_updL f 0 ((y_tellS (cY C) k v).toInt64))) C) := by
  refine GMw.ofW (cc := cL_silo) (maxL := 5) (ret := (some .int)) (by decide) rfl (Nat.le_of_ble_eq_true rfl) ?_
  intro p e s m below meth c ls hx hb hr hts hown hlocks hml hK hA hG hS hl htb
  have hl : lv_has ls 5 [(0, .ref (L 0)), (1, .int (nI k)), (2, .int v), (3, .ref (L 168))] := hl
  refine lv_aload_n hx hb dL_silo_0 rfl (lv_at hl 3 rfl) ?_
  refine lv_iconst (v := 0) hx hb dL_silo_1 (by decide) ?_
  refine lv_aload_n hx hb dL_silo_2 rfl (lv_at hl 0 rfl) ?_
  refine lv_iload_n hx hb dL_silo_3 rfl (lv_at hl 1 rfl) ?_
  refine lv_iload_n hx hb dL_silo_4 rfl (lv_at hl 2 rfl) ?_
  refine g_cVi (As := [.int (nI k), .int v]) (rest := [.int 0, .ref (L 168)]) hx hb hml hown hts hK hA hG hS (k_X4_silo_ok l D cy N L _ (by omega) C k v (why) (whk) (whv)) (cwV 2 hts gL_silo_X4_silo rfl rfl rfl (by decide +kernel) ⟨Nat.le_of_ble_eq_true rfl, Nat.le_of_ble_eq_true rfl⟩) (by omega) cW_o (ci := 4) rfl rfl rfl rfl hl.1 (Nat.le_of_ble_eq_true rfl) dL_silo_5 ⟨Nat.zero_le _, Nat.zero_le _⟩ (fun H locs hG hS => ?_)
  refine lv_i2l hx hb dL_silo_8 rfl ?_
  refine g_last hx hb hK hG hS (by omega) cW_168 (k := 0) rfl (by omega) (by decide) dL_silo_9 (fun H locs hG hS => ?_)
  have hG : GW D N L (gA N L s.heap.size) (cW cy L (oW cy F (vp_updL f 0 ((y_tellS (cY C) k v).toInt64))) C) _ := hG.to cW_u168
  refine lv_goto (tgt := 21) hx hb dL_silo_10 (by decide) ?_
  refine lv_iconst (v := 0) hx hb dL_silo_21 (by decide) ?_
  exact g_iret hx hb hr hlocks hK hG hS rfl dL_silo_22 ⟨rfl, rfl⟩
set_option maxHeartbeats 4000000 in
set_option maxRecDepth 100000 in
theorem k_L_layer_ok (l : Launch) (D : va_G) (cy : Nat → ClassId) (N : Nat) (L : Nat → Nat) (F : Nat → va_E) (hN : 169 ≤ N) (f : Nat → Int64) (C : CT) (k j : Nat) (v : Int32) (why : wfY (cY C)) (whk : k < 4) (whj : j < sN (yS (cY C) k)) (whv : v = 0 ∨ v = 1 ∨ v = 2) : GMw l D cy N L yL_layer wsL_layer ({ frames := 8, cells := 0, slots := 0, locals := 174 }) 0 0 [.ref (L 0), .int (nI k), .int (nI j), .int v, .ref (L 168)] (cW cy L (oW cy F f) C) (some (.int 0)) (cW cy L (oW cy F (vp_updL f 0 ((y_tellL (cY C) k j v).toInt64))) C) := by
  refine GMw.ofW (cc := cL_layer) (maxL := 6) (ret := (some .int)) (by decide) rfl (Nat.le_of_ble_eq_true rfl) ?_
  intro p e s m below meth c ls hx hb hr hts hown hlocks hml hK hA hG hS hl htb
  have hl : lv_has ls 6 [(0, .ref (L 0)), (1, .int (nI k)), (2, .int (nI j)), (3, .int v), (4, .ref (L 168))] := hl
  refine lv_aload hx hb dL_layer_0 (lv_at hl 4 rfl) ?_
  refine lv_iconst (v := 0) hx hb dL_layer_2 (by decide) ?_
  refine lv_aload_n hx hb dL_layer_3 rfl (lv_at hl 0 rfl) ?_
  refine lv_iload_n hx hb dL_layer_4 rfl (lv_at hl 1 rfl) ?_
  refine lv_iload_n hx hb dL_layer_5 rfl (lv_at hl 2 rfl) ?_
  refine lv_iload_n hx hb dL_layer_6 rfl (lv_at hl 3 rfl) ?_
  refine g_cVi (As := [.int (nI k), .int (nI j), .int v]) (rest := [.int 0, .ref (L 168)]) hx hb hml hown hts hK hA hG hS (k_X4_layer_ok l D cy N L _ (by omega) C k j v (why) (whk) (whj) (whv)) (cwV 3 hts gL_layer_X4_layer rfl rfl rfl (by decide +kernel) ⟨Nat.le_of_ble_eq_true rfl, Nat.le_of_ble_eq_true rfl⟩) (by omega) cW_o (ci := 4) rfl rfl rfl rfl hl.1 (Nat.le_of_ble_eq_true rfl) dL_layer_7 ⟨Nat.zero_le _, Nat.zero_le _⟩ (fun H locs hG hS => ?_)
  refine lv_i2l hx hb dL_layer_10 rfl ?_
  refine g_last hx hb hK hG hS (by omega) cW_168 (k := 0) rfl (by omega) (by decide) dL_layer_11 (fun H locs hG hS => ?_)
  have hG : GW D N L (gA N L s.heap.size) (cW cy L (oW cy F (vp_updL f 0 ((y_tellL (cY C) k j v).toInt64))) C) _ := hG.to cW_u168
  refine lv_goto (tgt := 23) hx hb dL_layer_12 (by decide) ?_
  refine lv_iconst (v := 0) hx hb dL_layer_23 (by decide) ?_
  exact g_iret hx hb hr hlocks hK hG hS rfl dL_layer_24 ⟨rfl, rfl⟩
set_option maxHeartbeats 4000000 in
set_option maxRecDepth 100000 in
theorem k_L_shipOf_ok (l : Launch) (D : va_G) (cy : Nat → ClassId) (N : Nat) (L : Nat → Nat) (F : Nat → va_E) (hN : 169 ≤ N) (f : Nat → Int64) (C : CT) (j : Nat) (v : Int32) (whj : j < 6) (whv : v = 0 ∨ v = 1) : GMw l D cy N L yL_shipOf wsL_shipOf ({ frames := 8, cells := 0, slots := 0, locals := 172 }) 0 0 [.ref (L 0), .int (nI j), .int v, .ref (L 168)] (cW cy L (oW cy F f) C) (some (.int 0)) (cW cy L (oW cy F (vp_updL f 0 ((y_tellH (cY C) j v).toInt64))) C) := by
  refine GMw.ofW (cc := cL_shipOf) (maxL := 5) (ret := (some .int)) (by decide) rfl (Nat.le_of_ble_eq_true rfl) ?_
  intro p e s m below meth c ls hx hb hr hts hown hlocks hml hK hA hG hS hl htb
  have hl : lv_has ls 5 [(0, .ref (L 0)), (1, .int (nI j)), (2, .int v), (3, .ref (L 168))] := hl
  refine lv_aload_n hx hb dL_shipOf_0 rfl (lv_at hl 3 rfl) ?_
  refine lv_iconst (v := 0) hx hb dL_shipOf_1 (by decide) ?_
  refine lv_aload_n hx hb dL_shipOf_2 rfl (lv_at hl 0 rfl) ?_
  refine lv_iload_n hx hb dL_shipOf_3 rfl (lv_at hl 1 rfl) ?_
  refine lv_iload_n hx hb dL_shipOf_4 rfl (lv_at hl 2 rfl) ?_
  refine g_cVi (As := [.int (nI j), .int v]) (rest := [.int 0, .ref (L 168)]) hx hb hml hown hts hK hA hG hS (k_X4_shipOf_ok l D cy N L _ (by omega) C j v (whj) (whv)) (cwV 2 hts gL_shipOf_X4_shipOf rfl rfl rfl (by decide +kernel) ⟨Nat.le_of_ble_eq_true rfl, Nat.le_of_ble_eq_true rfl⟩) (by omega) cW_o (ci := 4) rfl rfl rfl rfl hl.1 (Nat.le_of_ble_eq_true rfl) dL_shipOf_5 ⟨Nat.zero_le _, Nat.zero_le _⟩ (fun H locs hG hS => ?_)
  refine lv_i2l hx hb dL_shipOf_8 rfl ?_
  refine g_last hx hb hK hG hS (by omega) cW_168 (k := 0) rfl (by omega) (by decide) dL_shipOf_9 (fun H locs hG hS => ?_)
  have hG : GW D N L (gA N L s.heap.size) (cW cy L (oW cy F (vp_updL f 0 ((y_tellH (cY C) j v).toInt64))) C) _ := hG.to cW_u168
  refine lv_goto (tgt := 21) hx hb dL_shipOf_10 (by decide) ?_
  refine lv_iconst (v := 0) hx hb dL_shipOf_21 (by decide) ?_
  exact g_iret hx hb hr hlocks hK hG hS rfl dL_shipOf_22 ⟨rfl, rfl⟩
set_option maxHeartbeats 4000000 in
set_option maxRecDepth 100000 in
theorem k_L_count_ok (l : Launch) (D : va_G) (cy : Nat → ClassId) (N : Nat) (L : Nat → Nat) (F : Nat → va_E) (hN : 169 ≤ N) (f : Nat → Int64) (C : CT) (v : Int32) (why : wfY (cY C)) (whv : v = 0 ∨ v = 1 ∨ v = 2 ∨ v = 3 ∨ v = 4 ∨ v = 5 ∨ v = 6 ∨ v = 7 ∨ v = 8 ∨ v = 9 ∨ v = 10 ∨ v = 11 ∨ v = 12 ∨ v = 13 ∨ v = 14) : GMw l D cy N L yL_count wsL_count ({ frames := 8, cells := 0, slots := 0, locals := 171 }) 0 0 [.ref (L 0), .int v, .ref (L 168)] (cW cy L (oW cy F f) C) (some (.int 0)) (cW cy L (oW cy F (vp_updL f 0 ((c_count C v).toInt64))) C) := by
  refine GMw.ofW (cc := cL_count) (maxL := 4) (ret := (some .int)) (by decide) rfl (Nat.le_of_ble_eq_true rfl) ?_
  intro p e s m below meth c ls hx hb hr hts hown hlocks hml hK hA hG hS hl htb
  have hl : lv_has ls 4 [(0, .ref (L 0)), (1, .int v), (2, .ref (L 168))] := hl
  refine lv_aload_n hx hb dL_count_0 rfl (lv_at hl 2 rfl) ?_
  refine lv_iconst (v := 0) hx hb dL_count_1 (by decide) ?_
  refine lv_aload_n hx hb dL_count_2 rfl (lv_at hl 0 rfl) ?_
  refine lv_iload_n hx hb dL_count_3 rfl (lv_at hl 1 rfl) ?_
  refine g_cVi (As := [.int v]) (rest := [.int 0, .ref (L 168)]) hx hb hml hown hts hK hA hG hS (k_X4_count_ok l D cy N L _ (by omega) C v (why) (whv)) (cwV 1 hts gL_count_X4_count rfl rfl rfl (by decide +kernel) ⟨Nat.le_of_ble_eq_true rfl, Nat.le_of_ble_eq_true rfl⟩) (by omega) cW_o (ci := 4) rfl rfl rfl rfl hl.1 (Nat.le_of_ble_eq_true rfl) dL_count_4 ⟨Nat.zero_le _, Nat.zero_le _⟩ (fun H locs hG hS => ?_)
  refine lv_i2l hx hb dL_count_7 rfl ?_
  refine g_last hx hb hK hG hS (by omega) cW_168 (k := 0) rfl (by omega) (by decide) dL_count_8 (fun H locs hG hS => ?_)
  have hG : GW D N L (gA N L s.heap.size) (cW cy L (oW cy F (vp_updL f 0 ((c_count C v).toInt64))) C) _ := hG.to cW_u168
  refine lv_goto (tgt := 15) hx hb dL_count_9 (by decide) ?_
  refine lv_iconst (v := 0) hx hb dL_count_15 (by decide) ?_
  exact g_iret hx hb hr hlocks hK hG hS rfl dL_count_16 ⟨rfl, rfl⟩
set_option maxHeartbeats 4000000 in
set_option maxRecDepth 100000 in
theorem k_L_whyNot_ok (l : Launch) (D : va_G) (cy : Nat → ClassId) (N : Nat) (L : Nat → Nat) (F : Nat → va_E) (hN : 169 ≤ N) (f : Nat → Int64) (C : CT) (k j : Nat) (why : wfY (cY C)) (whk : k < 4) (whj : j < 6) : GMw l D cy N L yL_whyNot wsL_whyNot ({ frames := 8, cells := 0, slots := 0, locals := 173 }) 0 0 [.ref (L 0), .int (nI k), .int (nI j), .ref (L 168)] (cW cy L (oW cy F f) C) (some (.int 0)) (cW cy L (oW cy F (vp_updL f 0 ((y_why (cY C) k j).toInt64))) C) := by
  refine GMw.ofW (cc := cL_whyNot) (maxL := 5) (ret := (some .int)) (by decide) rfl (Nat.le_of_ble_eq_true rfl) ?_
  intro p e s m below meth c ls hx hb hr hts hown hlocks hml hK hA hG hS hl htb
  have hl : lv_has ls 5 [(0, .ref (L 0)), (1, .int (nI k)), (2, .int (nI j)), (3, .ref (L 168))] := hl
  refine lv_aload_n hx hb dL_whyNot_0 rfl (lv_at hl 3 rfl) ?_
  refine lv_iconst (v := 0) hx hb dL_whyNot_1 (by decide) ?_
  refine lv_aload_n hx hb dL_whyNot_2 rfl (lv_at hl 0 rfl) ?_
  refine lv_iload_n hx hb dL_whyNot_3 rfl (lv_at hl 1 rfl) ?_
  refine lv_iload_n hx hb dL_whyNot_4 rfl (lv_at hl 2 rfl) ?_
  refine g_cVi (As := [.int (nI k), .int (nI j)]) (rest := [.int 0, .ref (L 168)]) hx hb hml hown hts hK hA hG hS (k_X4_whyNot_ok l D cy N L _ (by omega) C k j (why) (whk) (whj)) (cwV 2 hts gL_whyNot_X4_whyNot rfl rfl rfl (by decide +kernel) ⟨Nat.le_of_ble_eq_true rfl, Nat.le_of_ble_eq_true rfl⟩) (by omega) cW_o (ci := 4) rfl rfl rfl rfl hl.1 (Nat.le_of_ble_eq_true rfl) dL_whyNot_5 ⟨Nat.zero_le _, Nat.zero_le _⟩ (fun H locs hG hS => ?_)
  refine lv_i2l hx hb dL_whyNot_8 rfl ?_
  refine g_last hx hb hK hG hS (by omega) cW_168 (k := 0) rfl (by omega) (by decide) dL_whyNot_9 (fun H locs hG hS => ?_)
  have hG : GW D N L (gA N L s.heap.size) (cW cy L (oW cy F (vp_updL f 0 ((y_why (cY C) k j).toInt64))) C) _ := hG.to cW_u168
  refine lv_goto (tgt := 17) hx hb dL_whyNot_10 (by decide) ?_
  refine lv_iconst (v := 0) hx hb dL_whyNot_17 (by decide) ?_
  exact g_iret hx hb hr hlocks hK hG hS rfl dL_whyNot_18 ⟨rfl, rfl⟩
set_option maxHeartbeats 4000000 in
set_option maxRecDepth 100000 in
theorem k_L_shakesNeeded_ok (l : Launch) (D : va_G) (cy : Nat → ClassId) (N : Nat) (L : Nat → Nat) (F : Nat → va_E) (hN : 169 ≤ N) (f : Nat → Int64) (C : CT) (k : Nat) (why : wfY (cY C)) (whk : k < 4) (whn1 : 1 ≤ sN (yS (cY C) k) ∨ sC (yS (cY C) k) = 2 ∨ sC (yS (cY C) k) = 0) : GMw l D cy N L yL_shakesNeeded wsL_shakesNeeded ({ frames := 8, cells := 0, slots := 0, locals := 171 }) 0 0 [.ref (L 0), .int (nI k), .ref (L 168)] (cW cy L (oW cy F f) C) (some (.int 0)) (cW cy L (oW cy F (vp_updL f 0 ((c_brk (yZ (cY C)) (yS (cY C) k)).toInt64))) C) := by
  refine GMw.ofW (cc := cL_shakesNeeded) (maxL := 4) (ret := (some .int)) (by decide) rfl (Nat.le_of_ble_eq_true rfl) ?_
  intro p e s m below meth c ls hx hb hr hts hown hlocks hml hK hA hG hS hl htb
  have hl : lv_has ls 4 [(0, .ref (L 0)), (1, .int (nI k)), (2, .ref (L 168))] := hl
  refine lv_aload_n hx hb dL_shakesNeeded_0 rfl (lv_at hl 2 rfl) ?_
  refine lv_iconst (v := 0) hx hb dL_shakesNeeded_1 (by decide) ?_
  refine lv_aload_n hx hb dL_shakesNeeded_2 rfl (lv_at hl 0 rfl) ?_
  refine lv_iload_n hx hb dL_shakesNeeded_3 rfl (lv_at hl 1 rfl) ?_
  refine g_cVi (As := [.int (nI k)]) (rest := [.int 0, .ref (L 168)]) hx hb hml hown hts hK hA hG hS (k_X4_shakesNeeded_ok l D cy N L _ (by omega) C k (why) (whk) (whn1)) (cwV 1 hts gL_shakesNeeded_X4_shakesNeeded rfl rfl rfl (by decide +kernel) ⟨Nat.le_of_ble_eq_true rfl, Nat.le_of_ble_eq_true rfl⟩) (by omega) cW_o (ci := 4) rfl rfl rfl rfl hl.1 (Nat.le_of_ble_eq_true rfl) dL_shakesNeeded_4 ⟨Nat.zero_le _, Nat.zero_le _⟩ (fun H locs hG hS => ?_)
  refine lv_i2l hx hb dL_shakesNeeded_7 rfl ?_
  refine g_last hx hb hK hG hS (by omega) cW_168 (k := 0) rfl (by omega) (by decide) dL_shakesNeeded_8 (fun H locs hG hS => ?_)
  have hG : GW D N L (gA N L s.heap.size) (cW cy L (oW cy F (vp_updL f 0 ((c_brk (yZ (cY C)) (yS (cY C) k)).toInt64))) C) _ := hG.to cW_u168
  refine lv_goto (tgt := 15) hx hb dL_shakesNeeded_9 (by decide) ?_
  refine lv_iconst (v := 0) hx hb dL_shakesNeeded_15 (by decide) ?_
  exact g_iret hx hb hr hlocks hK hG hS rfl dL_shakesNeeded_16 ⟨rfl, rfl⟩
set_option maxHeartbeats 4000000 in
set_option maxRecDepth 100000 in
theorem k_L_ifFlowed_ok (l : Launch) (D : va_G) (cy : Nat → ClassId) (N : Nat) (L : Nat → Nat) (F : Nat → va_E) (hN : 169 ≤ N) (f : Nat → Int64) (C : CT) (k j q : Nat) (u : Int32) (why : wfY (cY C)) (whk : k < 4) (whj : j < 6) (wh1 : 1 ≤ q) (wh2 : q ≤ 24) (whu1 : ¬ u < 0) (whu2 : u ≤ 4) : GMw l D cy N L yL_ifFlowed wsL_ifFlowed ({ frames := 8, cells := 0, slots := 0, locals := 174 }) 0 0 [.ref (L 0), .int (nI k), .int (nI j), .int (nI q), .int u, .ref (L 168)] (cW cy L (oW cy F f) C) (some (.int 0)) (cW cy L (oW cy F (vp_updL f 0 ((c_ifR C k j q u).toInt64))) (c_ifS C k j q u)) := by
  refine GMw.ofW (cc := cL_ifFlowed) (maxL := 7) (ret := (some .int)) (by decide) rfl (Nat.le_of_ble_eq_true rfl) ?_
  intro p e s m below meth c ls hx hb hr hts hown hlocks hml hK hA hG hS hl htb
  have hl : lv_has ls 7 [(0, .ref (L 0)), (1, .int (nI k)), (2, .int (nI j)), (3, .int (nI q)), (4, .int u), (5, .ref (L 168))] := hl
  refine lv_aload hx hb dL_ifFlowed_0 (lv_at hl 5 rfl) ?_
  refine lv_iconst (v := 0) hx hb dL_ifFlowed_2 (by decide) ?_
  refine lv_aload_n hx hb dL_ifFlowed_3 rfl (lv_at hl 0 rfl) ?_
  refine lv_iload_n hx hb dL_ifFlowed_4 rfl (lv_at hl 1 rfl) ?_
  refine lv_iload_n hx hb dL_ifFlowed_5 rfl (lv_at hl 2 rfl) ?_
  refine lv_iload_n hx hb dL_ifFlowed_6 rfl (lv_at hl 3 rfl) ?_
  refine lv_iload hx hb dL_ifFlowed_7 (lv_at hl 4 rfl) ?_
  refine g_cVi (As := [.int (nI k), .int (nI j), .int (nI q), .int u]) (rest := [.int 0, .ref (L 168)]) hx hb hml hown hts hK hA hG hS (k_X4_ifFlowed_ok l D cy N L _ (by omega) C k j q u (why) (whk) (whj) (wh1) (wh2) (whu1) (whu2)) (cwV 4 hts gL_ifFlowed_X4_ifFlowed rfl rfl rfl (by decide +kernel) ⟨Nat.le_of_ble_eq_true rfl, Nat.le_of_ble_eq_true rfl⟩) (by omega) cW_o (ci := 4) rfl rfl rfl rfl hl.1 (Nat.le_of_ble_eq_true rfl) dL_ifFlowed_9 ⟨Nat.zero_le _, Nat.zero_le _⟩ (fun H locs hG hS => ?_)
  refine lv_i2l hx hb dL_ifFlowed_12 rfl ?_
  refine g_last hx hb hK hG hS (by omega) cW_168 (k := 0) rfl (by omega) (by decide) dL_ifFlowed_13 (fun H locs hG hS => ?_)
  have hG : GW D N L (gA N L s.heap.size) (cW cy L (oW cy F (vp_updL f 0 ((c_ifR C k j q u).toInt64))) (c_ifS C k j q u)) _ := hG.to cW_u168
  refine lv_goto (tgt := 25) hx hb dL_ifFlowed_14 (by decide) ?_
  refine lv_iconst (v := 0) hx hb dL_ifFlowed_25 (by decide) ?_
  exact g_iret hx hb hr hlocks hK hG hS rfl dL_ifFlowed_26 ⟨rfl, rfl⟩
set_option maxHeartbeats 4000000 in
set_option maxRecDepth 100000 in
theorem k_L_unload_t1 (l : Launch) (hst : l.stackTraces = false) (D : va_G) (cy : Nat → ClassId) (N : Nat) (L : Nat → Nat) (F : Nat → va_E) (hN : 169 ≤ N) (f : Nat → Int64) (C : CT) (a b t : Int32) (wh : ¬ c_noSilo a = 0 ∨ ¬ c_noShip b = 0) : GMw l D cy N L yL_unload wsL_unload ({ frames := 8, cells := 1, slots := 6, locals := 173 }) 1 6 [.ref (L 0), .int a, .int b, .int t, .ref (L 168)] (cW cy L (oW cy F f) C) (some (.int 1)) (cW cy L (oW cy F f) C) := by
  refine GMw.ofW (cc := cL_unload) (maxL := 6) (ret := (some .int)) (by decide) rfl (Nat.le_of_ble_eq_true rfl) ?_
  intro p e s m below meth c ls hx hb hr hts hown hlocks hml hK hA hG hS hl htb
  have hl : lv_has ls 6 [(0, .ref (L 0)), (1, .int a), (2, .int b), (3, .int t), (4, .ref (L 168))] := hl
  refine lv_aload hx hb dL_unload_0 (lv_at hl 4 rfl) ?_
  refine lv_iconst (v := 0) hx hb dL_unload_2 (by decide) ?_
  refine lv_aload_n hx hb dL_unload_3 rfl (lv_at hl 0 rfl) ?_
  refine lv_iload_n hx hb dL_unload_4 rfl (lv_at hl 1 rfl) ?_
  refine lv_iload_n hx hb dL_unload_5 rfl (lv_at hl 2 rfl) ?_
  refine lv_iload_n hx hb dL_unload_6 rfl (lv_at hl 3 rfl) ?_
  have hpre : ∀ z ∈ ([] : List ExceptionTableEntry), z.catchType ≠ 0 ∧ ∃ nm : String, Cond.classLink RL z.catchType nm ∈ wsL_unload ∧ (xI, nm) ∈ gNc := fun z hz => nomatch hz
  refine g_catchV (As := [.int a, .int b, .int t]) (rest := [.int 0, .ref (L 168)]) (hpc := 15) hx hb hml hown hts hK hA hG hS (k_X4_unload_t1 l hst D cy N L _ (by omega) C a b t (wh)) (cwV 3 hts gL_unload_X4_unload rfl rfl rfl (by decide +kernel) ⟨Nat.le_of_ble_eq_true rfl, Nat.le_of_ble_eq_true rfl⟩) (by omega) cW_o (ci := 4) rfl rfl rfl rfl hl.1 (Nat.le_of_ble_eq_true rfl) dL_unload_7 ⟨Nat.le_of_ble_eq_true rfl, Nat.le_of_ble_eq_true rfl⟩ [] ⟨0, 12, 15, 13⟩ [⟨0, 12, 19, 15⟩] htb hpre (by decide) (by decide) (by decide +kernel) (by decide) rfl (fun H locs q9 hG hS => ?_)
  refine lv_astore (lv' := [(5, .ref q9), (0, .ref (L 0)), (1, .int a), (2, .int b), (3, .int t), (4, .ref (L 168))]) hx hb dL_unload_15 hl (by decide) rfl (fun ls hl => ?_)
  refine lv_iconst (v := 1) hx hb dL_unload_17 (by decide) ?_
  exact g_iret hx hb hr hlocks hK hG hS rfl dL_unload_18 ⟨rfl, rfl⟩
set_option maxHeartbeats 4000000 in
set_option maxRecDepth 100000 in
theorem k_L_flow_t1 (l : Launch) (hst : l.stackTraces = false) (D : va_G) (cy : Nat → ClassId) (N : Nat) (L : Nat → Nat) (F : Nat → va_E) (hN : 169 ≤ N) (f : Nat → Int64) (C : CT) (a b t : Int32) (wh : ¬ c_noSilo a = 0 ∨ ¬ c_noShip b = 0) : GMw l D cy N L yL_flow wsL_flow ({ frames := 8, cells := 1, slots := 6, locals := 173 }) 1 6 [.ref (L 0), .int a, .int b, .int t, .ref (L 168)] (cW cy L (oW cy F f) C) (some (.int 1)) (cW cy L (oW cy F f) C) := by
  refine GMw.ofW (cc := cL_flow) (maxL := 6) (ret := (some .int)) (by decide) rfl (Nat.le_of_ble_eq_true rfl) ?_
  intro p e s m below meth c ls hx hb hr hts hown hlocks hml hK hA hG hS hl htb
  have hl : lv_has ls 6 [(0, .ref (L 0)), (1, .int a), (2, .int b), (3, .int t), (4, .ref (L 168))] := hl
  refine lv_aload hx hb dL_flow_0 (lv_at hl 4 rfl) ?_
  refine lv_iconst (v := 0) hx hb dL_flow_2 (by decide) ?_
  refine lv_aload_n hx hb dL_flow_3 rfl (lv_at hl 0 rfl) ?_
  refine lv_iload_n hx hb dL_flow_4 rfl (lv_at hl 1 rfl) ?_
  refine lv_iload_n hx hb dL_flow_5 rfl (lv_at hl 2 rfl) ?_
  refine lv_iload_n hx hb dL_flow_6 rfl (lv_at hl 3 rfl) ?_
  have hpre : ∀ z ∈ ([] : List ExceptionTableEntry), z.catchType ≠ 0 ∧ ∃ nm : String, Cond.classLink RL z.catchType nm ∈ wsL_flow ∧ (xI, nm) ∈ gNc := fun z hz => nomatch hz
  refine g_catchV (As := [.int a, .int b, .int t]) (rest := [.int 0, .ref (L 168)]) (hpc := 15) hx hb hml hown hts hK hA hG hS (k_X4_flow_t1 l hst D cy N L _ (by omega) C a b t (wh)) (cwV 3 hts gL_flow_X4_flow rfl rfl rfl (by decide +kernel) ⟨Nat.le_of_ble_eq_true rfl, Nat.le_of_ble_eq_true rfl⟩) (by omega) cW_o (ci := 4) rfl rfl rfl rfl hl.1 (Nat.le_of_ble_eq_true rfl) dL_flow_7 ⟨Nat.le_of_ble_eq_true rfl, Nat.le_of_ble_eq_true rfl⟩ [] ⟨0, 12, 15, 13⟩ [⟨0, 12, 19, 15⟩] htb hpre (by decide) (by decide) (by decide +kernel) (by decide) rfl (fun H locs q9 hG hS => ?_)
  refine lv_astore (lv' := [(5, .ref q9), (0, .ref (L 0)), (1, .int a), (2, .int b), (3, .int t), (4, .ref (L 168))]) hx hb dL_flow_15 hl (by decide) rfl (fun ls hl => ?_)
  refine lv_iconst (v := 1) hx hb dL_flow_17 (by decide) ?_
  exact g_iret hx hb hr hlocks hK hG hS rfl dL_flow_18 ⟨rfl, rfl⟩
set_option maxHeartbeats 4000000 in
set_option maxRecDepth 100000 in
theorem k_L_unload_t2 (l : Launch) (hst : l.stackTraces = false) (D : va_G) (cy : Nat → ClassId) (N : Nat) (L : Nat → Nat) (F : Nat → va_E) (hN : 169 ≤ N) (f : Nat → Int64) (C : CT) (k j : Nat) (t : Int32) (whk : k < 4) (whj : j < 6) (wh : t < 1 ∨ ¬ t ≤ 500) : GMw l D cy N L yL_unload wsL_unload ({ frames := 8, cells := 1, slots := 6, locals := 173 }) 1 6 [.ref (L 0), .int (nI k), .int (nI j), .int t, .ref (L 168)] (cW cy L (oW cy F f) C) (some (.int 2)) (cW cy L (oW cy F f) C) := by
  refine GMw.ofW (cc := cL_unload) (maxL := 6) (ret := (some .int)) (by decide) rfl (Nat.le_of_ble_eq_true rfl) ?_
  intro p e s m below meth c ls hx hb hr hts hown hlocks hml hK hA hG hS hl htb
  have hl : lv_has ls 6 [(0, .ref (L 0)), (1, .int (nI k)), (2, .int (nI j)), (3, .int t), (4, .ref (L 168))] := hl
  refine lv_aload hx hb dL_unload_0 (lv_at hl 4 rfl) ?_
  refine lv_iconst (v := 0) hx hb dL_unload_2 (by decide) ?_
  refine lv_aload_n hx hb dL_unload_3 rfl (lv_at hl 0 rfl) ?_
  refine lv_iload_n hx hb dL_unload_4 rfl (lv_at hl 1 rfl) ?_
  refine lv_iload_n hx hb dL_unload_5 rfl (lv_at hl 2 rfl) ?_
  refine lv_iload_n hx hb dL_unload_6 rfl (lv_at hl 3 rfl) ?_
  have hpre : ∀ z ∈ ([⟨0, 12, 15, 13⟩] : List ExceptionTableEntry), z.catchType ≠ 0 ∧ ∃ nm : String, Cond.classLink RL z.catchType nm ∈ wsL_unload ∧ (xA, nm) ∈ gNc := fun z hz => by
    rcases List.mem_cons.mp hz with rfl | hz
    · exact ⟨by decide, xI, by decide +kernel, by decide +kernel⟩
    exact nomatch hz
  refine g_catchV (As := [.int (nI k), .int (nI j), .int t]) (rest := [.int 0, .ref (L 168)]) (hpc := 19) hx hb hml hown hts hK hA hG hS (k_X4_unload_t2 l hst D cy N L _ (by omega) C k j t (whk) (whj) (wh)) (cwV 3 hts gL_unload_X4_unload rfl rfl rfl (by decide +kernel) ⟨Nat.le_of_ble_eq_true rfl, Nat.le_of_ble_eq_true rfl⟩) (by omega) cW_o (ci := 4) rfl rfl rfl rfl hl.1 (Nat.le_of_ble_eq_true rfl) dL_unload_7 ⟨Nat.le_of_ble_eq_true rfl, Nat.le_of_ble_eq_true rfl⟩ [⟨0, 12, 15, 13⟩] ⟨0, 12, 19, 15⟩ [] htb hpre (by decide) (by decide) (by decide +kernel) (by decide) rfl (fun H locs q9 hG hS => ?_)
  refine lv_astore (lv' := [(5, .ref q9), (0, .ref (L 0)), (1, .int (nI k)), (2, .int (nI j)), (3, .int t), (4, .ref (L 168))]) hx hb dL_unload_19 hl (by decide) rfl (fun ls hl => ?_)
  refine lv_iconst (v := 2) hx hb dL_unload_21 (by decide) ?_
  exact g_iret hx hb hr hlocks hK hG hS rfl dL_unload_22 ⟨rfl, rfl⟩
set_option maxHeartbeats 4000000 in
set_option maxRecDepth 100000 in
theorem k_L_flow_t2 (l : Launch) (hst : l.stackTraces = false) (D : va_G) (cy : Nat → ClassId) (N : Nat) (L : Nat → Nat) (F : Nat → va_E) (hN : 169 ≤ N) (f : Nat → Int64) (C : CT) (k j : Nat) (t : Int32) (whk : k < 4) (whj : j < 6) (wh : t < 1 ∨ ¬ t ≤ 24) : GMw l D cy N L yL_flow wsL_flow ({ frames := 8, cells := 1, slots := 6, locals := 173 }) 1 6 [.ref (L 0), .int (nI k), .int (nI j), .int t, .ref (L 168)] (cW cy L (oW cy F f) C) (some (.int 2)) (cW cy L (oW cy F f) C) := by
  refine GMw.ofW (cc := cL_flow) (maxL := 6) (ret := (some .int)) (by decide) rfl (Nat.le_of_ble_eq_true rfl) ?_
  intro p e s m below meth c ls hx hb hr hts hown hlocks hml hK hA hG hS hl htb
  have hl : lv_has ls 6 [(0, .ref (L 0)), (1, .int (nI k)), (2, .int (nI j)), (3, .int t), (4, .ref (L 168))] := hl
  refine lv_aload hx hb dL_flow_0 (lv_at hl 4 rfl) ?_
  refine lv_iconst (v := 0) hx hb dL_flow_2 (by decide) ?_
  refine lv_aload_n hx hb dL_flow_3 rfl (lv_at hl 0 rfl) ?_
  refine lv_iload_n hx hb dL_flow_4 rfl (lv_at hl 1 rfl) ?_
  refine lv_iload_n hx hb dL_flow_5 rfl (lv_at hl 2 rfl) ?_
  refine lv_iload_n hx hb dL_flow_6 rfl (lv_at hl 3 rfl) ?_
  have hpre : ∀ z ∈ ([⟨0, 12, 15, 13⟩] : List ExceptionTableEntry), z.catchType ≠ 0 ∧ ∃ nm : String, Cond.classLink RL z.catchType nm ∈ wsL_flow ∧ (xA, nm) ∈ gNc := fun z hz => by
    rcases List.mem_cons.mp hz with rfl | hz
    · exact ⟨by decide, xI, by decide +kernel, by decide +kernel⟩
    exact nomatch hz
  refine g_catchV (As := [.int (nI k), .int (nI j), .int t]) (rest := [.int 0, .ref (L 168)]) (hpc := 19) hx hb hml hown hts hK hA hG hS (k_X4_flow_t2 l hst D cy N L _ (by omega) C k j t (whk) (whj) (wh)) (cwV 3 hts gL_flow_X4_flow rfl rfl rfl (by decide +kernel) ⟨Nat.le_of_ble_eq_true rfl, Nat.le_of_ble_eq_true rfl⟩) (by omega) cW_o (ci := 4) rfl rfl rfl rfl hl.1 (Nat.le_of_ble_eq_true rfl) dL_flow_7 ⟨Nat.le_of_ble_eq_true rfl, Nat.le_of_ble_eq_true rfl⟩ [⟨0, 12, 15, 13⟩] ⟨0, 12, 19, 15⟩ [] htb hpre (by decide) (by decide) (by decide +kernel) (by decide) rfl (fun H locs q9 hG hS => ?_)
  refine lv_astore (lv' := [(5, .ref q9), (0, .ref (L 0)), (1, .int (nI k)), (2, .int (nI j)), (3, .int t), (4, .ref (L 168))]) hx hb dL_flow_19 hl (by decide) rfl (fun ls hl => ?_)
  refine lv_iconst (v := 2) hx hb dL_flow_21 (by decide) ?_
  exact g_iret hx hb hr hlocks hK hG hS rfl dL_flow_22 ⟨rfl, rfl⟩
set_option maxHeartbeats 4000000 in
set_option maxRecDepth 100000 in
theorem k_L_ship_t1 (l : Launch) (hst : l.stackTraces = false) (D : va_G) (cy : Nat → ClassId) (N : Nat) (L : Nat → Nat) (F : Nat → va_E) (hN : 169 ≤ N) (f : Nat → Int64) (C : CT) (a u t : Int32) (wh : ¬ c_noShip a = 0) : GMw l D cy N L yL_ship wsL_ship ({ frames := 8, cells := 1, slots := 6, locals := 175 }) 1 6 [.ref (L 0), .int a, .int u, .int t, .ref (L 168)] (cW cy L (oW cy F f) C) (some (.int 1)) (cW cy L (oW cy F f) C) := by
  refine GMw.ofW (cc := cL_ship) (maxL := 6) (ret := (some .int)) (by decide) rfl (Nat.le_of_ble_eq_true rfl) ?_
  intro p e s m below meth c ls hx hb hr hts hown hlocks hml hK hA hG hS hl htb
  have hl : lv_has ls 6 [(0, .ref (L 0)), (1, .int a), (2, .int u), (3, .int t), (4, .ref (L 168))] := hl
  refine lv_aload hx hb dL_ship_0 (lv_at hl 4 rfl) ?_
  refine lv_iconst (v := 0) hx hb dL_ship_2 (by decide) ?_
  refine lv_aload_n hx hb dL_ship_3 rfl (lv_at hl 0 rfl) ?_
  refine lv_iload_n hx hb dL_ship_4 rfl (lv_at hl 1 rfl) ?_
  refine lv_iload_n hx hb dL_ship_5 rfl (lv_at hl 2 rfl) ?_
  refine lv_iload_n hx hb dL_ship_6 rfl (lv_at hl 3 rfl) ?_
  have hpre : ∀ z ∈ ([] : List ExceptionTableEntry), z.catchType ≠ 0 ∧ ∃ nm : String, Cond.classLink RL z.catchType nm ∈ wsL_ship ∧ (xI, nm) ∈ gNc := fun z hz => nomatch hz
  refine g_catchV (As := [.int a, .int u, .int t]) (rest := [.int 0, .ref (L 168)]) (hpc := 15) hx hb hml hown hts hK hA hG hS (k_X4_ship_t1 l hst D cy N L _ (by omega) C a u t (wh)) (cwV 3 hts gL_ship_X4_ship rfl rfl rfl (by decide +kernel) ⟨Nat.le_of_ble_eq_true rfl, Nat.le_of_ble_eq_true rfl⟩) (by omega) cW_o (ci := 4) rfl rfl rfl rfl hl.1 (Nat.le_of_ble_eq_true rfl) dL_ship_7 ⟨Nat.le_of_ble_eq_true rfl, Nat.le_of_ble_eq_true rfl⟩ [] ⟨0, 12, 15, 13⟩ [⟨0, 12, 19, 15⟩] htb hpre (by decide) (by decide) (by decide +kernel) (by decide) rfl (fun H locs q9 hG hS => ?_)
  refine lv_astore (lv' := [(5, .ref q9), (0, .ref (L 0)), (1, .int a), (2, .int u), (3, .int t), (4, .ref (L 168))]) hx hb dL_ship_15 hl (by decide) rfl (fun ls hl => ?_)
  refine lv_iconst (v := 1) hx hb dL_ship_17 (by decide) ?_
  exact g_iret hx hb hr hlocks hK hG hS rfl dL_ship_18 ⟨rfl, rfl⟩
set_option maxHeartbeats 4000000 in
set_option maxRecDepth 100000 in
theorem k_L_ship_t2 (l : Launch) (hst : l.stackTraces = false) (D : va_G) (cy : Nat → ClassId) (N : Nat) (L : Nat → Nat) (F : Nat → va_E) (hN : 169 ≤ N) (f : Nat → Int64) (C : CT) (j : Nat) (u t : Int32) (whj : j < 6) (wh : u < 0 ∨ 900 < u ∨ t < 0 ∨ ¬ t ≤ u) : GMw l D cy N L yL_ship wsL_ship ({ frames := 8, cells := 1, slots := 6, locals := 175 }) 1 6 [.ref (L 0), .int (nI j), .int u, .int t, .ref (L 168)] (cW cy L (oW cy F f) C) (some (.int 2)) (cW cy L (oW cy F f) C) := by
  refine GMw.ofW (cc := cL_ship) (maxL := 6) (ret := (some .int)) (by decide) rfl (Nat.le_of_ble_eq_true rfl) ?_
  intro p e s m below meth c ls hx hb hr hts hown hlocks hml hK hA hG hS hl htb
  have hl : lv_has ls 6 [(0, .ref (L 0)), (1, .int (nI j)), (2, .int u), (3, .int t), (4, .ref (L 168))] := hl
  refine lv_aload hx hb dL_ship_0 (lv_at hl 4 rfl) ?_
  refine lv_iconst (v := 0) hx hb dL_ship_2 (by decide) ?_
  refine lv_aload_n hx hb dL_ship_3 rfl (lv_at hl 0 rfl) ?_
  refine lv_iload_n hx hb dL_ship_4 rfl (lv_at hl 1 rfl) ?_
  refine lv_iload_n hx hb dL_ship_5 rfl (lv_at hl 2 rfl) ?_
  refine lv_iload_n hx hb dL_ship_6 rfl (lv_at hl 3 rfl) ?_
  have hpre : ∀ z ∈ ([⟨0, 12, 15, 13⟩] : List ExceptionTableEntry), z.catchType ≠ 0 ∧ ∃ nm : String, Cond.classLink RL z.catchType nm ∈ wsL_ship ∧ (xA, nm) ∈ gNc := fun z hz => by
    rcases List.mem_cons.mp hz with rfl | hz
    · exact ⟨by decide, xI, by decide +kernel, by decide +kernel⟩
    exact nomatch hz
  refine g_catchV (As := [.int (nI j), .int u, .int t]) (rest := [.int 0, .ref (L 168)]) (hpc := 19) hx hb hml hown hts hK hA hG hS (k_X4_ship_t2 l hst D cy N L _ (by omega) C j u t (whj) (wh)) (cwV 3 hts gL_ship_X4_ship rfl rfl rfl (by decide +kernel) ⟨Nat.le_of_ble_eq_true rfl, Nat.le_of_ble_eq_true rfl⟩) (by omega) cW_o (ci := 4) rfl rfl rfl rfl hl.1 (Nat.le_of_ble_eq_true rfl) dL_ship_7 ⟨Nat.le_of_ble_eq_true rfl, Nat.le_of_ble_eq_true rfl⟩ [⟨0, 12, 15, 13⟩] ⟨0, 12, 19, 15⟩ [] htb hpre (by decide) (by decide) (by decide +kernel) (by decide) rfl (fun H locs q9 hG hS => ?_)
  refine lv_astore (lv' := [(5, .ref q9), (0, .ref (L 0)), (1, .int (nI j)), (2, .int u), (3, .int t), (4, .ref (L 168))]) hx hb dL_ship_19 hl (by decide) rfl (fun ls hl => ?_)
  refine lv_iconst (v := 2) hx hb dL_ship_21 (by decide) ?_
  exact g_iret hx hb hr hlocks hK hG hS rfl dL_ship_22 ⟨rfl, rfl⟩
set_option maxHeartbeats 4000000 in
set_option maxRecDepth 100000 in
theorem k_L_pads_t1 (l : Launch) (hst : l.stackTraces = false) (D : va_G) (cy : Nat → ClassId) (N : Nat) (L : Nat → Nat) (F : Nat → va_E) (hN : 169 ≤ N) (f : Nat → Int64) (C : CT) (a b : Int32) (wh : ¬ c_noSilo a = 0) : GMw l D cy N L yL_pads wsL_pads ({ frames := 8, cells := 1, slots := 6, locals := 173 }) 1 6 [.ref (L 0), .int a, .int b, .ref (L 168)] (cW cy L (oW cy F f) C) (some (.int 1)) (cW cy L (oW cy F f) C) := by
  refine GMw.ofW (cc := cL_pads) (maxL := 5) (ret := (some .int)) (by decide) rfl (Nat.le_of_ble_eq_true rfl) ?_
  intro p e s m below meth c ls hx hb hr hts hown hlocks hml hK hA hG hS hl htb
  have hl : lv_has ls 5 [(0, .ref (L 0)), (1, .int a), (2, .int b), (3, .ref (L 168))] := hl
  refine lv_aload_n hx hb dL_pads_0 rfl (lv_at hl 3 rfl) ?_
  refine lv_iconst (v := 0) hx hb dL_pads_1 (by decide) ?_
  refine lv_aload_n hx hb dL_pads_2 rfl (lv_at hl 0 rfl) ?_
  refine lv_iload_n hx hb dL_pads_3 rfl (lv_at hl 1 rfl) ?_
  refine lv_iload_n hx hb dL_pads_4 rfl (lv_at hl 2 rfl) ?_
  have hpre : ∀ z ∈ ([] : List ExceptionTableEntry), z.catchType ≠ 0 ∧ ∃ nm : String, Cond.classLink RL z.catchType nm ∈ wsL_pads ∧ (xI, nm) ∈ gNc := fun z hz => nomatch hz
  refine g_catchV (As := [.int a, .int b]) (rest := [.int 0, .ref (L 168)]) (hpc := 13) hx hb hml hown hts hK hA hG hS (k_X4_pads_t1 l hst D cy N L _ (by omega) C a b (wh)) (cwV 2 hts gL_pads_X4_pads rfl rfl rfl (by decide +kernel) ⟨Nat.le_of_ble_eq_true rfl, Nat.le_of_ble_eq_true rfl⟩) (by omega) cW_o (ci := 4) rfl rfl rfl rfl hl.1 (Nat.le_of_ble_eq_true rfl) dL_pads_5 ⟨Nat.le_of_ble_eq_true rfl, Nat.le_of_ble_eq_true rfl⟩ [] ⟨0, 10, 13, 13⟩ [⟨0, 10, 17, 15⟩, ⟨0, 10, 21, 27⟩] htb hpre (by decide) (by decide) (by decide +kernel) (by decide) rfl (fun H locs q9 hG hS => ?_)
  refine lv_astore (lv' := [(4, .ref q9), (0, .ref (L 0)), (1, .int a), (2, .int b), (3, .ref (L 168))]) hx hb dL_pads_13 hl (by decide) rfl (fun ls hl => ?_)
  refine lv_iconst (v := 1) hx hb dL_pads_15 (by decide) ?_
  exact g_iret hx hb hr hlocks hK hG hS rfl dL_pads_16 ⟨rfl, rfl⟩
set_option maxHeartbeats 4000000 in
set_option maxRecDepth 100000 in
theorem k_L_pads_t2 (l : Launch) (hst : l.stackTraces = false) (D : va_G) (cy : Nat → ClassId) (N : Nat) (L : Nat → Nat) (F : Nat → va_E) (hN : 169 ≤ N) (f : Nat → Int64) (C : CT) (k : Nat) (b : Int32) (whk : k < 4) (wh : b < 0 ∨ ¬ b ≤ 4) : GMw l D cy N L yL_pads wsL_pads ({ frames := 8, cells := 1, slots := 6, locals := 173 }) 1 6 [.ref (L 0), .int (nI k), .int b, .ref (L 168)] (cW cy L (oW cy F f) C) (some (.int 2)) (cW cy L (oW cy F f) C) := by
  refine GMw.ofW (cc := cL_pads) (maxL := 5) (ret := (some .int)) (by decide) rfl (Nat.le_of_ble_eq_true rfl) ?_
  intro p e s m below meth c ls hx hb hr hts hown hlocks hml hK hA hG hS hl htb
  have hl : lv_has ls 5 [(0, .ref (L 0)), (1, .int (nI k)), (2, .int b), (3, .ref (L 168))] := hl
  refine lv_aload_n hx hb dL_pads_0 rfl (lv_at hl 3 rfl) ?_
  refine lv_iconst (v := 0) hx hb dL_pads_1 (by decide) ?_
  refine lv_aload_n hx hb dL_pads_2 rfl (lv_at hl 0 rfl) ?_
  refine lv_iload_n hx hb dL_pads_3 rfl (lv_at hl 1 rfl) ?_
  refine lv_iload_n hx hb dL_pads_4 rfl (lv_at hl 2 rfl) ?_
  have hpre : ∀ z ∈ ([⟨0, 10, 13, 13⟩] : List ExceptionTableEntry), z.catchType ≠ 0 ∧ ∃ nm : String, Cond.classLink RL z.catchType nm ∈ wsL_pads ∧ (xA, nm) ∈ gNc := fun z hz => by
    rcases List.mem_cons.mp hz with rfl | hz
    · exact ⟨by decide, xI, by decide +kernel, by decide +kernel⟩
    exact nomatch hz
  refine g_catchV (As := [.int (nI k), .int b]) (rest := [.int 0, .ref (L 168)]) (hpc := 17) hx hb hml hown hts hK hA hG hS (k_X4_pads_t2 l hst D cy N L _ (by omega) C k b (whk) (wh)) (cwV 2 hts gL_pads_X4_pads rfl rfl rfl (by decide +kernel) ⟨Nat.le_of_ble_eq_true rfl, Nat.le_of_ble_eq_true rfl⟩) (by omega) cW_o (ci := 4) rfl rfl rfl rfl hl.1 (Nat.le_of_ble_eq_true rfl) dL_pads_5 ⟨Nat.le_of_ble_eq_true rfl, Nat.le_of_ble_eq_true rfl⟩ [⟨0, 10, 13, 13⟩] ⟨0, 10, 17, 15⟩ [⟨0, 10, 21, 27⟩] htb hpre (by decide) (by decide) (by decide +kernel) (by decide) rfl (fun H locs q9 hG hS => ?_)
  refine lv_astore (lv' := [(4, .ref q9), (0, .ref (L 0)), (1, .int (nI k)), (2, .int b), (3, .ref (L 168))]) hx hb dL_pads_17 hl (by decide) rfl (fun ls hl => ?_)
  refine lv_iconst (v := 2) hx hb dL_pads_19 (by decide) ?_
  exact g_iret hx hb hr hlocks hK hG hS rfl dL_pads_20 ⟨rfl, rfl⟩
set_option maxHeartbeats 4000000 in
set_option maxRecDepth 100000 in
theorem k_L_pads_t3 (l : Launch) (hst : l.stackTraces = false) (D : va_G) (cy : Nat → ClassId) (N : Nat) (L : Nat → Nat) (F : Nat → va_E) (hN : 169 ≤ N) (f : Nat → Int64) (C : CT) (k : Nat) (b : Int32) (whk : k < 4) (wh1 : ¬ b < 0) (wh2 : b ≤ 4) (wh : ¬ y_pads (cY C) 4 - sP (yS (cY C) k) + b ≤ yZ (cY C) 0) : GMw l D cy N L yL_pads wsL_pads ({ frames := 8, cells := 1, slots := 6, locals := 173 }) 1 6 [.ref (L 0), .int (nI k), .int b, .ref (L 168)] (cW cy L (oW cy F f) C) (some (.int 3)) (cW cy L (oW cy F f) C) := by
  refine GMw.ofW (cc := cL_pads) (maxL := 5) (ret := (some .int)) (by decide) rfl (Nat.le_of_ble_eq_true rfl) ?_
  intro p e s m below meth c ls hx hb hr hts hown hlocks hml hK hA hG hS hl htb
  have hl : lv_has ls 5 [(0, .ref (L 0)), (1, .int (nI k)), (2, .int b), (3, .ref (L 168))] := hl
  refine lv_aload_n hx hb dL_pads_0 rfl (lv_at hl 3 rfl) ?_
  refine lv_iconst (v := 0) hx hb dL_pads_1 (by decide) ?_
  refine lv_aload_n hx hb dL_pads_2 rfl (lv_at hl 0 rfl) ?_
  refine lv_iload_n hx hb dL_pads_3 rfl (lv_at hl 1 rfl) ?_
  refine lv_iload_n hx hb dL_pads_4 rfl (lv_at hl 2 rfl) ?_
  have hpre : ∀ z ∈ ([⟨0, 10, 13, 13⟩, ⟨0, 10, 17, 15⟩] : List ExceptionTableEntry), z.catchType ≠ 0 ∧ ∃ nm : String, Cond.classLink RL z.catchType nm ∈ wsL_pads ∧ (xS, nm) ∈ gNc := fun z hz => by
    rcases List.mem_cons.mp hz with rfl | hz
    · exact ⟨by decide, xI, by decide +kernel, by decide +kernel⟩
    rcases List.mem_cons.mp hz with rfl | hz
    · exact ⟨by decide, xA, by decide +kernel, by decide +kernel⟩
    exact nomatch hz
  refine g_catchV (As := [.int (nI k), .int b]) (rest := [.int 0, .ref (L 168)]) (hpc := 21) hx hb hml hown hts hK hA hG hS (k_X4_pads_t3 l hst D cy N L _ (by omega) C k b (whk) (wh1) (wh2) (wh)) (cwV 2 hts gL_pads_X4_pads rfl rfl rfl (by decide +kernel) ⟨Nat.le_of_ble_eq_true rfl, Nat.le_of_ble_eq_true rfl⟩) (by omega) cW_o (ci := 4) rfl rfl rfl rfl hl.1 (Nat.le_of_ble_eq_true rfl) dL_pads_5 ⟨Nat.le_of_ble_eq_true rfl, Nat.le_of_ble_eq_true rfl⟩ [⟨0, 10, 13, 13⟩, ⟨0, 10, 17, 15⟩] ⟨0, 10, 21, 27⟩ [] htb hpre (by decide) (by decide) (by decide +kernel) (by decide) rfl (fun H locs q9 hG hS => ?_)
  refine lv_astore (lv' := [(4, .ref q9), (0, .ref (L 0)), (1, .int (nI k)), (2, .int b), (3, .ref (L 168))]) hx hb dL_pads_21 hl (by decide) rfl (fun ls hl => ?_)
  refine lv_iconst (v := 3) hx hb dL_pads_23 (by decide) ?_
  exact g_iret hx hb hr hlocks hK hG hS rfl dL_pads_24 ⟨rfl, rfl⟩
set_option maxHeartbeats 4000000 in
set_option maxRecDepth 100000 in
theorem k_L_shake_t1 (l : Launch) (hst : l.stackTraces = false) (D : va_G) (cy : Nat → ClassId) (N : Nat) (L : Nat → Nat) (F : Nat → va_E) (hN : 169 ≤ N) (f : Nat → Int64) (C : CT) (a : Int32) (wh : ¬ c_noSilo a = 0) : GMw l D cy N L yL_shake wsL_shake ({ frames := 8, cells := 1, slots := 6, locals := 173 }) 1 6 [.ref (L 0), .int a, .ref (L 168)] (cW cy L (oW cy F f) C) (some (.int 1)) (cW cy L (oW cy F f) C) := by
  refine GMw.ofW (cc := cL_shake) (maxL := 4) (ret := (some .int)) (by decide) rfl (Nat.le_of_ble_eq_true rfl) ?_
  intro p e s m below meth c ls hx hb hr hts hown hlocks hml hK hA hG hS hl htb
  have hl : lv_has ls 4 [(0, .ref (L 0)), (1, .int a), (2, .ref (L 168))] := hl
  refine lv_aload_n hx hb dL_shake_0 rfl (lv_at hl 2 rfl) ?_
  refine lv_iconst (v := 0) hx hb dL_shake_1 (by decide) ?_
  refine lv_aload_n hx hb dL_shake_2 rfl (lv_at hl 0 rfl) ?_
  refine lv_iload_n hx hb dL_shake_3 rfl (lv_at hl 1 rfl) ?_
  have hpre : ∀ z ∈ ([] : List ExceptionTableEntry), z.catchType ≠ 0 ∧ ∃ nm : String, Cond.classLink RL z.catchType nm ∈ wsL_shake ∧ (xI, nm) ∈ gNc := fun z hz => nomatch hz
  refine g_catchV (As := [.int a]) (rest := [.int 0, .ref (L 168)]) (hpc := 12) hx hb hml hown hts hK hA hG hS (k_X4_shake_t1 l hst D cy N L _ (by omega) C a (wh)) (cwV 1 hts gL_shake_X4_shake rfl rfl rfl (by decide +kernel) ⟨Nat.le_of_ble_eq_true rfl, Nat.le_of_ble_eq_true rfl⟩) (by omega) cW_o (ci := 4) rfl rfl rfl rfl hl.1 (Nat.le_of_ble_eq_true rfl) dL_shake_4 ⟨Nat.le_of_ble_eq_true rfl, Nat.le_of_ble_eq_true rfl⟩ [] ⟨0, 9, 12, 13⟩ [⟨0, 9, 15, 27⟩] htb hpre (by decide) (by decide) (by decide +kernel) (by decide) rfl (fun H locs q9 hG hS => ?_)
  refine lv_astore_n (lv' := [(3, .ref q9), (0, .ref (L 0)), (1, .int a), (2, .ref (L 168))]) hx hb dL_shake_12 rfl hl (by decide) rfl (fun ls hl => ?_)
  refine lv_iconst (v := 1) hx hb dL_shake_13 (by decide) ?_
  exact g_iret hx hb hr hlocks hK hG hS rfl dL_shake_14 ⟨rfl, rfl⟩
set_option maxHeartbeats 4000000 in
set_option maxRecDepth 100000 in
theorem k_L_shake_t2 (l : Launch) (hst : l.stackTraces = false) (D : va_G) (cy : Nat → ClassId) (N : Nat) (L : Nat → Nat) (F : Nat → va_E) (hN : 169 ≤ N) (f : Nat → Int64) (C : CT) (k : Nat) (whk : k < 4) (wh : sN (yS (cY C) k) = 0) : GMw l D cy N L yL_shake wsL_shake ({ frames := 8, cells := 1, slots := 6, locals := 173 }) 1 6 [.ref (L 0), .int (nI k), .ref (L 168)] (cW cy L (oW cy F f) C) (some (.int 2)) (cW cy L (oW cy F f) C) := by
  refine GMw.ofW (cc := cL_shake) (maxL := 4) (ret := (some .int)) (by decide) rfl (Nat.le_of_ble_eq_true rfl) ?_
  intro p e s m below meth c ls hx hb hr hts hown hlocks hml hK hA hG hS hl htb
  have hl : lv_has ls 4 [(0, .ref (L 0)), (1, .int (nI k)), (2, .ref (L 168))] := hl
  refine lv_aload_n hx hb dL_shake_0 rfl (lv_at hl 2 rfl) ?_
  refine lv_iconst (v := 0) hx hb dL_shake_1 (by decide) ?_
  refine lv_aload_n hx hb dL_shake_2 rfl (lv_at hl 0 rfl) ?_
  refine lv_iload_n hx hb dL_shake_3 rfl (lv_at hl 1 rfl) ?_
  have hpre : ∀ z ∈ ([⟨0, 9, 12, 13⟩] : List ExceptionTableEntry), z.catchType ≠ 0 ∧ ∃ nm : String, Cond.classLink RL z.catchType nm ∈ wsL_shake ∧ (xS, nm) ∈ gNc := fun z hz => by
    rcases List.mem_cons.mp hz with rfl | hz
    · exact ⟨by decide, xI, by decide +kernel, by decide +kernel⟩
    exact nomatch hz
  refine g_catchV (As := [.int (nI k)]) (rest := [.int 0, .ref (L 168)]) (hpc := 15) hx hb hml hown hts hK hA hG hS (k_X4_shake_t2 l hst D cy N L _ (by omega) C k (whk) (wh)) (cwV 1 hts gL_shake_X4_shake rfl rfl rfl (by decide +kernel) ⟨Nat.le_of_ble_eq_true rfl, Nat.le_of_ble_eq_true rfl⟩) (by omega) cW_o (ci := 4) rfl rfl rfl rfl hl.1 (Nat.le_of_ble_eq_true rfl) dL_shake_4 ⟨Nat.le_of_ble_eq_true rfl, Nat.le_of_ble_eq_true rfl⟩ [⟨0, 9, 12, 13⟩] ⟨0, 9, 15, 27⟩ [] htb hpre (by decide) (by decide) (by decide +kernel) (by decide) rfl (fun H locs q9 hG hS => ?_)
  refine lv_astore_n (lv' := [(3, .ref q9), (0, .ref (L 0)), (1, .int (nI k)), (2, .ref (L 168))]) hx hb dL_shake_15 rfl hl (by decide) rfl (fun ls hl => ?_)
  refine lv_iconst (v := 2) hx hb dL_shake_16 (by decide) ?_
  exact g_iret hx hb hr hlocks hK hG hS rfl dL_shake_17 ⟨rfl, rfl⟩
set_option maxHeartbeats 4000000 in
set_option maxRecDepth 100000 in
theorem k_L_pass_t1 (l : Launch) (hst : l.stackTraces = false) (D : va_G) (cy : Nat → ClassId) (N : Nat) (L : Nat → Nat) (F : Nat → va_E) (hN : 169 ≤ N) (f : Nat → Int64) (C : CT) (a : Int32) (wh : a < 1 ∨ ¬ a ≤ 30) : GMw l D cy N L yL_pass wsL_pass ({ frames := 8, cells := 1, slots := 6, locals := 171 }) 1 6 [.ref (L 0), .int a, .ref (L 168)] (cW cy L (oW cy F f) C) (some (.int 1)) (cW cy L (oW cy F f) C) := by
  refine GMw.ofW (cc := cL_pass) (maxL := 4) (ret := (some .int)) (by decide) rfl (Nat.le_of_ble_eq_true rfl) ?_
  intro p e s m below meth c ls hx hb hr hts hown hlocks hml hK hA hG hS hl htb
  have hl : lv_has ls 4 [(0, .ref (L 0)), (1, .int a), (2, .ref (L 168))] := hl
  refine lv_aload_n hx hb dL_pass_0 rfl (lv_at hl 2 rfl) ?_
  refine lv_iconst (v := 0) hx hb dL_pass_1 (by decide) ?_
  refine lv_aload_n hx hb dL_pass_2 rfl (lv_at hl 0 rfl) ?_
  refine lv_iload_n hx hb dL_pass_3 rfl (lv_at hl 1 rfl) ?_
  have hpre : ∀ z ∈ ([] : List ExceptionTableEntry), z.catchType ≠ 0 ∧ ∃ nm : String, Cond.classLink RL z.catchType nm ∈ wsL_pass ∧ (xA, nm) ∈ gNc := fun z hz => nomatch hz
  refine g_catchV (As := [.int a]) (rest := [.int 0, .ref (L 168)]) (hpc := 12) hx hb hml hown hts hK hA hG hS (k_X4_pass_t1 l hst D cy N L _ (by omega) C a (wh)) (cwV 1 hts gL_pass_X4_pass rfl rfl rfl (by decide +kernel) ⟨Nat.le_of_ble_eq_true rfl, Nat.le_of_ble_eq_true rfl⟩) (by omega) cW_o (ci := 4) rfl rfl rfl rfl hl.1 (Nat.le_of_ble_eq_true rfl) dL_pass_4 ⟨Nat.le_of_ble_eq_true rfl, Nat.le_of_ble_eq_true rfl⟩ [] ⟨0, 9, 12, 15⟩ [] htb hpre (by decide) (by decide) (by decide +kernel) (by decide) rfl (fun H locs q9 hG hS => ?_)
  refine lv_astore_n (lv' := [(3, .ref q9), (0, .ref (L 0)), (1, .int a), (2, .ref (L 168))]) hx hb dL_pass_12 rfl hl (by decide) rfl (fun ls hl => ?_)
  refine lv_iconst (v := 1) hx hb dL_pass_13 (by decide) ?_
  exact g_iret hx hb hr hlocks hK hG hS rfl dL_pass_14 ⟨rfl, rfl⟩
set_option maxHeartbeats 4000000 in
set_option maxRecDepth 100000 in
theorem k_L_set_t1 (l : Launch) (hst : l.stackTraces = false) (D : va_G) (cy : Nat → ClassId) (N : Nat) (L : Nat → Nat) (F : Nat → va_E) (hN : 169 ≤ N) (f : Nat → Int64) (C : CT) (a b : Int32) (wh : a < 0 ∨ ¬ a < nI 4) : GMw l D cy N L yL_set wsL_set ({ frames := 8, cells := 1, slots := 6, locals := 173 }) 1 6 [.ref (L 0), .int a, .int b, .ref (L 168)] (cW cy L (oW cy F f) C) (some (.int 1)) (cW cy L (oW cy F f) C) := by
  refine GMw.ofW (cc := cL_set) (maxL := 5) (ret := (some .int)) (by decide) rfl (Nat.le_of_ble_eq_true rfl) ?_
  intro p e s m below meth c ls hx hb hr hts hown hlocks hml hK hA hG hS hl htb
  have hl : lv_has ls 5 [(0, .ref (L 0)), (1, .int a), (2, .int b), (3, .ref (L 168))] := hl
  refine lv_aload_n hx hb dL_set_0 rfl (lv_at hl 3 rfl) ?_
  refine lv_iconst (v := 0) hx hb dL_set_1 (by decide) ?_
  refine lv_aload_n hx hb dL_set_2 rfl (lv_at hl 0 rfl) ?_
  refine lv_iload_n hx hb dL_set_3 rfl (lv_at hl 1 rfl) ?_
  refine lv_iload_n hx hb dL_set_4 rfl (lv_at hl 2 rfl) ?_
  have hpre : ∀ z ∈ ([] : List ExceptionTableEntry), z.catchType ≠ 0 ∧ ∃ nm : String, Cond.classLink RL z.catchType nm ∈ wsL_set ∧ (xI, nm) ∈ gNc := fun z hz => nomatch hz
  refine g_catchV (As := [.int a, .int b]) (rest := [.int 0, .ref (L 168)]) (hpc := 13) hx hb hml hown hts hK hA hG hS (k_X4_set_t1 l hst D cy N L _ (by omega) C a b (wh)) (cwV 2 hts gL_set_X4_set rfl rfl rfl (by decide +kernel) ⟨Nat.le_of_ble_eq_true rfl, Nat.le_of_ble_eq_true rfl⟩) (by omega) cW_o (ci := 4) rfl rfl rfl rfl hl.1 (Nat.le_of_ble_eq_true rfl) dL_set_5 ⟨Nat.le_of_ble_eq_true rfl, Nat.le_of_ble_eq_true rfl⟩ [] ⟨0, 10, 13, 13⟩ [⟨0, 10, 17, 15⟩, ⟨0, 10, 21, 27⟩] htb hpre (by decide) (by decide) (by decide +kernel) (by decide) rfl (fun H locs q9 hG hS => ?_)
  refine lv_astore (lv' := [(4, .ref q9), (0, .ref (L 0)), (1, .int a), (2, .int b), (3, .ref (L 168))]) hx hb dL_set_13 hl (by decide) rfl (fun ls hl => ?_)
  refine lv_iconst (v := 1) hx hb dL_set_15 (by decide) ?_
  exact g_iret hx hb hr hlocks hK hG hS rfl dL_set_16 ⟨rfl, rfl⟩
set_option maxHeartbeats 4000000 in
set_option maxRecDepth 100000 in
theorem k_L_set_t2 (l : Launch) (hst : l.stackTraces = false) (D : va_G) (cy : Nat → ClassId) (N : Nat) (L : Nat → Nat) (F : Nat → va_E) (hN : 169 ≤ N) (f : Nat → Int64) (C : CT) (i : Nat) (b : Int32) (whi : i < 4) (wh : b < z_least i ∨ ¬ b ≤ z_most i) : GMw l D cy N L yL_set wsL_set ({ frames := 8, cells := 1, slots := 6, locals := 173 }) 1 6 [.ref (L 0), .int (nI i), .int b, .ref (L 168)] (cW cy L (oW cy F f) C) (some (.int 2)) (cW cy L (oW cy F f) C) := by
  refine GMw.ofW (cc := cL_set) (maxL := 5) (ret := (some .int)) (by decide) rfl (Nat.le_of_ble_eq_true rfl) ?_
  intro p e s m below meth c ls hx hb hr hts hown hlocks hml hK hA hG hS hl htb
  have hl : lv_has ls 5 [(0, .ref (L 0)), (1, .int (nI i)), (2, .int b), (3, .ref (L 168))] := hl
  refine lv_aload_n hx hb dL_set_0 rfl (lv_at hl 3 rfl) ?_
  refine lv_iconst (v := 0) hx hb dL_set_1 (by decide) ?_
  refine lv_aload_n hx hb dL_set_2 rfl (lv_at hl 0 rfl) ?_
  refine lv_iload_n hx hb dL_set_3 rfl (lv_at hl 1 rfl) ?_
  refine lv_iload_n hx hb dL_set_4 rfl (lv_at hl 2 rfl) ?_
  have hpre : ∀ z ∈ ([⟨0, 10, 13, 13⟩] : List ExceptionTableEntry), z.catchType ≠ 0 ∧ ∃ nm : String, Cond.classLink RL z.catchType nm ∈ wsL_set ∧ (xA, nm) ∈ gNc := fun z hz => by
    rcases List.mem_cons.mp hz with rfl | hz
    · exact ⟨by decide, xI, by decide +kernel, by decide +kernel⟩
    exact nomatch hz
  refine g_catchV (As := [.int (nI i), .int b]) (rest := [.int 0, .ref (L 168)]) (hpc := 17) hx hb hml hown hts hK hA hG hS (k_X4_set_t2 l hst D cy N L _ (by omega) C i b (whi) (wh)) (cwV 2 hts gL_set_X4_set rfl rfl rfl (by decide +kernel) ⟨Nat.le_of_ble_eq_true rfl, Nat.le_of_ble_eq_true rfl⟩) (by omega) cW_o (ci := 4) rfl rfl rfl rfl hl.1 (Nat.le_of_ble_eq_true rfl) dL_set_5 ⟨Nat.le_of_ble_eq_true rfl, Nat.le_of_ble_eq_true rfl⟩ [⟨0, 10, 13, 13⟩] ⟨0, 10, 17, 15⟩ [⟨0, 10, 21, 27⟩] htb hpre (by decide) (by decide) (by decide +kernel) (by decide) rfl (fun H locs q9 hG hS => ?_)
  refine lv_astore (lv' := [(4, .ref q9), (0, .ref (L 0)), (1, .int (nI i)), (2, .int b), (3, .ref (L 168))]) hx hb dL_set_17 hl (by decide) rfl (fun ls hl => ?_)
  refine lv_iconst (v := 2) hx hb dL_set_19 (by decide) ?_
  exact g_iret hx hb hr hlocks hK hG hS rfl dL_set_20 ⟨rfl, rfl⟩
set_option maxHeartbeats 4000000 in
set_option maxRecDepth 100000 in
theorem k_L_set_t3 (l : Launch) (hst : l.stackTraces = false) (D : va_G) (cy : Nat → ClassId) (N : Nat) (L : Nat → Nat) (F : Nat → va_E) (hN : 169 ≤ N) (f : Nat → Int64) (C : CT) (i : Nat) (b : Int32) (whi : i = 0) (wh1 : ¬ b < z_least i) (wh2 : b ≤ z_most i) (wh : ¬ y_pads (cY C) 4 ≤ b) : GMw l D cy N L yL_set wsL_set ({ frames := 8, cells := 1, slots := 6, locals := 173 }) 1 6 [.ref (L 0), .int (nI i), .int b, .ref (L 168)] (cW cy L (oW cy F f) C) (some (.int 3)) (cW cy L (oW cy F f) C) := by
  refine GMw.ofW (cc := cL_set) (maxL := 5) (ret := (some .int)) (by decide) rfl (Nat.le_of_ble_eq_true rfl) ?_
  intro p e s m below meth c ls hx hb hr hts hown hlocks hml hK hA hG hS hl htb
  have hl : lv_has ls 5 [(0, .ref (L 0)), (1, .int (nI i)), (2, .int b), (3, .ref (L 168))] := hl
  refine lv_aload_n hx hb dL_set_0 rfl (lv_at hl 3 rfl) ?_
  refine lv_iconst (v := 0) hx hb dL_set_1 (by decide) ?_
  refine lv_aload_n hx hb dL_set_2 rfl (lv_at hl 0 rfl) ?_
  refine lv_iload_n hx hb dL_set_3 rfl (lv_at hl 1 rfl) ?_
  refine lv_iload_n hx hb dL_set_4 rfl (lv_at hl 2 rfl) ?_
  have hpre : ∀ z ∈ ([⟨0, 10, 13, 13⟩, ⟨0, 10, 17, 15⟩] : List ExceptionTableEntry), z.catchType ≠ 0 ∧ ∃ nm : String, Cond.classLink RL z.catchType nm ∈ wsL_set ∧ (xS, nm) ∈ gNc := fun z hz => by
    rcases List.mem_cons.mp hz with rfl | hz
    · exact ⟨by decide, xI, by decide +kernel, by decide +kernel⟩
    rcases List.mem_cons.mp hz with rfl | hz
    · exact ⟨by decide, xA, by decide +kernel, by decide +kernel⟩
    exact nomatch hz
  refine g_catchV (As := [.int (nI i), .int b]) (rest := [.int 0, .ref (L 168)]) (hpc := 21) hx hb hml hown hts hK hA hG hS (k_X4_set_t3 l hst D cy N L _ (by omega) C i b (whi) (wh1) (wh2) (wh)) (cwV 2 hts gL_set_X4_set rfl rfl rfl (by decide +kernel) ⟨Nat.le_of_ble_eq_true rfl, Nat.le_of_ble_eq_true rfl⟩) (by omega) cW_o (ci := 4) rfl rfl rfl rfl hl.1 (Nat.le_of_ble_eq_true rfl) dL_set_5 ⟨Nat.le_of_ble_eq_true rfl, Nat.le_of_ble_eq_true rfl⟩ [⟨0, 10, 13, 13⟩, ⟨0, 10, 17, 15⟩] ⟨0, 10, 21, 27⟩ [] htb hpre (by decide) (by decide) (by decide +kernel) (by decide) rfl (fun H locs q9 hG hS => ?_)
  refine lv_astore (lv' := [(4, .ref q9), (0, .ref (L 0)), (1, .int (nI i)), (2, .int b), (3, .ref (L 168))]) hx hb dL_set_21 hl (by decide) rfl (fun ls hl => ?_)
  refine lv_iconst (v := 3) hx hb dL_set_23 (by decide) ?_
  exact g_iret hx hb hr hlocks hK hG hS rfl dL_set_24 ⟨rfl, rfl⟩
set_option maxHeartbeats 4000000 in
set_option maxRecDepth 100000 in
theorem k_L_append_t1 (l : Launch) (hst : l.stackTraces = false) (D : va_G) (cy : Nat → ClassId) (N : Nat) (L : Nat → Nat) (F : Nat → va_E) (hN : 169 ≤ N) (f : Nat → Int64) (C : CT) (a : Int32) (wh : a < 33 ∨ ¬ a ≤ 126) : GMw l D cy N L yL_append wsL_append ({ frames := 8, cells := 1, slots := 6, locals := 171 }) 1 6 [.ref (L 0), .int a, .ref (L 168)] (cW cy L (oW cy F f) C) (some (.int 1)) (cW cy L (oW cy F f) C) := by
  refine GMw.ofW (cc := cL_append) (maxL := 4) (ret := (some .int)) (by decide) rfl (Nat.le_of_ble_eq_true rfl) ?_
  intro p e s m below meth c ls hx hb hr hts hown hlocks hml hK hA hG hS hl htb
  have hl : lv_has ls 4 [(0, .ref (L 0)), (1, .int a), (2, .ref (L 168))] := hl
  refine lv_aload_n hx hb dL_append_0 rfl (lv_at hl 2 rfl) ?_
  refine lv_iconst (v := 0) hx hb dL_append_1 (by decide) ?_
  refine lv_aload_n hx hb dL_append_2 rfl (lv_at hl 0 rfl) ?_
  refine lv_iload_n hx hb dL_append_3 rfl (lv_at hl 1 rfl) ?_
  have hpre : ∀ z ∈ ([] : List ExceptionTableEntry), z.catchType ≠ 0 ∧ ∃ nm : String, Cond.classLink RL z.catchType nm ∈ wsL_append ∧ (xA, nm) ∈ gNc := fun z hz => nomatch hz
  refine g_catchV (As := [.int a]) (rest := [.int 0, .ref (L 168)]) (hpc := 12) hx hb hml hown hts hK hA hG hS (k_X4_append_t1 l hst D cy N L _ (by omega) C a (wh)) (cwV 1 hts gL_append_X4_append rfl rfl rfl (by decide +kernel) ⟨Nat.le_of_ble_eq_true rfl, Nat.le_of_ble_eq_true rfl⟩) (by omega) cW_o (ci := 4) rfl rfl rfl rfl hl.1 (Nat.le_of_ble_eq_true rfl) dL_append_4 ⟨Nat.le_of_ble_eq_true rfl, Nat.le_of_ble_eq_true rfl⟩ [] ⟨0, 9, 12, 15⟩ [⟨0, 9, 15, 27⟩] htb hpre (by decide) (by decide) (by decide +kernel) (by decide) rfl (fun H locs q9 hG hS => ?_)
  refine lv_astore_n (lv' := [(3, .ref q9), (0, .ref (L 0)), (1, .int a), (2, .ref (L 168))]) hx hb dL_append_12 rfl hl (by decide) rfl (fun ls hl => ?_)
  refine lv_iconst (v := 1) hx hb dL_append_13 (by decide) ?_
  exact g_iret hx hb hr hlocks hK hG hS rfl dL_append_14 ⟨rfl, rfl⟩
set_option maxHeartbeats 4000000 in
set_option maxRecDepth 100000 in
theorem k_L_append_t2 (l : Launch) (hst : l.stackTraces = false) (D : va_G) (cy : Nat → ClassId) (N : Nat) (L : Nat → Nat) (F : Nat → va_E) (hN : 169 ≤ N) (f : Nat → Int64) (C : CT) (a : Int32) (wh1 : ¬ a < 33) (wh2 : a ≤ 126) (wh : cL C = 60) : GMw l D cy N L yL_append wsL_append ({ frames := 8, cells := 1, slots := 6, locals := 171 }) 1 6 [.ref (L 0), .int a, .ref (L 168)] (cW cy L (oW cy F f) C) (some (.int 2)) (cW cy L (oW cy F f) C) := by
  refine GMw.ofW (cc := cL_append) (maxL := 4) (ret := (some .int)) (by decide) rfl (Nat.le_of_ble_eq_true rfl) ?_
  intro p e s m below meth c ls hx hb hr hts hown hlocks hml hK hA hG hS hl htb
  have hl : lv_has ls 4 [(0, .ref (L 0)), (1, .int a), (2, .ref (L 168))] := hl
  refine lv_aload_n hx hb dL_append_0 rfl (lv_at hl 2 rfl) ?_
  refine lv_iconst (v := 0) hx hb dL_append_1 (by decide) ?_
  refine lv_aload_n hx hb dL_append_2 rfl (lv_at hl 0 rfl) ?_
  refine lv_iload_n hx hb dL_append_3 rfl (lv_at hl 1 rfl) ?_
  have hpre : ∀ z ∈ ([⟨0, 9, 12, 15⟩] : List ExceptionTableEntry), z.catchType ≠ 0 ∧ ∃ nm : String, Cond.classLink RL z.catchType nm ∈ wsL_append ∧ (xS, nm) ∈ gNc := fun z hz => by
    rcases List.mem_cons.mp hz with rfl | hz
    · exact ⟨by decide, xA, by decide +kernel, by decide +kernel⟩
    exact nomatch hz
  refine g_catchV (As := [.int a]) (rest := [.int 0, .ref (L 168)]) (hpc := 15) hx hb hml hown hts hK hA hG hS (k_X4_append_t2 l hst D cy N L _ (by omega) C a (wh1) (wh2) (wh)) (cwV 1 hts gL_append_X4_append rfl rfl rfl (by decide +kernel) ⟨Nat.le_of_ble_eq_true rfl, Nat.le_of_ble_eq_true rfl⟩) (by omega) cW_o (ci := 4) rfl rfl rfl rfl hl.1 (Nat.le_of_ble_eq_true rfl) dL_append_4 ⟨Nat.le_of_ble_eq_true rfl, Nat.le_of_ble_eq_true rfl⟩ [⟨0, 9, 12, 15⟩] ⟨0, 9, 15, 27⟩ [] htb hpre (by decide) (by decide) (by decide +kernel) (by decide) rfl (fun H locs q9 hG hS => ?_)
  refine lv_astore_n (lv' := [(3, .ref q9), (0, .ref (L 0)), (1, .int a), (2, .ref (L 168))]) hx hb dL_append_15 rfl hl (by decide) rfl (fun ls hl => ?_)
  refine lv_iconst (v := 2) hx hb dL_append_16 (by decide) ?_
  exact g_iret hx hb hr hlocks hK hG hS rfl dL_append_17 ⟨rfl, rfl⟩
set_option maxHeartbeats 4000000 in
set_option maxRecDepth 100000 in
theorem k_L_undo_no (l : Launch) (hst : l.stackTraces = false) (D : va_G) (cy : Nat → ClassId) (N : Nat) (L : Nat → Nat) (F : Nat → va_E) (hN : 169 ≤ N) (f : Nat → Int64) (C : CT)  (wh : cQ C = 0) : GMw l D cy N L yL_undo wsL_undo ({ frames := 8, cells := 1, slots := 6, locals := 170 }) 1 6 [.ref (L 0), .ref (L 168)] (cW cy L (oW cy F f) C) (some (.int 1)) (cW cy L (oW cy F f) C) := by
  refine GMw.ofW (cc := cL_undo) (maxL := 3) (ret := (some .int)) (by decide) rfl (Nat.le_of_ble_eq_true rfl) ?_
  intro p e s m below meth c ls hx hb hr hts hown hlocks hml hK hA hG hS hl htb
  have hl : lv_has ls 3 [(0, .ref (L 0)), (1, .ref (L 168))] := hl
  refine lv_aload_n hx hb dL_undo_0 rfl (lv_at hl 1 rfl) ?_
  refine lv_iconst (v := 0) hx hb dL_undo_1 (by decide) ?_
  refine lv_aload_n hx hb dL_undo_2 rfl (lv_at hl 0 rfl) ?_
  have hpre : ∀ z ∈ ([] : List ExceptionTableEntry), z.catchType ≠ 0 ∧ ∃ nm : String, Cond.classLink RL z.catchType nm ∈ wsL_undo ∧ (xS, nm) ∈ gNc := fun z hz => nomatch hz
  refine g_catchV (As := []) (rest := [.int 0, .ref (L 168)]) (hpc := 11) hx hb hml hown hts hK hA hG hS (k_X4_undo_no l hst D cy N L _ (by omega) C  (wh)) (cwV 0 hts gL_undo_X4_undo rfl rfl rfl (by decide +kernel) ⟨Nat.le_of_ble_eq_true rfl, Nat.le_of_ble_eq_true rfl⟩) (by omega) cW_o (ci := 4) rfl rfl rfl rfl hl.1 (Nat.le_of_ble_eq_true rfl) dL_undo_3 ⟨Nat.le_of_ble_eq_true rfl, Nat.le_of_ble_eq_true rfl⟩ [] ⟨0, 8, 11, 27⟩ [] htb hpre (by decide) (by decide) (by decide +kernel) (by decide) rfl (fun H locs q9 hG hS => ?_)
  refine lv_astore_n (lv' := [(2, .ref q9), (0, .ref (L 0)), (1, .ref (L 168))]) hx hb dL_undo_11 rfl hl (by decide) rfl (fun ls hl => ?_)
  refine lv_iconst (v := 1) hx hb dL_undo_12 (by decide) ?_
  exact g_iret hx hb hr hlocks hK hG hS rfl dL_undo_13 ⟨rfl, rfl⟩
set_option maxHeartbeats 4000000 in
set_option maxRecDepth 100000 in
theorem k_L_silo_t1 (l : Launch) (hst : l.stackTraces = false) (D : va_G) (cy : Nat → ClassId) (N : Nat) (L : Nat → Nat) (F : Nat → va_E) (hN : 169 ≤ N) (f : Nat → Int64) (C : CT) (a b : Int32) (wh : ¬ c_noSilo a = 0) : GMw l D cy N L yL_silo wsL_silo ({ frames := 8, cells := 1, slots := 6, locals := 173 }) 1 6 [.ref (L 0), .int a, .int b, .ref (L 168)] (cW cy L (oW cy F f) C) (some (.int 1)) (cW cy L (oW cy F f) C) := by
  refine GMw.ofW (cc := cL_silo) (maxL := 5) (ret := (some .int)) (by decide) rfl (Nat.le_of_ble_eq_true rfl) ?_
  intro p e s m below meth c ls hx hb hr hts hown hlocks hml hK hA hG hS hl htb
  have hl : lv_has ls 5 [(0, .ref (L 0)), (1, .int a), (2, .int b), (3, .ref (L 168))] := hl
  refine lv_aload_n hx hb dL_silo_0 rfl (lv_at hl 3 rfl) ?_
  refine lv_iconst (v := 0) hx hb dL_silo_1 (by decide) ?_
  refine lv_aload_n hx hb dL_silo_2 rfl (lv_at hl 0 rfl) ?_
  refine lv_iload_n hx hb dL_silo_3 rfl (lv_at hl 1 rfl) ?_
  refine lv_iload_n hx hb dL_silo_4 rfl (lv_at hl 2 rfl) ?_
  have hpre : ∀ z ∈ ([] : List ExceptionTableEntry), z.catchType ≠ 0 ∧ ∃ nm : String, Cond.classLink RL z.catchType nm ∈ wsL_silo ∧ (xI, nm) ∈ gNc := fun z hz => nomatch hz
  refine g_catchV (As := [.int a, .int b]) (rest := [.int 0, .ref (L 168)]) (hpc := 13) hx hb hml hown hts hK hA hG hS (k_X4_silo_t1 l hst D cy N L _ (by omega) C a b (wh)) (cwV 2 hts gL_silo_X4_silo rfl rfl rfl (by decide +kernel) ⟨Nat.le_of_ble_eq_true rfl, Nat.le_of_ble_eq_true rfl⟩) (by omega) cW_o (ci := 4) rfl rfl rfl rfl hl.1 (Nat.le_of_ble_eq_true rfl) dL_silo_5 ⟨Nat.le_of_ble_eq_true rfl, Nat.le_of_ble_eq_true rfl⟩ [] ⟨0, 10, 13, 13⟩ [⟨0, 10, 17, 15⟩] htb hpre (by decide) (by decide) (by decide +kernel) (by decide) rfl (fun H locs q9 hG hS => ?_)
  refine lv_astore (lv' := [(4, .ref q9), (0, .ref (L 0)), (1, .int a), (2, .int b), (3, .ref (L 168))]) hx hb dL_silo_13 hl (by decide) rfl (fun ls hl => ?_)
  refine lv_iconst (v := 1) hx hb dL_silo_15 (by decide) ?_
  exact g_iret hx hb hr hlocks hK hG hS rfl dL_silo_16 ⟨rfl, rfl⟩
set_option maxHeartbeats 4000000 in
set_option maxRecDepth 100000 in
theorem k_L_silo_t2 (l : Launch) (hst : l.stackTraces = false) (D : va_G) (cy : Nat → ClassId) (N : Nat) (L : Nat → Nat) (F : Nat → va_E) (hN : 169 ≤ N) (f : Nat → Int64) (C : CT) (k : Nat) (b : Int32) (whk : k < 4) (wn0 : ¬ b = 0) (wn1 : ¬ b = 1) (wn2 : ¬ b = 2) (wn3 : ¬ b = 3) (wn4 : ¬ b = 4) (wn5 : ¬ b = 5) : GMw l D cy N L yL_silo wsL_silo ({ frames := 8, cells := 1, slots := 6, locals := 173 }) 1 6 [.ref (L 0), .int (nI k), .int b, .ref (L 168)] (cW cy L (oW cy F f) C) (some (.int 2)) (cW cy L (oW cy F f) C) := by
  refine GMw.ofW (cc := cL_silo) (maxL := 5) (ret := (some .int)) (by decide) rfl (Nat.le_of_ble_eq_true rfl) ?_
  intro p e s m below meth c ls hx hb hr hts hown hlocks hml hK hA hG hS hl htb
  have hl : lv_has ls 5 [(0, .ref (L 0)), (1, .int (nI k)), (2, .int b), (3, .ref (L 168))] := hl
  refine lv_aload_n hx hb dL_silo_0 rfl (lv_at hl 3 rfl) ?_
  refine lv_iconst (v := 0) hx hb dL_silo_1 (by decide) ?_
  refine lv_aload_n hx hb dL_silo_2 rfl (lv_at hl 0 rfl) ?_
  refine lv_iload_n hx hb dL_silo_3 rfl (lv_at hl 1 rfl) ?_
  refine lv_iload_n hx hb dL_silo_4 rfl (lv_at hl 2 rfl) ?_
  have hpre : ∀ z ∈ ([⟨0, 10, 13, 13⟩] : List ExceptionTableEntry), z.catchType ≠ 0 ∧ ∃ nm : String, Cond.classLink RL z.catchType nm ∈ wsL_silo ∧ (xA, nm) ∈ gNc := fun z hz => by
    rcases List.mem_cons.mp hz with rfl | hz
    · exact ⟨by decide, xI, by decide +kernel, by decide +kernel⟩
    exact nomatch hz
  refine g_catchV (As := [.int (nI k), .int b]) (rest := [.int 0, .ref (L 168)]) (hpc := 17) hx hb hml hown hts hK hA hG hS (k_X4_silo_t2 l hst D cy N L _ (by omega) C k b (whk) (wn0) (wn1) (wn2) (wn3) (wn4) (wn5)) (cwV 2 hts gL_silo_X4_silo rfl rfl rfl (by decide +kernel) ⟨Nat.le_of_ble_eq_true rfl, Nat.le_of_ble_eq_true rfl⟩) (by omega) cW_o (ci := 4) rfl rfl rfl rfl hl.1 (Nat.le_of_ble_eq_true rfl) dL_silo_5 ⟨Nat.le_of_ble_eq_true rfl, Nat.le_of_ble_eq_true rfl⟩ [⟨0, 10, 13, 13⟩] ⟨0, 10, 17, 15⟩ [] htb hpre (by decide) (by decide) (by decide +kernel) (by decide) rfl (fun H locs q9 hG hS => ?_)
  refine lv_astore (lv' := [(4, .ref q9), (0, .ref (L 0)), (1, .int (nI k)), (2, .int b), (3, .ref (L 168))]) hx hb dL_silo_17 hl (by decide) rfl (fun ls hl => ?_)
  refine lv_iconst (v := 2) hx hb dL_silo_19 (by decide) ?_
  exact g_iret hx hb hr hlocks hK hG hS rfl dL_silo_20 ⟨rfl, rfl⟩
set_option maxHeartbeats 4000000 in
set_option maxRecDepth 100000 in
theorem k_L_layer_t1 (l : Launch) (hst : l.stackTraces = false) (D : va_G) (cy : Nat → ClassId) (N : Nat) (L : Nat → Nat) (F : Nat → va_E) (hN : 169 ≤ N) (f : Nat → Int64) (C : CT) (a b t : Int32) (wh : ¬ c_noSilo a = 0) : GMw l D cy N L yL_layer wsL_layer ({ frames := 8, cells := 1, slots := 6, locals := 174 }) 1 6 [.ref (L 0), .int a, .int b, .int t, .ref (L 168)] (cW cy L (oW cy F f) C) (some (.int 1)) (cW cy L (oW cy F f) C) := by
  refine GMw.ofW (cc := cL_layer) (maxL := 6) (ret := (some .int)) (by decide) rfl (Nat.le_of_ble_eq_true rfl) ?_
  intro p e s m below meth c ls hx hb hr hts hown hlocks hml hK hA hG hS hl htb
  have hl : lv_has ls 6 [(0, .ref (L 0)), (1, .int a), (2, .int b), (3, .int t), (4, .ref (L 168))] := hl
  refine lv_aload hx hb dL_layer_0 (lv_at hl 4 rfl) ?_
  refine lv_iconst (v := 0) hx hb dL_layer_2 (by decide) ?_
  refine lv_aload_n hx hb dL_layer_3 rfl (lv_at hl 0 rfl) ?_
  refine lv_iload_n hx hb dL_layer_4 rfl (lv_at hl 1 rfl) ?_
  refine lv_iload_n hx hb dL_layer_5 rfl (lv_at hl 2 rfl) ?_
  refine lv_iload_n hx hb dL_layer_6 rfl (lv_at hl 3 rfl) ?_
  have hpre : ∀ z ∈ ([] : List ExceptionTableEntry), z.catchType ≠ 0 ∧ ∃ nm : String, Cond.classLink RL z.catchType nm ∈ wsL_layer ∧ (xI, nm) ∈ gNc := fun z hz => nomatch hz
  refine g_catchV (As := [.int a, .int b, .int t]) (rest := [.int 0, .ref (L 168)]) (hpc := 15) hx hb hml hown hts hK hA hG hS (k_X4_layer_t1 l hst D cy N L _ (by omega) C a b t (wh)) (cwV 3 hts gL_layer_X4_layer rfl rfl rfl (by decide +kernel) ⟨Nat.le_of_ble_eq_true rfl, Nat.le_of_ble_eq_true rfl⟩) (by omega) cW_o (ci := 4) rfl rfl rfl rfl hl.1 (Nat.le_of_ble_eq_true rfl) dL_layer_7 ⟨Nat.le_of_ble_eq_true rfl, Nat.le_of_ble_eq_true rfl⟩ [] ⟨0, 12, 15, 13⟩ [⟨0, 12, 19, 15⟩] htb hpre (by decide) (by decide) (by decide +kernel) (by decide) rfl (fun H locs q9 hG hS => ?_)
  refine lv_astore (lv' := [(5, .ref q9), (0, .ref (L 0)), (1, .int a), (2, .int b), (3, .int t), (4, .ref (L 168))]) hx hb dL_layer_15 hl (by decide) rfl (fun ls hl => ?_)
  refine lv_iconst (v := 1) hx hb dL_layer_17 (by decide) ?_
  exact g_iret hx hb hr hlocks hK hG hS rfl dL_layer_18 ⟨rfl, rfl⟩
set_option maxHeartbeats 4000000 in
set_option maxRecDepth 100000 in
theorem k_L_layer_t1b (l : Launch) (hst : l.stackTraces = false) (D : va_G) (cy : Nat → ClassId) (N : Nat) (L : Nat → Nat) (F : Nat → va_E) (hN : 169 ≤ N) (f : Nat → Int64) (C : CT) (k : Nat) (b t : Int32) (whk : k < 4) (wh : b < 0 ∨ ¬ b < nI (sN (yS (cY C) k))) : GMw l D cy N L yL_layer wsL_layer ({ frames := 8, cells := 1, slots := 6, locals := 174 }) 1 6 [.ref (L 0), .int (nI k), .int b, .int t, .ref (L 168)] (cW cy L (oW cy F f) C) (some (.int 1)) (cW cy L (oW cy F f) C) := by
  refine GMw.ofW (cc := cL_layer) (maxL := 6) (ret := (some .int)) (by decide) rfl (Nat.le_of_ble_eq_true rfl) ?_
  intro p e s m below meth c ls hx hb hr hts hown hlocks hml hK hA hG hS hl htb
  have hl : lv_has ls 6 [(0, .ref (L 0)), (1, .int (nI k)), (2, .int b), (3, .int t), (4, .ref (L 168))] := hl
  refine lv_aload hx hb dL_layer_0 (lv_at hl 4 rfl) ?_
  refine lv_iconst (v := 0) hx hb dL_layer_2 (by decide) ?_
  refine lv_aload_n hx hb dL_layer_3 rfl (lv_at hl 0 rfl) ?_
  refine lv_iload_n hx hb dL_layer_4 rfl (lv_at hl 1 rfl) ?_
  refine lv_iload_n hx hb dL_layer_5 rfl (lv_at hl 2 rfl) ?_
  refine lv_iload_n hx hb dL_layer_6 rfl (lv_at hl 3 rfl) ?_
  have hpre : ∀ z ∈ ([] : List ExceptionTableEntry), z.catchType ≠ 0 ∧ ∃ nm : String, Cond.classLink RL z.catchType nm ∈ wsL_layer ∧ (xI, nm) ∈ gNc := fun z hz => nomatch hz
  refine g_catchV (As := [.int (nI k), .int b, .int t]) (rest := [.int 0, .ref (L 168)]) (hpc := 15) hx hb hml hown hts hK hA hG hS (k_X4_layer_t1b l hst D cy N L _ (by omega) C k b t (whk) (wh)) (cwV 3 hts gL_layer_X4_layer rfl rfl rfl (by decide +kernel) ⟨Nat.le_of_ble_eq_true rfl, Nat.le_of_ble_eq_true rfl⟩) (by omega) cW_o (ci := 4) rfl rfl rfl rfl hl.1 (Nat.le_of_ble_eq_true rfl) dL_layer_7 ⟨Nat.le_of_ble_eq_true rfl, Nat.le_of_ble_eq_true rfl⟩ [] ⟨0, 12, 15, 13⟩ [⟨0, 12, 19, 15⟩] htb hpre (by decide) (by decide) (by decide +kernel) (by decide) rfl (fun H locs q9 hG hS => ?_)
  refine lv_astore (lv' := [(5, .ref q9), (0, .ref (L 0)), (1, .int (nI k)), (2, .int b), (3, .int t), (4, .ref (L 168))]) hx hb dL_layer_15 hl (by decide) rfl (fun ls hl => ?_)
  refine lv_iconst (v := 1) hx hb dL_layer_17 (by decide) ?_
  exact g_iret hx hb hr hlocks hK hG hS rfl dL_layer_18 ⟨rfl, rfl⟩
set_option maxHeartbeats 4000000 in
set_option maxRecDepth 100000 in
theorem k_L_layer_t2 (l : Launch) (hst : l.stackTraces = false) (D : va_G) (cy : Nat → ClassId) (N : Nat) (L : Nat → Nat) (F : Nat → va_E) (hN : 169 ≤ N) (f : Nat → Int64) (C : CT) (k j : Nat) (b : Int32) (whk : k < 4) (whj : j < sN (yS (cY C) k)) (whn10 : sN (yS (cY C) k) ≤ 10) (wn0 : ¬ b = 0) (wn1 : ¬ b = 1) (wn2 : ¬ b = 2) : GMw l D cy N L yL_layer wsL_layer ({ frames := 8, cells := 1, slots := 6, locals := 174 }) 1 6 [.ref (L 0), .int (nI k), .int (nI j), .int b, .ref (L 168)] (cW cy L (oW cy F f) C) (some (.int 2)) (cW cy L (oW cy F f) C) := by
  refine GMw.ofW (cc := cL_layer) (maxL := 6) (ret := (some .int)) (by decide) rfl (Nat.le_of_ble_eq_true rfl) ?_
  intro p e s m below meth c ls hx hb hr hts hown hlocks hml hK hA hG hS hl htb
  have hl : lv_has ls 6 [(0, .ref (L 0)), (1, .int (nI k)), (2, .int (nI j)), (3, .int b), (4, .ref (L 168))] := hl
  refine lv_aload hx hb dL_layer_0 (lv_at hl 4 rfl) ?_
  refine lv_iconst (v := 0) hx hb dL_layer_2 (by decide) ?_
  refine lv_aload_n hx hb dL_layer_3 rfl (lv_at hl 0 rfl) ?_
  refine lv_iload_n hx hb dL_layer_4 rfl (lv_at hl 1 rfl) ?_
  refine lv_iload_n hx hb dL_layer_5 rfl (lv_at hl 2 rfl) ?_
  refine lv_iload_n hx hb dL_layer_6 rfl (lv_at hl 3 rfl) ?_
  have hpre : ∀ z ∈ ([⟨0, 12, 15, 13⟩] : List ExceptionTableEntry), z.catchType ≠ 0 ∧ ∃ nm : String, Cond.classLink RL z.catchType nm ∈ wsL_layer ∧ (xA, nm) ∈ gNc := fun z hz => by
    rcases List.mem_cons.mp hz with rfl | hz
    · exact ⟨by decide, xI, by decide +kernel, by decide +kernel⟩
    exact nomatch hz
  refine g_catchV (As := [.int (nI k), .int (nI j), .int b]) (rest := [.int 0, .ref (L 168)]) (hpc := 19) hx hb hml hown hts hK hA hG hS (k_X4_layer_t2 l hst D cy N L _ (by omega) C k j b (whk) (whj) (whn10) (wn0) (wn1) (wn2)) (cwV 3 hts gL_layer_X4_layer rfl rfl rfl (by decide +kernel) ⟨Nat.le_of_ble_eq_true rfl, Nat.le_of_ble_eq_true rfl⟩) (by omega) cW_o (ci := 4) rfl rfl rfl rfl hl.1 (Nat.le_of_ble_eq_true rfl) dL_layer_7 ⟨Nat.le_of_ble_eq_true rfl, Nat.le_of_ble_eq_true rfl⟩ [⟨0, 12, 15, 13⟩] ⟨0, 12, 19, 15⟩ [] htb hpre (by decide) (by decide) (by decide +kernel) (by decide) rfl (fun H locs q9 hG hS => ?_)
  refine lv_astore (lv' := [(5, .ref q9), (0, .ref (L 0)), (1, .int (nI k)), (2, .int (nI j)), (3, .int b), (4, .ref (L 168))]) hx hb dL_layer_19 hl (by decide) rfl (fun ls hl => ?_)
  refine lv_iconst (v := 2) hx hb dL_layer_21 (by decide) ?_
  exact g_iret hx hb hr hlocks hK hG hS rfl dL_layer_22 ⟨rfl, rfl⟩
set_option maxHeartbeats 4000000 in
set_option maxRecDepth 100000 in
theorem k_L_shipOf_t1 (l : Launch) (hst : l.stackTraces = false) (D : va_G) (cy : Nat → ClassId) (N : Nat) (L : Nat → Nat) (F : Nat → va_E) (hN : 169 ≤ N) (f : Nat → Int64) (C : CT) (a b : Int32) (wh : ¬ c_noShip a = 0) : GMw l D cy N L yL_shipOf wsL_shipOf ({ frames := 8, cells := 1, slots := 6, locals := 172 }) 1 6 [.ref (L 0), .int a, .int b, .ref (L 168)] (cW cy L (oW cy F f) C) (some (.int 1)) (cW cy L (oW cy F f) C) := by
  refine GMw.ofW (cc := cL_shipOf) (maxL := 5) (ret := (some .int)) (by decide) rfl (Nat.le_of_ble_eq_true rfl) ?_
  intro p e s m below meth c ls hx hb hr hts hown hlocks hml hK hA hG hS hl htb
  have hl : lv_has ls 5 [(0, .ref (L 0)), (1, .int a), (2, .int b), (3, .ref (L 168))] := hl
  refine lv_aload_n hx hb dL_shipOf_0 rfl (lv_at hl 3 rfl) ?_
  refine lv_iconst (v := 0) hx hb dL_shipOf_1 (by decide) ?_
  refine lv_aload_n hx hb dL_shipOf_2 rfl (lv_at hl 0 rfl) ?_
  refine lv_iload_n hx hb dL_shipOf_3 rfl (lv_at hl 1 rfl) ?_
  refine lv_iload_n hx hb dL_shipOf_4 rfl (lv_at hl 2 rfl) ?_
  have hpre : ∀ z ∈ ([] : List ExceptionTableEntry), z.catchType ≠ 0 ∧ ∃ nm : String, Cond.classLink RL z.catchType nm ∈ wsL_shipOf ∧ (xI, nm) ∈ gNc := fun z hz => nomatch hz
  refine g_catchV (As := [.int a, .int b]) (rest := [.int 0, .ref (L 168)]) (hpc := 13) hx hb hml hown hts hK hA hG hS (k_X4_shipOf_t1 l hst D cy N L _ (by omega) C a b (wh)) (cwV 2 hts gL_shipOf_X4_shipOf rfl rfl rfl (by decide +kernel) ⟨Nat.le_of_ble_eq_true rfl, Nat.le_of_ble_eq_true rfl⟩) (by omega) cW_o (ci := 4) rfl rfl rfl rfl hl.1 (Nat.le_of_ble_eq_true rfl) dL_shipOf_5 ⟨Nat.le_of_ble_eq_true rfl, Nat.le_of_ble_eq_true rfl⟩ [] ⟨0, 10, 13, 13⟩ [⟨0, 10, 17, 15⟩] htb hpre (by decide) (by decide) (by decide +kernel) (by decide) rfl (fun H locs q9 hG hS => ?_)
  refine lv_astore (lv' := [(4, .ref q9), (0, .ref (L 0)), (1, .int a), (2, .int b), (3, .ref (L 168))]) hx hb dL_shipOf_13 hl (by decide) rfl (fun ls hl => ?_)
  refine lv_iconst (v := 1) hx hb dL_shipOf_15 (by decide) ?_
  exact g_iret hx hb hr hlocks hK hG hS rfl dL_shipOf_16 ⟨rfl, rfl⟩
set_option maxHeartbeats 4000000 in
set_option maxRecDepth 100000 in
theorem k_L_shipOf_t2 (l : Launch) (hst : l.stackTraces = false) (D : va_G) (cy : Nat → ClassId) (N : Nat) (L : Nat → Nat) (F : Nat → va_E) (hN : 169 ≤ N) (f : Nat → Int64) (C : CT) (j : Nat) (b : Int32) (whj : j < 6) (wn0 : ¬ b = 0) (wn1 : ¬ b = 1) : GMw l D cy N L yL_shipOf wsL_shipOf ({ frames := 8, cells := 1, slots := 6, locals := 172 }) 1 6 [.ref (L 0), .int (nI j), .int b, .ref (L 168)] (cW cy L (oW cy F f) C) (some (.int 2)) (cW cy L (oW cy F f) C) := by
  refine GMw.ofW (cc := cL_shipOf) (maxL := 5) (ret := (some .int)) (by decide) rfl (Nat.le_of_ble_eq_true rfl) ?_
  intro p e s m below meth c ls hx hb hr hts hown hlocks hml hK hA hG hS hl htb
  have hl : lv_has ls 5 [(0, .ref (L 0)), (1, .int (nI j)), (2, .int b), (3, .ref (L 168))] := hl
  refine lv_aload_n hx hb dL_shipOf_0 rfl (lv_at hl 3 rfl) ?_
  refine lv_iconst (v := 0) hx hb dL_shipOf_1 (by decide) ?_
  refine lv_aload_n hx hb dL_shipOf_2 rfl (lv_at hl 0 rfl) ?_
  refine lv_iload_n hx hb dL_shipOf_3 rfl (lv_at hl 1 rfl) ?_
  refine lv_iload_n hx hb dL_shipOf_4 rfl (lv_at hl 2 rfl) ?_
  have hpre : ∀ z ∈ ([⟨0, 10, 13, 13⟩] : List ExceptionTableEntry), z.catchType ≠ 0 ∧ ∃ nm : String, Cond.classLink RL z.catchType nm ∈ wsL_shipOf ∧ (xA, nm) ∈ gNc := fun z hz => by
    rcases List.mem_cons.mp hz with rfl | hz
    · exact ⟨by decide, xI, by decide +kernel, by decide +kernel⟩
    exact nomatch hz
  refine g_catchV (As := [.int (nI j), .int b]) (rest := [.int 0, .ref (L 168)]) (hpc := 17) hx hb hml hown hts hK hA hG hS (k_X4_shipOf_t2 l hst D cy N L _ (by omega) C j b (whj) (wn0) (wn1)) (cwV 2 hts gL_shipOf_X4_shipOf rfl rfl rfl (by decide +kernel) ⟨Nat.le_of_ble_eq_true rfl, Nat.le_of_ble_eq_true rfl⟩) (by omega) cW_o (ci := 4) rfl rfl rfl rfl hl.1 (Nat.le_of_ble_eq_true rfl) dL_shipOf_5 ⟨Nat.le_of_ble_eq_true rfl, Nat.le_of_ble_eq_true rfl⟩ [⟨0, 10, 13, 13⟩] ⟨0, 10, 17, 15⟩ [] htb hpre (by decide) (by decide) (by decide +kernel) (by decide) rfl (fun H locs q9 hG hS => ?_)
  refine lv_astore (lv' := [(4, .ref q9), (0, .ref (L 0)), (1, .int (nI j)), (2, .int b), (3, .ref (L 168))]) hx hb dL_shipOf_17 hl (by decide) rfl (fun ls hl => ?_)
  refine lv_iconst (v := 2) hx hb dL_shipOf_19 (by decide) ?_
  exact g_iret hx hb hr hlocks hK hG hS rfl dL_shipOf_20 ⟨rfl, rfl⟩
set_option maxHeartbeats 4000000 in
set_option maxRecDepth 100000 in
theorem k_L_count_t1 (l : Launch) (hst : l.stackTraces = false) (D : va_G) (cy : Nat → ClassId) (N : Nat) (L : Nat → Nat) (F : Nat → va_E) (hN : 169 ≤ N) (f : Nat → Int64) (C : CT) (b : Int32) (wn0 : ¬ b = 0) (wn1 : ¬ b = 1) (wn2 : ¬ b = 2) (wn3 : ¬ b = 3) (wn4 : ¬ b = 4) (wn5 : ¬ b = 5) (wn6 : ¬ b = 6) (wn7 : ¬ b = 7) (wn8 : ¬ b = 8) (wn9 : ¬ b = 9) (wn10 : ¬ b = 10) (wn11 : ¬ b = 11) (wn12 : ¬ b = 12) (wn13 : ¬ b = 13) (wn14 : ¬ b = 14) : GMw l D cy N L yL_count wsL_count ({ frames := 8, cells := 1, slots := 6, locals := 171 }) 1 6 [.ref (L 0), .int b, .ref (L 168)] (cW cy L (oW cy F f) C) (some (.int 1)) (cW cy L (oW cy F f) C) := by
  refine GMw.ofW (cc := cL_count) (maxL := 4) (ret := (some .int)) (by decide) rfl (Nat.le_of_ble_eq_true rfl) ?_
  intro p e s m below meth c ls hx hb hr hts hown hlocks hml hK hA hG hS hl htb
  have hl : lv_has ls 4 [(0, .ref (L 0)), (1, .int b), (2, .ref (L 168))] := hl
  refine lv_aload_n hx hb dL_count_0 rfl (lv_at hl 2 rfl) ?_
  refine lv_iconst (v := 0) hx hb dL_count_1 (by decide) ?_
  refine lv_aload_n hx hb dL_count_2 rfl (lv_at hl 0 rfl) ?_
  refine lv_iload_n hx hb dL_count_3 rfl (lv_at hl 1 rfl) ?_
  have hpre : ∀ z ∈ ([] : List ExceptionTableEntry), z.catchType ≠ 0 ∧ ∃ nm : String, Cond.classLink RL z.catchType nm ∈ wsL_count ∧ (xA, nm) ∈ gNc := fun z hz => nomatch hz
  refine g_catchV (As := [.int b]) (rest := [.int 0, .ref (L 168)]) (hpc := 12) hx hb hml hown hts hK hA hG hS (k_X4_count_t1 l hst D cy N L _ (by omega) C b (wn0) (wn1) (wn2) (wn3) (wn4) (wn5) (wn6) (wn7) (wn8) (wn9) (wn10) (wn11) (wn12) (wn13) (wn14)) (cwV 1 hts gL_count_X4_count rfl rfl rfl (by decide +kernel) ⟨Nat.le_of_ble_eq_true rfl, Nat.le_of_ble_eq_true rfl⟩) (by omega) cW_o (ci := 4) rfl rfl rfl rfl hl.1 (Nat.le_of_ble_eq_true rfl) dL_count_4 ⟨Nat.le_of_ble_eq_true rfl, Nat.le_of_ble_eq_true rfl⟩ [] ⟨0, 9, 12, 15⟩ [] htb hpre (by decide) (by decide) (by decide +kernel) (by decide) rfl (fun H locs q9 hG hS => ?_)
  refine lv_astore_n (lv' := [(3, .ref q9), (0, .ref (L 0)), (1, .int b), (2, .ref (L 168))]) hx hb dL_count_12 rfl hl (by decide) rfl (fun ls hl => ?_)
  refine lv_iconst (v := 1) hx hb dL_count_13 (by decide) ?_
  exact g_iret hx hb hr hlocks hK hG hS rfl dL_count_14 ⟨rfl, rfl⟩
set_option maxHeartbeats 4000000 in
set_option maxRecDepth 100000 in
theorem k_L_whyNot_t1 (l : Launch) (hst : l.stackTraces = false) (D : va_G) (cy : Nat → ClassId) (N : Nat) (L : Nat → Nat) (F : Nat → va_E) (hN : 169 ≤ N) (f : Nat → Int64) (C : CT) (a b : Int32) (wh : ¬ c_noSilo a = 0 ∨ ¬ c_noShip b = 0) : GMw l D cy N L yL_whyNot wsL_whyNot ({ frames := 8, cells := 1, slots := 6, locals := 173 }) 1 6 [.ref (L 0), .int a, .int b, .ref (L 168)] (cW cy L (oW cy F f) C) (some (.int 1)) (cW cy L (oW cy F f) C) := by
  refine GMw.ofW (cc := cL_whyNot) (maxL := 5) (ret := (some .int)) (by decide) rfl (Nat.le_of_ble_eq_true rfl) ?_
  intro p e s m below meth c ls hx hb hr hts hown hlocks hml hK hA hG hS hl htb
  have hl : lv_has ls 5 [(0, .ref (L 0)), (1, .int a), (2, .int b), (3, .ref (L 168))] := hl
  refine lv_aload_n hx hb dL_whyNot_0 rfl (lv_at hl 3 rfl) ?_
  refine lv_iconst (v := 0) hx hb dL_whyNot_1 (by decide) ?_
  refine lv_aload_n hx hb dL_whyNot_2 rfl (lv_at hl 0 rfl) ?_
  refine lv_iload_n hx hb dL_whyNot_3 rfl (lv_at hl 1 rfl) ?_
  refine lv_iload_n hx hb dL_whyNot_4 rfl (lv_at hl 2 rfl) ?_
  have hpre : ∀ z ∈ ([] : List ExceptionTableEntry), z.catchType ≠ 0 ∧ ∃ nm : String, Cond.classLink RL z.catchType nm ∈ wsL_whyNot ∧ (xI, nm) ∈ gNc := fun z hz => nomatch hz
  refine g_catchV (As := [.int a, .int b]) (rest := [.int 0, .ref (L 168)]) (hpc := 13) hx hb hml hown hts hK hA hG hS (k_X4_whyNot_t1 l hst D cy N L _ (by omega) C a b (wh)) (cwV 2 hts gL_whyNot_X4_whyNot rfl rfl rfl (by decide +kernel) ⟨Nat.le_of_ble_eq_true rfl, Nat.le_of_ble_eq_true rfl⟩) (by omega) cW_o (ci := 4) rfl rfl rfl rfl hl.1 (Nat.le_of_ble_eq_true rfl) dL_whyNot_5 ⟨Nat.le_of_ble_eq_true rfl, Nat.le_of_ble_eq_true rfl⟩ [] ⟨0, 10, 13, 13⟩ [] htb hpre (by decide) (by decide) (by decide +kernel) (by decide) rfl (fun H locs q9 hG hS => ?_)
  refine lv_astore (lv' := [(4, .ref q9), (0, .ref (L 0)), (1, .int a), (2, .int b), (3, .ref (L 168))]) hx hb dL_whyNot_13 hl (by decide) rfl (fun ls hl => ?_)
  refine lv_iconst (v := 1) hx hb dL_whyNot_15 (by decide) ?_
  exact g_iret hx hb hr hlocks hK hG hS rfl dL_whyNot_16 ⟨rfl, rfl⟩
set_option maxHeartbeats 4000000 in
set_option maxRecDepth 100000 in
theorem k_L_ifFlowed_t1 (l : Launch) (hst : l.stackTraces = false) (D : va_G) (cy : Nat → ClassId) (N : Nat) (L : Nat → Nat) (F : Nat → va_E) (hN : 169 ≤ N) (f : Nat → Int64) (C : CT) (a b t u : Int32) (wh : ¬ c_noSilo a = 0 ∨ ¬ c_noShip b = 0) : GMw l D cy N L yL_ifFlowed wsL_ifFlowed ({ frames := 8, cells := 1, slots := 6, locals := 174 }) 1 6 [.ref (L 0), .int a, .int b, .int t, .int u, .ref (L 168)] (cW cy L (oW cy F f) C) (some (.int 1)) (cW cy L (oW cy F f) C) := by
  refine GMw.ofW (cc := cL_ifFlowed) (maxL := 7) (ret := (some .int)) (by decide) rfl (Nat.le_of_ble_eq_true rfl) ?_
  intro p e s m below meth c ls hx hb hr hts hown hlocks hml hK hA hG hS hl htb
  have hl : lv_has ls 7 [(0, .ref (L 0)), (1, .int a), (2, .int b), (3, .int t), (4, .int u), (5, .ref (L 168))] := hl
  refine lv_aload hx hb dL_ifFlowed_0 (lv_at hl 5 rfl) ?_
  refine lv_iconst (v := 0) hx hb dL_ifFlowed_2 (by decide) ?_
  refine lv_aload_n hx hb dL_ifFlowed_3 rfl (lv_at hl 0 rfl) ?_
  refine lv_iload_n hx hb dL_ifFlowed_4 rfl (lv_at hl 1 rfl) ?_
  refine lv_iload_n hx hb dL_ifFlowed_5 rfl (lv_at hl 2 rfl) ?_
  refine lv_iload_n hx hb dL_ifFlowed_6 rfl (lv_at hl 3 rfl) ?_
  refine lv_iload hx hb dL_ifFlowed_7 (lv_at hl 4 rfl) ?_
  have hpre : ∀ z ∈ ([] : List ExceptionTableEntry), z.catchType ≠ 0 ∧ ∃ nm : String, Cond.classLink RL z.catchType nm ∈ wsL_ifFlowed ∧ (xI, nm) ∈ gNc := fun z hz => nomatch hz
  refine g_catchV (As := [.int a, .int b, .int t, .int u]) (rest := [.int 0, .ref (L 168)]) (hpc := 17) hx hb hml hown hts hK hA hG hS (k_X4_ifFlowed_t1 l hst D cy N L _ (by omega) C a b t u (wh)) (cwV 4 hts gL_ifFlowed_X4_ifFlowed rfl rfl rfl (by decide +kernel) ⟨Nat.le_of_ble_eq_true rfl, Nat.le_of_ble_eq_true rfl⟩) (by omega) cW_o (ci := 4) rfl rfl rfl rfl hl.1 (Nat.le_of_ble_eq_true rfl) dL_ifFlowed_9 ⟨Nat.le_of_ble_eq_true rfl, Nat.le_of_ble_eq_true rfl⟩ [] ⟨0, 14, 17, 13⟩ [⟨0, 14, 21, 15⟩] htb hpre (by decide) (by decide) (by decide +kernel) (by decide) rfl (fun H locs q9 hG hS => ?_)
  refine lv_astore (lv' := [(6, .ref q9), (0, .ref (L 0)), (1, .int a), (2, .int b), (3, .int t), (4, .int u), (5, .ref (L 168))]) hx hb dL_ifFlowed_17 hl (by decide) rfl (fun ls hl => ?_)
  refine lv_iconst (v := 1) hx hb dL_ifFlowed_19 (by decide) ?_
  exact g_iret hx hb hr hlocks hK hG hS rfl dL_ifFlowed_20 ⟨rfl, rfl⟩
set_option maxHeartbeats 4000000 in
set_option maxRecDepth 100000 in
theorem k_L_ifFlowed_t2 (l : Launch) (hst : l.stackTraces = false) (D : va_G) (cy : Nat → ClassId) (N : Nat) (L : Nat → Nat) (F : Nat → va_E) (hN : 169 ≤ N) (f : Nat → Int64) (C : CT) (k j : Nat) (t u : Int32) (whk : k < 4) (whj : j < 6) (wh : t < 1 ∨ 24 < t ∨ u < 0 ∨ ¬ u ≤ 4) : GMw l D cy N L yL_ifFlowed wsL_ifFlowed ({ frames := 8, cells := 1, slots := 6, locals := 174 }) 1 6 [.ref (L 0), .int (nI k), .int (nI j), .int t, .int u, .ref (L 168)] (cW cy L (oW cy F f) C) (some (.int 2)) (cW cy L (oW cy F f) C) := by
  refine GMw.ofW (cc := cL_ifFlowed) (maxL := 7) (ret := (some .int)) (by decide) rfl (Nat.le_of_ble_eq_true rfl) ?_
  intro p e s m below meth c ls hx hb hr hts hown hlocks hml hK hA hG hS hl htb
  have hl : lv_has ls 7 [(0, .ref (L 0)), (1, .int (nI k)), (2, .int (nI j)), (3, .int t), (4, .int u), (5, .ref (L 168))] := hl
  refine lv_aload hx hb dL_ifFlowed_0 (lv_at hl 5 rfl) ?_
  refine lv_iconst (v := 0) hx hb dL_ifFlowed_2 (by decide) ?_
  refine lv_aload_n hx hb dL_ifFlowed_3 rfl (lv_at hl 0 rfl) ?_
  refine lv_iload_n hx hb dL_ifFlowed_4 rfl (lv_at hl 1 rfl) ?_
  refine lv_iload_n hx hb dL_ifFlowed_5 rfl (lv_at hl 2 rfl) ?_
  refine lv_iload_n hx hb dL_ifFlowed_6 rfl (lv_at hl 3 rfl) ?_
  refine lv_iload hx hb dL_ifFlowed_7 (lv_at hl 4 rfl) ?_
  have hpre : ∀ z ∈ ([⟨0, 14, 17, 13⟩] : List ExceptionTableEntry), z.catchType ≠ 0 ∧ ∃ nm : String, Cond.classLink RL z.catchType nm ∈ wsL_ifFlowed ∧ (xA, nm) ∈ gNc := fun z hz => by
    rcases List.mem_cons.mp hz with rfl | hz
    · exact ⟨by decide, xI, by decide +kernel, by decide +kernel⟩
    exact nomatch hz
  refine g_catchV (As := [.int (nI k), .int (nI j), .int t, .int u]) (rest := [.int 0, .ref (L 168)]) (hpc := 21) hx hb hml hown hts hK hA hG hS (k_X4_ifFlowed_t2 l hst D cy N L _ (by omega) C k j t u (whk) (whj) (wh)) (cwV 4 hts gL_ifFlowed_X4_ifFlowed rfl rfl rfl (by decide +kernel) ⟨Nat.le_of_ble_eq_true rfl, Nat.le_of_ble_eq_true rfl⟩) (by omega) cW_o (ci := 4) rfl rfl rfl rfl hl.1 (Nat.le_of_ble_eq_true rfl) dL_ifFlowed_9 ⟨Nat.le_of_ble_eq_true rfl, Nat.le_of_ble_eq_true rfl⟩ [⟨0, 14, 17, 13⟩] ⟨0, 14, 21, 15⟩ [] htb hpre (by decide) (by decide) (by decide +kernel) (by decide) rfl (fun H locs q9 hG hS => ?_)
  refine lv_astore (lv' := [(6, .ref q9), (0, .ref (L 0)), (1, .int (nI k)), (2, .int (nI j)), (3, .int t), (4, .int u), (5, .ref (L 168))]) hx hb dL_ifFlowed_21 hl (by decide) rfl (fun ls hl => ?_)
  refine lv_iconst (v := 2) hx hb dL_ifFlowed_23 (by decide) ?_
  exact g_iret hx hb hr hlocks hK hG hS rfl dL_ifFlowed_24 ⟨rfl, rfl⟩
set_option maxHeartbeats 4000000 in
set_option maxRecDepth 100000 in
theorem k_L_shakesNeeded_t1 (l : Launch) (hst : l.stackTraces = false) (D : va_G) (cy : Nat → ClassId) (N : Nat) (L : Nat → Nat) (F : Nat → va_E) (hN : 169 ≤ N) (f : Nat → Int64) (C : CT) (a : Int32) (wh : ¬ c_noSilo a = 0) : GMw l D cy N L yL_shakesNeeded wsL_shakesNeeded ({ frames := 8, cells := 1, slots := 6, locals := 171 }) 1 6 [.ref (L 0), .int a, .ref (L 168)] (cW cy L (oW cy F f) C) (some (.int 1)) (cW cy L (oW cy F f) C) := by
  refine GMw.ofW (cc := cL_shakesNeeded) (maxL := 4) (ret := (some .int)) (by decide) rfl (Nat.le_of_ble_eq_true rfl) ?_
  intro p e s m below meth c ls hx hb hr hts hown hlocks hml hK hA hG hS hl htb
  have hl : lv_has ls 4 [(0, .ref (L 0)), (1, .int a), (2, .ref (L 168))] := hl
  refine lv_aload_n hx hb dL_shakesNeeded_0 rfl (lv_at hl 2 rfl) ?_
  refine lv_iconst (v := 0) hx hb dL_shakesNeeded_1 (by decide) ?_
  refine lv_aload_n hx hb dL_shakesNeeded_2 rfl (lv_at hl 0 rfl) ?_
  refine lv_iload_n hx hb dL_shakesNeeded_3 rfl (lv_at hl 1 rfl) ?_
  have hpre : ∀ z ∈ ([] : List ExceptionTableEntry), z.catchType ≠ 0 ∧ ∃ nm : String, Cond.classLink RL z.catchType nm ∈ wsL_shakesNeeded ∧ (xI, nm) ∈ gNc := fun z hz => nomatch hz
  refine g_catchV (As := [.int a]) (rest := [.int 0, .ref (L 168)]) (hpc := 12) hx hb hml hown hts hK hA hG hS (k_X4_shakesNeeded_t1 l hst D cy N L _ (by omega) C a (wh)) (cwV 1 hts gL_shakesNeeded_X4_shakesNeeded rfl rfl rfl (by decide +kernel) ⟨Nat.le_of_ble_eq_true rfl, Nat.le_of_ble_eq_true rfl⟩) (by omega) cW_o (ci := 4) rfl rfl rfl rfl hl.1 (Nat.le_of_ble_eq_true rfl) dL_shakesNeeded_4 ⟨Nat.le_of_ble_eq_true rfl, Nat.le_of_ble_eq_true rfl⟩ [] ⟨0, 9, 12, 13⟩ [] htb hpre (by decide) (by decide) (by decide +kernel) (by decide) rfl (fun H locs q9 hG hS => ?_)
  refine lv_astore_n (lv' := [(3, .ref q9), (0, .ref (L 0)), (1, .int a), (2, .ref (L 168))]) hx hb dL_shakesNeeded_12 rfl hl (by decide) rfl (fun ls hl => ?_)
  refine lv_iconst (v := 1) hx hb dL_shakesNeeded_13 (by decide) ?_
  exact g_iret hx hb hr hlocks hK hG hS rfl dL_shakesNeeded_14 ⟨rfl, rfl⟩
