set_option maxHeartbeats 4000000 in
set_option maxRecDepth 100000 in
theorem law_ship {p : Program} {l : Launch} {e : Env} {s : State} {m : MethodId} {below : List Frame} {meth : Method} {c : Code} {b Ln : Nat} {xs : Nat → Int32} {D : va_G} {cy : Nat → ClassId} {L : Nat → Nat} {F : Nat → va_E} {Q : State → Prop} {t c0 s0 : Nat} (hC : LC p s m meth c b Ln xs D cy l) (hcl : c0 + t + 1 ≤ room_1.cells ∧ s0 + 6 * t + 6 ≤ room_1.slots) (hi : 5 * t + 5 ≤ Ln) (hN : NX p l e s m below meth c b D cy L F Q 1371 t (t + 1) c0 s0) : NX p l e s m below meth c b D cy L F Q 144 t t c0 s0 := by
  obtain ⟨hx, hb, hml, hown, hts, hK, hX, hbl, hL, hst⟩ := hC
  have hA : ∀ q : Nat, s.heap.size ≤ q → (fun q : Nat => s.heap.size ≤ q) q := fun _ h => h
  have hbA : ¬ (fun q : Nat => s.heap.size ≤ q) b := Nat.not_le.mpr hbl
  intro f C M H locs ls hw hG hS hl
  obtain ⟨r, bb, f', C', M', hwr, hmr, ht', hf', hW'⟩ := st_ship (l := l) D cy L F f hst (xs (5 * t + 1)) (xs (5 * t + 2)) (xs (5 * t + 3)) (by omega) (by omega) hw
  refine lv_aload_n hx hb dL_law_144 rfl (lv_at hl 3 rfl) ?_
  refine lv_aload_n hx hb dL_law_145 rfl (lv_at hl 4 rfl) ?_
  refine lv_iload hx hb dL_law_146 (lv_at hl 0 rfl) ?_
  refine lv_iconst (v := 1) hx hb dL_law_148 (by decide) ?_
  refine lv_iadd hx hb dL_law_149 ?_
  refine lv_toN (k := 5 * t + 1) (nI_add (5 * t) 1) ?_
  refine va_sld hx hb hX hbl hbA hS (vp_in_nI (by omega) (by omega)) dL_law_150 ?_
  refine lv_toI (y := xs (5 * t + 1)) (by rw [nI_clamp (by omega)]) ?_
  refine lv_aload_n hx hb dL_law_151 rfl (lv_at hl 4 rfl) ?_
  refine lv_iload hx hb dL_law_152 (lv_at hl 0 rfl) ?_
  refine lv_iconst (v := 2) hx hb dL_law_154 (by decide) ?_
  refine lv_iadd hx hb dL_law_155 ?_
  refine lv_toN (k := 5 * t + 2) (nI_add (5 * t) 2) ?_
  refine va_sld hx hb hX hbl hbA hS (vp_in_nI (by omega) (by omega)) dL_law_156 ?_
  refine lv_toI (y := xs (5 * t + 2)) (by rw [nI_clamp (by omega)]) ?_
  refine lv_aload_n hx hb dL_law_157 rfl (lv_at hl 4 rfl) ?_
  refine lv_iload hx hb dL_law_158 (lv_at hl 0 rfl) ?_
  refine lv_iconst (v := 3) hx hb dL_law_160 (by decide) ?_
  refine lv_iadd hx hb dL_law_161 ?_
  refine lv_toN (k := 5 * t + 3) (nI_add (5 * t) 3) ?_
  refine va_sld hx hb hX hbl hbA hS (vp_in_nI (by omega) (by omega)) dL_law_162 ?_
  refine lv_toI (y := xs (5 * t + 3)) (by rw [nI_clamp (by omega)]) ?_
  refine lv_aload_n hx hb dL_law_163 rfl (lv_at hl 1 rfl) ?_
  refine g_cLW (n := 5) (As := [.ref (L 0), .int (xs (5 * t + 1)), .int (xs (5 * t + 2)), .int (xs (5 * t + 3)), .ref (L 168)]) (rest := []) hx hb hml hown hts hK hA hG hS hwr gL_law_L_ship rfl (by decide +kernel) ⟨Nat.le_of_ble_eq_true rfl, Nat.le_of_ble_eq_true rfl⟩ rfl rfl hl.1 (Nat.le_of_ble_eq_true rfl) dL_law_164 ⟨hcl.1, hcl.2⟩ (fun H locs hG hS => ?_)
  refine lv_istore (lv' := [(5, .int r), (4, .int (nI (5 * t))), (3, .ref (L 168)), (2, .ref (L 162)), (1, .ref (L 0)), (0, .ref b)]) hx hb dL_law_167 hl (by decide) rfl (fun ls hl => ?_)
  refine lv_aload_n hx hb dL_law_169 rfl (lv_at hl 3 rfl) ?_
  refine lv_aload_n hx hb dL_law_170 rfl (lv_at hl 5 rfl) ?_
  refine lv_iload hx hb dL_law_171 (lv_at hl 1 rfl) ?_
  refine lv_iconst (v := 1) hx hb dL_law_173 (by decide) ?_
  refine lv_iadd hx hb dL_law_174 ?_
  refine lv_toN (k := 5 * t + 1) (nI_add (5 * t) 1) ?_
  refine va_sld hx hb hX hbl hbA hS (vp_in_nI (by omega) (by omega)) dL_law_175 ?_
  refine lv_toI (y := xs (5 * t + 1)) (by rw [nI_clamp (by omega)]) ?_
  refine lv_aload_n hx hb dL_law_176 rfl (lv_at hl 5 rfl) ?_
  refine lv_iload hx hb dL_law_177 (lv_at hl 1 rfl) ?_
  refine lv_iconst (v := 2) hx hb dL_law_179 (by decide) ?_
  refine lv_iadd hx hb dL_law_180 ?_
  refine lv_toN (k := 5 * t + 2) (nI_add (5 * t) 2) ?_
  refine va_sld hx hb hX hbl hbA hS (vp_in_nI (by omega) (by omega)) dL_law_181 ?_
  refine lv_toI (y := xs (5 * t + 2)) (by rw [nI_clamp (by omega)]) ?_
  refine lv_aload_n hx hb dL_law_182 rfl (lv_at hl 5 rfl) ?_
  refine lv_iload hx hb dL_law_183 (lv_at hl 1 rfl) ?_
  refine lv_iconst (v := 3) hx hb dL_law_185 (by decide) ?_
  refine lv_iadd hx hb dL_law_186 ?_
  refine lv_toN (k := 5 * t + 3) (nI_add (5 * t) 3) ?_
  refine va_sld hx hb hX hbl hbA hS (vp_in_nI (by omega) (by omega)) dL_law_187 ?_
  refine lv_toI (y := xs (5 * t + 3)) (by rw [nI_clamp (by omega)]) ?_
  refine g_cVi (As := [.int (xs (5 * t + 1)), .int (xs (5 * t + 2)), .int (xs (5 * t + 3))]) (rest := []) hx hb hml hown hts hK hA hG hS hmr (cwV 3 hts gL_law_X5_ship rfl rfl rfl (by decide +kernel) ⟨Nat.le_of_ble_eq_true rfl, Nat.le_of_ble_eq_true rfl⟩) (by omega) KW_162 (ci := 5) rfl rfl rfl rfl hl.1 (Nat.le_of_ble_eq_true rfl) dL_law_188 ⟨hcl.1, hcl.2⟩ (fun H locs hG hS => ?_)
  refine lv_istore (lv' := [(6, .int bb), (5, .int r), (4, .int (nI (5 * t))), (3, .ref (L 168)), (2, .ref (L 162)), (1, .ref (L 0)), (0, .ref b)]) hx hb dL_law_191 hl (by decide) rfl (fun ls hl => ?_)
  refine lv_aload_n hx hb dL_law_193 rfl (lv_at hl 4 rfl) ?_
  refine g_cVi (As := []) (rest := []) hx hb hml hown hts hK hA hG hS (thr_K l D cy L F f' C' M') (cwV 0 hts gL_law_X5_thrown rfl rfl rfl (by decide +kernel) ⟨Nat.le_of_ble_eq_true rfl, Nat.le_of_ble_eq_true rfl⟩) (by omega) KW_162 (ci := 5) rfl rfl rfl rfl hl.1 (Nat.le_of_ble_eq_true rfl) dL_law_194 ⟨hcl.1, hcl.2⟩ (fun H locs hG hS => ?_)
  refine lv_iload hx hb dL_law_197 (lv_at hl 1 rfl) ?_
  refine lv_icmp_eq (tgt := 204) hx hb dL_law_199 (by decide) (fun c_199 => ?_) (fun c_199 => ?_)
  · skip
    refine lv_iload hx hb dL_law_204 (lv_at hl 1 rfl) ?_
    refine lv_if_ne (tgt := 221) hx hb dL_law_206 (by decide) (fun c_206 => ?_) (fun c_206 => ?_)
    · skip
      refine lv_goto (tgt := 1371) hx hb dL_law_221 (by decide) ?_
      exact hN f' C' M' _ _ _ (hW'.mono (by omega)) hG hS (lv_sub hl [2, 3, 4, 5, 6] rfl)
    · skip
      refine lv_aload_n hx hb dL_law_209 rfl (lv_at hl 3 rfl) ?_
      refine lv_iconst (v := 0) hx hb dL_law_210 (by decide) ?_
      refine g_lald (k := 0) hx hb hK hG (by omega) KW_168 rfl (by omega) (by decide) dL_law_211 ?_
      refine lv_iload hx hb dL_law_212 (lv_at hl 0 rfl) ?_
      refine lv_i2l hx hb dL_law_214 rfl ?_
      refine W.lcmp hx hb dL_law_215 ?_
      refine lv_toI (y := 0) (by rw [hf' c_206]; exact lg_self) ?_
      refine lv_if_eq (tgt := 221) hx hb dL_law_216 (by decide) (fun c_216 => ?_) (fun c_216 => ?_)
      · skip
        refine lv_goto (tgt := 1371) hx hb dL_law_221 (by decide) ?_
        exact hN f' C' M' _ _ _ (hW'.mono (by omega)) hG hS (lv_sub hl [2, 3, 4, 5, 6] rfl)
      · exact absurd rfl c_216
  · exact absurd ht' c_199
set_option maxHeartbeats 4000000 in
set_option maxRecDepth 100000 in
theorem law_unload {p : Program} {l : Launch} {e : Env} {s : State} {m : MethodId} {below : List Frame} {meth : Method} {c : Code} {b Ln : Nat} {xs : Nat → Int32} {D : va_G} {cy : Nat → ClassId} {L : Nat → Nat} {F : Nat → va_E} {Q : State → Prop} {t c0 s0 : Nat} (hC : LC p s m meth c b Ln xs D cy l) (hcl : c0 + t + 1 ≤ room_1.cells ∧ s0 + 6 * t + 6 ≤ room_1.slots) (hi : 5 * t + 5 ≤ Ln) (hN : NX p l e s m below meth c b D cy L F Q 1371 t (t + 1) c0 s0) : NX p l e s m below meth c b D cy L F Q 224 t t c0 s0 := by
  obtain ⟨hx, hb, hml, hown, hts, hK, hX, hbl, hL, hst⟩ := hC
  have hA : ∀ q : Nat, s.heap.size ≤ q → (fun q : Nat => s.heap.size ≤ q) q := fun _ h => h
  have hbA : ¬ (fun q : Nat => s.heap.size ≤ q) b := Nat.not_le.mpr hbl
  intro f C M H locs ls hw hG hS hl
  obtain ⟨r, bb, f', C', M', hwr, hmr, ht', hf', hW'⟩ := st_unload (l := l) D cy L F f hst (xs (5 * t + 1)) (xs (5 * t + 2)) (xs (5 * t + 3)) (by omega) (by omega) hw
  refine lv_aload_n hx hb dL_law_224 rfl (lv_at hl 3 rfl) ?_
  refine lv_aload_n hx hb dL_law_225 rfl (lv_at hl 4 rfl) ?_
  refine lv_iload hx hb dL_law_226 (lv_at hl 0 rfl) ?_
  refine lv_iconst (v := 1) hx hb dL_law_228 (by decide) ?_
  refine lv_iadd hx hb dL_law_229 ?_
  refine lv_toN (k := 5 * t + 1) (nI_add (5 * t) 1) ?_
  refine va_sld hx hb hX hbl hbA hS (vp_in_nI (by omega) (by omega)) dL_law_230 ?_
  refine lv_toI (y := xs (5 * t + 1)) (by rw [nI_clamp (by omega)]) ?_
  refine lv_aload_n hx hb dL_law_231 rfl (lv_at hl 4 rfl) ?_
  refine lv_iload hx hb dL_law_232 (lv_at hl 0 rfl) ?_
  refine lv_iconst (v := 2) hx hb dL_law_234 (by decide) ?_
  refine lv_iadd hx hb dL_law_235 ?_
  refine lv_toN (k := 5 * t + 2) (nI_add (5 * t) 2) ?_
  refine va_sld hx hb hX hbl hbA hS (vp_in_nI (by omega) (by omega)) dL_law_236 ?_
  refine lv_toI (y := xs (5 * t + 2)) (by rw [nI_clamp (by omega)]) ?_
  refine lv_aload_n hx hb dL_law_237 rfl (lv_at hl 4 rfl) ?_
  refine lv_iload hx hb dL_law_238 (lv_at hl 0 rfl) ?_
  refine lv_iconst (v := 3) hx hb dL_law_240 (by decide) ?_
  refine lv_iadd hx hb dL_law_241 ?_
  refine lv_toN (k := 5 * t + 3) (nI_add (5 * t) 3) ?_
  refine va_sld hx hb hX hbl hbA hS (vp_in_nI (by omega) (by omega)) dL_law_242 ?_
  refine lv_toI (y := xs (5 * t + 3)) (by rw [nI_clamp (by omega)]) ?_
  refine lv_aload_n hx hb dL_law_243 rfl (lv_at hl 1 rfl) ?_
  refine g_cLW (n := 5) (As := [.ref (L 0), .int (xs (5 * t + 1)), .int (xs (5 * t + 2)), .int (xs (5 * t + 3)), .ref (L 168)]) (rest := []) hx hb hml hown hts hK hA hG hS hwr gL_law_L_unload rfl (by decide +kernel) ⟨Nat.le_of_ble_eq_true rfl, Nat.le_of_ble_eq_true rfl⟩ rfl rfl hl.1 (Nat.le_of_ble_eq_true rfl) dL_law_244 ⟨hcl.1, hcl.2⟩ (fun H locs hG hS => ?_)
  refine lv_istore (lv' := [(5, .int r), (4, .int (nI (5 * t))), (3, .ref (L 168)), (2, .ref (L 162)), (1, .ref (L 0)), (0, .ref b)]) hx hb dL_law_247 hl (by decide) rfl (fun ls hl => ?_)
  refine lv_aload_n hx hb dL_law_249 rfl (lv_at hl 3 rfl) ?_
  refine lv_aload_n hx hb dL_law_250 rfl (lv_at hl 5 rfl) ?_
  refine lv_iload hx hb dL_law_251 (lv_at hl 1 rfl) ?_
  refine lv_iconst (v := 1) hx hb dL_law_253 (by decide) ?_
  refine lv_iadd hx hb dL_law_254 ?_
  refine lv_toN (k := 5 * t + 1) (nI_add (5 * t) 1) ?_
  refine va_sld hx hb hX hbl hbA hS (vp_in_nI (by omega) (by omega)) dL_law_255 ?_
  refine lv_toI (y := xs (5 * t + 1)) (by rw [nI_clamp (by omega)]) ?_
  refine lv_aload_n hx hb dL_law_256 rfl (lv_at hl 5 rfl) ?_
  refine lv_iload hx hb dL_law_257 (lv_at hl 1 rfl) ?_
  refine lv_iconst (v := 2) hx hb dL_law_259 (by decide) ?_
  refine lv_iadd hx hb dL_law_260 ?_
  refine lv_toN (k := 5 * t + 2) (nI_add (5 * t) 2) ?_
  refine va_sld hx hb hX hbl hbA hS (vp_in_nI (by omega) (by omega)) dL_law_261 ?_
  refine lv_toI (y := xs (5 * t + 2)) (by rw [nI_clamp (by omega)]) ?_
  refine lv_aload_n hx hb dL_law_262 rfl (lv_at hl 5 rfl) ?_
  refine lv_iload hx hb dL_law_263 (lv_at hl 1 rfl) ?_
  refine lv_iconst (v := 3) hx hb dL_law_265 (by decide) ?_
  refine lv_iadd hx hb dL_law_266 ?_
  refine lv_toN (k := 5 * t + 3) (nI_add (5 * t) 3) ?_
  refine va_sld hx hb hX hbl hbA hS (vp_in_nI (by omega) (by omega)) dL_law_267 ?_
  refine lv_toI (y := xs (5 * t + 3)) (by rw [nI_clamp (by omega)]) ?_
  refine g_cVi (As := [.int (xs (5 * t + 1)), .int (xs (5 * t + 2)), .int (xs (5 * t + 3))]) (rest := []) hx hb hml hown hts hK hA hG hS hmr (cwV 3 hts gL_law_X5_unload rfl rfl rfl (by decide +kernel) ⟨Nat.le_of_ble_eq_true rfl, Nat.le_of_ble_eq_true rfl⟩) (by omega) KW_162 (ci := 5) rfl rfl rfl rfl hl.1 (Nat.le_of_ble_eq_true rfl) dL_law_268 ⟨hcl.1, hcl.2⟩ (fun H locs hG hS => ?_)
  refine lv_istore (lv' := [(6, .int bb), (5, .int r), (4, .int (nI (5 * t))), (3, .ref (L 168)), (2, .ref (L 162)), (1, .ref (L 0)), (0, .ref b)]) hx hb dL_law_271 hl (by decide) rfl (fun ls hl => ?_)
  refine lv_aload_n hx hb dL_law_273 rfl (lv_at hl 4 rfl) ?_
  refine g_cVi (As := []) (rest := []) hx hb hml hown hts hK hA hG hS (thr_K l D cy L F f' C' M') (cwV 0 hts gL_law_X5_thrown rfl rfl rfl (by decide +kernel) ⟨Nat.le_of_ble_eq_true rfl, Nat.le_of_ble_eq_true rfl⟩) (by omega) KW_162 (ci := 5) rfl rfl rfl rfl hl.1 (Nat.le_of_ble_eq_true rfl) dL_law_274 ⟨hcl.1, hcl.2⟩ (fun H locs hG hS => ?_)
  refine lv_iload hx hb dL_law_277 (lv_at hl 1 rfl) ?_
  refine lv_icmp_eq (tgt := 284) hx hb dL_law_279 (by decide) (fun c_279 => ?_) (fun c_279 => ?_)
  · skip
    refine lv_iload hx hb dL_law_284 (lv_at hl 1 rfl) ?_
    refine lv_if_ne (tgt := 301) hx hb dL_law_286 (by decide) (fun c_286 => ?_) (fun c_286 => ?_)
    · skip
      refine lv_goto (tgt := 1371) hx hb dL_law_301 (by decide) ?_
      exact hN f' C' M' _ _ _ (hW'.mono (by omega)) hG hS (lv_sub hl [2, 3, 4, 5, 6] rfl)
    · skip
      refine lv_aload_n hx hb dL_law_289 rfl (lv_at hl 3 rfl) ?_
      refine lv_iconst (v := 0) hx hb dL_law_290 (by decide) ?_
      refine g_lald (k := 0) hx hb hK hG (by omega) KW_168 rfl (by omega) (by decide) dL_law_291 ?_
      refine lv_iload hx hb dL_law_292 (lv_at hl 0 rfl) ?_
      refine lv_i2l hx hb dL_law_294 rfl ?_
      refine W.lcmp hx hb dL_law_295 ?_
      refine lv_toI (y := 0) (by rw [hf' c_286]; exact lg_self) ?_
      refine lv_if_eq (tgt := 301) hx hb dL_law_296 (by decide) (fun c_296 => ?_) (fun c_296 => ?_)
      · skip
        refine lv_goto (tgt := 1371) hx hb dL_law_301 (by decide) ?_
        exact hN f' C' M' _ _ _ (hW'.mono (by omega)) hG hS (lv_sub hl [2, 3, 4, 5, 6] rfl)
      · exact absurd rfl c_296
  · exact absurd ht' c_279
set_option maxHeartbeats 4000000 in
set_option maxRecDepth 100000 in
theorem law_flow {p : Program} {l : Launch} {e : Env} {s : State} {m : MethodId} {below : List Frame} {meth : Method} {c : Code} {b Ln : Nat} {xs : Nat → Int32} {D : va_G} {cy : Nat → ClassId} {L : Nat → Nat} {F : Nat → va_E} {Q : State → Prop} {t c0 s0 : Nat} (hC : LC p s m meth c b Ln xs D cy l) (hcl : c0 + t + 1 ≤ room_1.cells ∧ s0 + 6 * t + 6 ≤ room_1.slots) (hi : 5 * t + 5 ≤ Ln) (hN : NX p l e s m below meth c b D cy L F Q 1371 t (t + 1) c0 s0) : NX p l e s m below meth c b D cy L F Q 304 t t c0 s0 := by
  obtain ⟨hx, hb, hml, hown, hts, hK, hX, hbl, hL, hst⟩ := hC
  have hA : ∀ q : Nat, s.heap.size ≤ q → (fun q : Nat => s.heap.size ≤ q) q := fun _ h => h
  have hbA : ¬ (fun q : Nat => s.heap.size ≤ q) b := Nat.not_le.mpr hbl
  intro f C M H locs ls hw hG hS hl
  obtain ⟨r, bb, f', C', M', hwr, hmr, ht', hf', hW'⟩ := st_flow (l := l) D cy L F f hst (xs (5 * t + 1)) (xs (5 * t + 2)) (xs (5 * t + 3)) (by omega) (by omega) hw
  refine lv_aload_n hx hb dL_law_304 rfl (lv_at hl 3 rfl) ?_
  refine lv_aload_n hx hb dL_law_305 rfl (lv_at hl 4 rfl) ?_
  refine lv_iload hx hb dL_law_306 (lv_at hl 0 rfl) ?_
  refine lv_iconst (v := 1) hx hb dL_law_308 (by decide) ?_
  refine lv_iadd hx hb dL_law_309 ?_
  refine lv_toN (k := 5 * t + 1) (nI_add (5 * t) 1) ?_
  refine va_sld hx hb hX hbl hbA hS (vp_in_nI (by omega) (by omega)) dL_law_310 ?_
  refine lv_toI (y := xs (5 * t + 1)) (by rw [nI_clamp (by omega)]) ?_
  refine lv_aload_n hx hb dL_law_311 rfl (lv_at hl 4 rfl) ?_
  refine lv_iload hx hb dL_law_312 (lv_at hl 0 rfl) ?_
  refine lv_iconst (v := 2) hx hb dL_law_314 (by decide) ?_
  refine lv_iadd hx hb dL_law_315 ?_
  refine lv_toN (k := 5 * t + 2) (nI_add (5 * t) 2) ?_
  refine va_sld hx hb hX hbl hbA hS (vp_in_nI (by omega) (by omega)) dL_law_316 ?_
  refine lv_toI (y := xs (5 * t + 2)) (by rw [nI_clamp (by omega)]) ?_
  refine lv_aload_n hx hb dL_law_317 rfl (lv_at hl 4 rfl) ?_
  refine lv_iload hx hb dL_law_318 (lv_at hl 0 rfl) ?_
  refine lv_iconst (v := 3) hx hb dL_law_320 (by decide) ?_
  refine lv_iadd hx hb dL_law_321 ?_
  refine lv_toN (k := 5 * t + 3) (nI_add (5 * t) 3) ?_
  refine va_sld hx hb hX hbl hbA hS (vp_in_nI (by omega) (by omega)) dL_law_322 ?_
  refine lv_toI (y := xs (5 * t + 3)) (by rw [nI_clamp (by omega)]) ?_
  refine lv_aload_n hx hb dL_law_323 rfl (lv_at hl 1 rfl) ?_
  refine g_cLW (n := 5) (As := [.ref (L 0), .int (xs (5 * t + 1)), .int (xs (5 * t + 2)), .int (xs (5 * t + 3)), .ref (L 168)]) (rest := []) hx hb hml hown hts hK hA hG hS hwr gL_law_L_flow rfl (by decide +kernel) ⟨Nat.le_of_ble_eq_true rfl, Nat.le_of_ble_eq_true rfl⟩ rfl rfl hl.1 (Nat.le_of_ble_eq_true rfl) dL_law_324 ⟨hcl.1, hcl.2⟩ (fun H locs hG hS => ?_)
  refine lv_istore (lv' := [(5, .int r), (4, .int (nI (5 * t))), (3, .ref (L 168)), (2, .ref (L 162)), (1, .ref (L 0)), (0, .ref b)]) hx hb dL_law_327 hl (by decide) rfl (fun ls hl => ?_)
  refine lv_aload_n hx hb dL_law_329 rfl (lv_at hl 3 rfl) ?_
  refine lv_aload_n hx hb dL_law_330 rfl (lv_at hl 5 rfl) ?_
  refine lv_iload hx hb dL_law_331 (lv_at hl 1 rfl) ?_
  refine lv_iconst (v := 1) hx hb dL_law_333 (by decide) ?_
  refine lv_iadd hx hb dL_law_334 ?_
  refine lv_toN (k := 5 * t + 1) (nI_add (5 * t) 1) ?_
  refine va_sld hx hb hX hbl hbA hS (vp_in_nI (by omega) (by omega)) dL_law_335 ?_
  refine lv_toI (y := xs (5 * t + 1)) (by rw [nI_clamp (by omega)]) ?_
  refine lv_aload_n hx hb dL_law_336 rfl (lv_at hl 5 rfl) ?_
  refine lv_iload hx hb dL_law_337 (lv_at hl 1 rfl) ?_
  refine lv_iconst (v := 2) hx hb dL_law_339 (by decide) ?_
  refine lv_iadd hx hb dL_law_340 ?_
  refine lv_toN (k := 5 * t + 2) (nI_add (5 * t) 2) ?_
  refine va_sld hx hb hX hbl hbA hS (vp_in_nI (by omega) (by omega)) dL_law_341 ?_
  refine lv_toI (y := xs (5 * t + 2)) (by rw [nI_clamp (by omega)]) ?_
  refine lv_aload_n hx hb dL_law_342 rfl (lv_at hl 5 rfl) ?_
  refine lv_iload hx hb dL_law_343 (lv_at hl 1 rfl) ?_
  refine lv_iconst (v := 3) hx hb dL_law_345 (by decide) ?_
  refine lv_iadd hx hb dL_law_346 ?_
  refine lv_toN (k := 5 * t + 3) (nI_add (5 * t) 3) ?_
  refine va_sld hx hb hX hbl hbA hS (vp_in_nI (by omega) (by omega)) dL_law_347 ?_
  refine lv_toI (y := xs (5 * t + 3)) (by rw [nI_clamp (by omega)]) ?_
  refine g_cVi (As := [.int (xs (5 * t + 1)), .int (xs (5 * t + 2)), .int (xs (5 * t + 3))]) (rest := []) hx hb hml hown hts hK hA hG hS hmr (cwV 3 hts gL_law_X5_flow rfl rfl rfl (by decide +kernel) ⟨Nat.le_of_ble_eq_true rfl, Nat.le_of_ble_eq_true rfl⟩) (by omega) KW_162 (ci := 5) rfl rfl rfl rfl hl.1 (Nat.le_of_ble_eq_true rfl) dL_law_348 ⟨hcl.1, hcl.2⟩ (fun H locs hG hS => ?_)
  refine lv_istore (lv' := [(6, .int bb), (5, .int r), (4, .int (nI (5 * t))), (3, .ref (L 168)), (2, .ref (L 162)), (1, .ref (L 0)), (0, .ref b)]) hx hb dL_law_351 hl (by decide) rfl (fun ls hl => ?_)
  refine lv_aload_n hx hb dL_law_353 rfl (lv_at hl 4 rfl) ?_
  refine g_cVi (As := []) (rest := []) hx hb hml hown hts hK hA hG hS (thr_K l D cy L F f' C' M') (cwV 0 hts gL_law_X5_thrown rfl rfl rfl (by decide +kernel) ⟨Nat.le_of_ble_eq_true rfl, Nat.le_of_ble_eq_true rfl⟩) (by omega) KW_162 (ci := 5) rfl rfl rfl rfl hl.1 (Nat.le_of_ble_eq_true rfl) dL_law_354 ⟨hcl.1, hcl.2⟩ (fun H locs hG hS => ?_)
  refine lv_iload hx hb dL_law_357 (lv_at hl 1 rfl) ?_
  refine lv_icmp_eq (tgt := 364) hx hb dL_law_359 (by decide) (fun c_359 => ?_) (fun c_359 => ?_)
  · skip
    refine lv_iload hx hb dL_law_364 (lv_at hl 1 rfl) ?_
    refine lv_if_ne (tgt := 381) hx hb dL_law_366 (by decide) (fun c_366 => ?_) (fun c_366 => ?_)
    · skip
      refine lv_goto (tgt := 1371) hx hb dL_law_381 (by decide) ?_
      exact hN f' C' M' _ _ _ (hW'.mono (by omega)) hG hS (lv_sub hl [2, 3, 4, 5, 6] rfl)
    · skip
      refine lv_aload_n hx hb dL_law_369 rfl (lv_at hl 3 rfl) ?_
      refine lv_iconst (v := 0) hx hb dL_law_370 (by decide) ?_
      refine g_lald (k := 0) hx hb hK hG (by omega) KW_168 rfl (by omega) (by decide) dL_law_371 ?_
      refine lv_iload hx hb dL_law_372 (lv_at hl 0 rfl) ?_
      refine lv_i2l hx hb dL_law_374 rfl ?_
      refine W.lcmp hx hb dL_law_375 ?_
      refine lv_toI (y := 0) (by rw [hf' c_366]; exact lg_self) ?_
      refine lv_if_eq (tgt := 381) hx hb dL_law_376 (by decide) (fun c_376 => ?_) (fun c_376 => ?_)
      · skip
        refine lv_goto (tgt := 1371) hx hb dL_law_381 (by decide) ?_
        exact hN f' C' M' _ _ _ (hW'.mono (by omega)) hG hS (lv_sub hl [2, 3, 4, 5, 6] rfl)
      · exact absurd rfl c_376
  · exact absurd ht' c_359
set_option maxHeartbeats 4000000 in
set_option maxRecDepth 100000 in
theorem law_pads {p : Program} {l : Launch} {e : Env} {s : State} {m : MethodId} {below : List Frame} {meth : Method} {c : Code} {b Ln : Nat} {xs : Nat → Int32} {D : va_G} {cy : Nat → ClassId} {L : Nat → Nat} {F : Nat → va_E} {Q : State → Prop} {t c0 s0 : Nat} (hC : LC p s m meth c b Ln xs D cy l) (hcl : c0 + t + 1 ≤ room_1.cells ∧ s0 + 6 * t + 6 ≤ room_1.slots) (hi : 5 * t + 5 ≤ Ln) (hN : NX p l e s m below meth c b D cy L F Q 1371 t (t + 1) c0 s0) : NX p l e s m below meth c b D cy L F Q 384 t t c0 s0 := by
  obtain ⟨hx, hb, hml, hown, hts, hK, hX, hbl, hL, hst⟩ := hC
  have hA : ∀ q : Nat, s.heap.size ≤ q → (fun q : Nat => s.heap.size ≤ q) q := fun _ h => h
  have hbA : ¬ (fun q : Nat => s.heap.size ≤ q) b := Nat.not_le.mpr hbl
  intro f C M H locs ls hw hG hS hl
  obtain ⟨r, bb, f', C', M', hwr, hmr, ht', hf', hW'⟩ := st_pads (l := l) D cy L F f hst (xs (5 * t + 1)) (xs (5 * t + 2)) (by omega) (by omega) hw
  refine lv_aload_n hx hb dL_law_384 rfl (lv_at hl 3 rfl) ?_
  refine lv_aload_n hx hb dL_law_385 rfl (lv_at hl 4 rfl) ?_
  refine lv_iload hx hb dL_law_386 (lv_at hl 0 rfl) ?_
  refine lv_iconst (v := 1) hx hb dL_law_388 (by decide) ?_
  refine lv_iadd hx hb dL_law_389 ?_
  refine lv_toN (k := 5 * t + 1) (nI_add (5 * t) 1) ?_
  refine va_sld hx hb hX hbl hbA hS (vp_in_nI (by omega) (by omega)) dL_law_390 ?_
  refine lv_toI (y := xs (5 * t + 1)) (by rw [nI_clamp (by omega)]) ?_
  refine lv_aload_n hx hb dL_law_391 rfl (lv_at hl 4 rfl) ?_
  refine lv_iload hx hb dL_law_392 (lv_at hl 0 rfl) ?_
  refine lv_iconst (v := 2) hx hb dL_law_394 (by decide) ?_
  refine lv_iadd hx hb dL_law_395 ?_
  refine lv_toN (k := 5 * t + 2) (nI_add (5 * t) 2) ?_
  refine va_sld hx hb hX hbl hbA hS (vp_in_nI (by omega) (by omega)) dL_law_396 ?_
  refine lv_toI (y := xs (5 * t + 2)) (by rw [nI_clamp (by omega)]) ?_
  refine lv_aload_n hx hb dL_law_397 rfl (lv_at hl 1 rfl) ?_
  refine g_cLW (n := 4) (As := [.ref (L 0), .int (xs (5 * t + 1)), .int (xs (5 * t + 2)), .ref (L 168)]) (rest := []) hx hb hml hown hts hK hA hG hS hwr gL_law_L_pads rfl (by decide +kernel) ⟨Nat.le_of_ble_eq_true rfl, Nat.le_of_ble_eq_true rfl⟩ rfl rfl hl.1 (Nat.le_of_ble_eq_true rfl) dL_law_398 ⟨hcl.1, hcl.2⟩ (fun H locs hG hS => ?_)
  refine lv_istore (lv' := [(5, .int r), (4, .int (nI (5 * t))), (3, .ref (L 168)), (2, .ref (L 162)), (1, .ref (L 0)), (0, .ref b)]) hx hb dL_law_401 hl (by decide) rfl (fun ls hl => ?_)
  refine lv_aload_n hx hb dL_law_403 rfl (lv_at hl 3 rfl) ?_
  refine lv_aload_n hx hb dL_law_404 rfl (lv_at hl 5 rfl) ?_
  refine lv_iload hx hb dL_law_405 (lv_at hl 1 rfl) ?_
  refine lv_iconst (v := 1) hx hb dL_law_407 (by decide) ?_
  refine lv_iadd hx hb dL_law_408 ?_
  refine lv_toN (k := 5 * t + 1) (nI_add (5 * t) 1) ?_
  refine va_sld hx hb hX hbl hbA hS (vp_in_nI (by omega) (by omega)) dL_law_409 ?_
  refine lv_toI (y := xs (5 * t + 1)) (by rw [nI_clamp (by omega)]) ?_
  refine lv_aload_n hx hb dL_law_410 rfl (lv_at hl 5 rfl) ?_
  refine lv_iload hx hb dL_law_411 (lv_at hl 1 rfl) ?_
  refine lv_iconst (v := 2) hx hb dL_law_413 (by decide) ?_
  refine lv_iadd hx hb dL_law_414 ?_
  refine lv_toN (k := 5 * t + 2) (nI_add (5 * t) 2) ?_
  refine va_sld hx hb hX hbl hbA hS (vp_in_nI (by omega) (by omega)) dL_law_415 ?_
  refine lv_toI (y := xs (5 * t + 2)) (by rw [nI_clamp (by omega)]) ?_
  refine g_cVi (As := [.int (xs (5 * t + 1)), .int (xs (5 * t + 2))]) (rest := []) hx hb hml hown hts hK hA hG hS hmr (cwV 2 hts gL_law_X5_pads rfl rfl rfl (by decide +kernel) ⟨Nat.le_of_ble_eq_true rfl, Nat.le_of_ble_eq_true rfl⟩) (by omega) KW_162 (ci := 5) rfl rfl rfl rfl hl.1 (Nat.le_of_ble_eq_true rfl) dL_law_416 ⟨hcl.1, hcl.2⟩ (fun H locs hG hS => ?_)
  refine lv_istore (lv' := [(6, .int bb), (5, .int r), (4, .int (nI (5 * t))), (3, .ref (L 168)), (2, .ref (L 162)), (1, .ref (L 0)), (0, .ref b)]) hx hb dL_law_419 hl (by decide) rfl (fun ls hl => ?_)
  refine lv_aload_n hx hb dL_law_421 rfl (lv_at hl 4 rfl) ?_
  refine g_cVi (As := []) (rest := []) hx hb hml hown hts hK hA hG hS (thr_K l D cy L F f' C' M') (cwV 0 hts gL_law_X5_thrown rfl rfl rfl (by decide +kernel) ⟨Nat.le_of_ble_eq_true rfl, Nat.le_of_ble_eq_true rfl⟩) (by omega) KW_162 (ci := 5) rfl rfl rfl rfl hl.1 (Nat.le_of_ble_eq_true rfl) dL_law_422 ⟨hcl.1, hcl.2⟩ (fun H locs hG hS => ?_)
  refine lv_iload hx hb dL_law_425 (lv_at hl 1 rfl) ?_
  refine lv_icmp_eq (tgt := 432) hx hb dL_law_427 (by decide) (fun c_427 => ?_) (fun c_427 => ?_)
  · skip
    refine lv_iload hx hb dL_law_432 (lv_at hl 1 rfl) ?_
    refine lv_if_ne (tgt := 449) hx hb dL_law_434 (by decide) (fun c_434 => ?_) (fun c_434 => ?_)
    · skip
      refine lv_goto (tgt := 1371) hx hb dL_law_449 (by decide) ?_
      exact hN f' C' M' _ _ _ (hW'.mono (by omega)) hG hS (lv_sub hl [2, 3, 4, 5, 6] rfl)
    · skip
      refine lv_aload_n hx hb dL_law_437 rfl (lv_at hl 3 rfl) ?_
      refine lv_iconst (v := 0) hx hb dL_law_438 (by decide) ?_
      refine g_lald (k := 0) hx hb hK hG (by omega) KW_168 rfl (by omega) (by decide) dL_law_439 ?_
      refine lv_iload hx hb dL_law_440 (lv_at hl 0 rfl) ?_
      refine lv_i2l hx hb dL_law_442 rfl ?_
      refine W.lcmp hx hb dL_law_443 ?_
      refine lv_toI (y := 0) (by rw [hf' c_434]; exact lg_self) ?_
      refine lv_if_eq (tgt := 449) hx hb dL_law_444 (by decide) (fun c_444 => ?_) (fun c_444 => ?_)
      · skip
        refine lv_goto (tgt := 1371) hx hb dL_law_449 (by decide) ?_
        exact hN f' C' M' _ _ _ (hW'.mono (by omega)) hG hS (lv_sub hl [2, 3, 4, 5, 6] rfl)
      · exact absurd rfl c_444
  · exact absurd ht' c_427
set_option maxHeartbeats 4000000 in
set_option maxRecDepth 100000 in
theorem law_shake {p : Program} {l : Launch} {e : Env} {s : State} {m : MethodId} {below : List Frame} {meth : Method} {c : Code} {b Ln : Nat} {xs : Nat → Int32} {D : va_G} {cy : Nat → ClassId} {L : Nat → Nat} {F : Nat → va_E} {Q : State → Prop} {t c0 s0 : Nat} (hC : LC p s m meth c b Ln xs D cy l) (hcl : c0 + t + 1 ≤ room_1.cells ∧ s0 + 6 * t + 6 ≤ room_1.slots) (hi : 5 * t + 5 ≤ Ln) (hN : NX p l e s m below meth c b D cy L F Q 1371 t (t + 1) c0 s0) : NX p l e s m below meth c b D cy L F Q 452 t t c0 s0 := by
  obtain ⟨hx, hb, hml, hown, hts, hK, hX, hbl, hL, hst⟩ := hC
  have hA : ∀ q : Nat, s.heap.size ≤ q → (fun q : Nat => s.heap.size ≤ q) q := fun _ h => h
  have hbA : ¬ (fun q : Nat => s.heap.size ≤ q) b := Nat.not_le.mpr hbl
  intro f C M H locs ls hw hG hS hl
  obtain ⟨r, bb, f', C', M', hwr, hmr, ht', hf', hW'⟩ := st_shake (l := l) D cy L F f hst (xs (5 * t + 1)) (by omega) (by omega) hw
  refine lv_aload_n hx hb dL_law_452 rfl (lv_at hl 3 rfl) ?_
  refine lv_aload_n hx hb dL_law_453 rfl (lv_at hl 4 rfl) ?_
  refine lv_iload hx hb dL_law_454 (lv_at hl 0 rfl) ?_
  refine lv_iconst (v := 1) hx hb dL_law_456 (by decide) ?_
  refine lv_iadd hx hb dL_law_457 ?_
  refine lv_toN (k := 5 * t + 1) (nI_add (5 * t) 1) ?_
  refine va_sld hx hb hX hbl hbA hS (vp_in_nI (by omega) (by omega)) dL_law_458 ?_
  refine lv_toI (y := xs (5 * t + 1)) (by rw [nI_clamp (by omega)]) ?_
  refine lv_aload_n hx hb dL_law_459 rfl (lv_at hl 1 rfl) ?_
  refine g_cLW (n := 3) (As := [.ref (L 0), .int (xs (5 * t + 1)), .ref (L 168)]) (rest := []) hx hb hml hown hts hK hA hG hS hwr gL_law_L_shake rfl (by decide +kernel) ⟨Nat.le_of_ble_eq_true rfl, Nat.le_of_ble_eq_true rfl⟩ rfl rfl hl.1 (Nat.le_of_ble_eq_true rfl) dL_law_460 ⟨hcl.1, hcl.2⟩ (fun H locs hG hS => ?_)
  refine lv_istore (lv' := [(5, .int r), (4, .int (nI (5 * t))), (3, .ref (L 168)), (2, .ref (L 162)), (1, .ref (L 0)), (0, .ref b)]) hx hb dL_law_463 hl (by decide) rfl (fun ls hl => ?_)
  refine lv_aload_n hx hb dL_law_465 rfl (lv_at hl 3 rfl) ?_
  refine lv_aload_n hx hb dL_law_466 rfl (lv_at hl 5 rfl) ?_
  refine lv_iload hx hb dL_law_467 (lv_at hl 1 rfl) ?_
  refine lv_iconst (v := 1) hx hb dL_law_469 (by decide) ?_
  refine lv_iadd hx hb dL_law_470 ?_
  refine lv_toN (k := 5 * t + 1) (nI_add (5 * t) 1) ?_
  refine va_sld hx hb hX hbl hbA hS (vp_in_nI (by omega) (by omega)) dL_law_471 ?_
  refine lv_toI (y := xs (5 * t + 1)) (by rw [nI_clamp (by omega)]) ?_
  refine g_cVi (As := [.int (xs (5 * t + 1))]) (rest := []) hx hb hml hown hts hK hA hG hS hmr (cwV 1 hts gL_law_X5_shake rfl rfl rfl (by decide +kernel) ⟨Nat.le_of_ble_eq_true rfl, Nat.le_of_ble_eq_true rfl⟩) (by omega) KW_162 (ci := 5) rfl rfl rfl rfl hl.1 (Nat.le_of_ble_eq_true rfl) dL_law_472 ⟨hcl.1, hcl.2⟩ (fun H locs hG hS => ?_)
  refine lv_istore (lv' := [(6, .int bb), (5, .int r), (4, .int (nI (5 * t))), (3, .ref (L 168)), (2, .ref (L 162)), (1, .ref (L 0)), (0, .ref b)]) hx hb dL_law_475 hl (by decide) rfl (fun ls hl => ?_)
  refine lv_aload_n hx hb dL_law_477 rfl (lv_at hl 4 rfl) ?_
  refine g_cVi (As := []) (rest := []) hx hb hml hown hts hK hA hG hS (thr_K l D cy L F f' C' M') (cwV 0 hts gL_law_X5_thrown rfl rfl rfl (by decide +kernel) ⟨Nat.le_of_ble_eq_true rfl, Nat.le_of_ble_eq_true rfl⟩) (by omega) KW_162 (ci := 5) rfl rfl rfl rfl hl.1 (Nat.le_of_ble_eq_true rfl) dL_law_478 ⟨hcl.1, hcl.2⟩ (fun H locs hG hS => ?_)
  refine lv_iload hx hb dL_law_481 (lv_at hl 1 rfl) ?_
  refine lv_icmp_eq (tgt := 488) hx hb dL_law_483 (by decide) (fun c_483 => ?_) (fun c_483 => ?_)
  · skip
    refine lv_iload hx hb dL_law_488 (lv_at hl 1 rfl) ?_
    refine lv_if_ne (tgt := 505) hx hb dL_law_490 (by decide) (fun c_490 => ?_) (fun c_490 => ?_)
    · skip
      refine lv_goto (tgt := 1371) hx hb dL_law_505 (by decide) ?_
      exact hN f' C' M' _ _ _ (hW'.mono (by omega)) hG hS (lv_sub hl [2, 3, 4, 5, 6] rfl)
    · skip
      refine lv_aload_n hx hb dL_law_493 rfl (lv_at hl 3 rfl) ?_
      refine lv_iconst (v := 0) hx hb dL_law_494 (by decide) ?_
      refine g_lald (k := 0) hx hb hK hG (by omega) KW_168 rfl (by omega) (by decide) dL_law_495 ?_
      refine lv_iload hx hb dL_law_496 (lv_at hl 0 rfl) ?_
      refine lv_i2l hx hb dL_law_498 rfl ?_
      refine W.lcmp hx hb dL_law_499 ?_
      refine lv_toI (y := 0) (by rw [hf' c_490]; exact lg_self) ?_
      refine lv_if_eq (tgt := 505) hx hb dL_law_500 (by decide) (fun c_500 => ?_) (fun c_500 => ?_)
      · skip
        refine lv_goto (tgt := 1371) hx hb dL_law_505 (by decide) ?_
        exact hN f' C' M' _ _ _ (hW'.mono (by omega)) hG hS (lv_sub hl [2, 3, 4, 5, 6] rfl)
      · exact absurd rfl c_500
  · exact absurd ht' c_483
set_option maxHeartbeats 4000000 in
set_option maxRecDepth 100000 in
theorem law_pass {p : Program} {l : Launch} {e : Env} {s : State} {m : MethodId} {below : List Frame} {meth : Method} {c : Code} {b Ln : Nat} {xs : Nat → Int32} {D : va_G} {cy : Nat → ClassId} {L : Nat → Nat} {F : Nat → va_E} {Q : State → Prop} {t c0 s0 : Nat} (hC : LC p s m meth c b Ln xs D cy l) (hcl : c0 + t + 1 ≤ room_1.cells ∧ s0 + 6 * t + 6 ≤ room_1.slots) (hi : 5 * t + 5 ≤ Ln) (hN : NX p l e s m below meth c b D cy L F Q 1371 t (t + 1) c0 s0) : NX p l e s m below meth c b D cy L F Q 508 t t c0 s0 := by
  obtain ⟨hx, hb, hml, hown, hts, hK, hX, hbl, hL, hst⟩ := hC
  have hA : ∀ q : Nat, s.heap.size ≤ q → (fun q : Nat => s.heap.size ≤ q) q := fun _ h => h
  have hbA : ¬ (fun q : Nat => s.heap.size ≤ q) b := Nat.not_le.mpr hbl
  intro f C M H locs ls hw hG hS hl
  obtain ⟨r, bb, f', C', M', hwr, hmr, ht', hf', hW'⟩ := st_pass (l := l) D cy L F f hst (xs (5 * t + 1)) (by omega) (by omega) hw
  refine lv_aload_n hx hb dL_law_508 rfl (lv_at hl 3 rfl) ?_
  refine lv_aload_n hx hb dL_law_509 rfl (lv_at hl 4 rfl) ?_
  refine lv_iload hx hb dL_law_510 (lv_at hl 0 rfl) ?_
  refine lv_iconst (v := 1) hx hb dL_law_512 (by decide) ?_
  refine lv_iadd hx hb dL_law_513 ?_
  refine lv_toN (k := 5 * t + 1) (nI_add (5 * t) 1) ?_
  refine va_sld hx hb hX hbl hbA hS (vp_in_nI (by omega) (by omega)) dL_law_514 ?_
  refine lv_toI (y := xs (5 * t + 1)) (by rw [nI_clamp (by omega)]) ?_
  refine lv_aload_n hx hb dL_law_515 rfl (lv_at hl 1 rfl) ?_
  refine g_cLW (n := 3) (As := [.ref (L 0), .int (xs (5 * t + 1)), .ref (L 168)]) (rest := []) hx hb hml hown hts hK hA hG hS hwr gL_law_L_pass rfl (by decide +kernel) ⟨Nat.le_of_ble_eq_true rfl, Nat.le_of_ble_eq_true rfl⟩ rfl rfl hl.1 (Nat.le_of_ble_eq_true rfl) dL_law_516 ⟨hcl.1, hcl.2⟩ (fun H locs hG hS => ?_)
  refine lv_istore (lv' := [(5, .int r), (4, .int (nI (5 * t))), (3, .ref (L 168)), (2, .ref (L 162)), (1, .ref (L 0)), (0, .ref b)]) hx hb dL_law_519 hl (by decide) rfl (fun ls hl => ?_)
  refine lv_aload_n hx hb dL_law_521 rfl (lv_at hl 3 rfl) ?_
  refine lv_aload_n hx hb dL_law_522 rfl (lv_at hl 5 rfl) ?_
  refine lv_iload hx hb dL_law_523 (lv_at hl 1 rfl) ?_
  refine lv_iconst (v := 1) hx hb dL_law_525 (by decide) ?_
  refine lv_iadd hx hb dL_law_526 ?_
  refine lv_toN (k := 5 * t + 1) (nI_add (5 * t) 1) ?_
  refine va_sld hx hb hX hbl hbA hS (vp_in_nI (by omega) (by omega)) dL_law_527 ?_
  refine lv_toI (y := xs (5 * t + 1)) (by rw [nI_clamp (by omega)]) ?_
  refine g_cVi (As := [.int (xs (5 * t + 1))]) (rest := []) hx hb hml hown hts hK hA hG hS hmr (cwV 1 hts gL_law_X5_pass rfl rfl rfl (by decide +kernel) ⟨Nat.le_of_ble_eq_true rfl, Nat.le_of_ble_eq_true rfl⟩) (by omega) KW_162 (ci := 5) rfl rfl rfl rfl hl.1 (Nat.le_of_ble_eq_true rfl) dL_law_528 ⟨hcl.1, hcl.2⟩ (fun H locs hG hS => ?_)
  refine lv_istore (lv' := [(6, .int bb), (5, .int r), (4, .int (nI (5 * t))), (3, .ref (L 168)), (2, .ref (L 162)), (1, .ref (L 0)), (0, .ref b)]) hx hb dL_law_531 hl (by decide) rfl (fun ls hl => ?_)
  refine lv_aload_n hx hb dL_law_533 rfl (lv_at hl 4 rfl) ?_
  refine g_cVi (As := []) (rest := []) hx hb hml hown hts hK hA hG hS (thr_K l D cy L F f' C' M') (cwV 0 hts gL_law_X5_thrown rfl rfl rfl (by decide +kernel) ⟨Nat.le_of_ble_eq_true rfl, Nat.le_of_ble_eq_true rfl⟩) (by omega) KW_162 (ci := 5) rfl rfl rfl rfl hl.1 (Nat.le_of_ble_eq_true rfl) dL_law_534 ⟨hcl.1, hcl.2⟩ (fun H locs hG hS => ?_)
  refine lv_iload hx hb dL_law_537 (lv_at hl 1 rfl) ?_
  refine lv_icmp_eq (tgt := 544) hx hb dL_law_539 (by decide) (fun c_539 => ?_) (fun c_539 => ?_)
  · skip
    refine lv_iload hx hb dL_law_544 (lv_at hl 1 rfl) ?_
    refine lv_if_ne (tgt := 561) hx hb dL_law_546 (by decide) (fun c_546 => ?_) (fun c_546 => ?_)
    · skip
      refine lv_goto (tgt := 1371) hx hb dL_law_561 (by decide) ?_
      exact hN f' C' M' _ _ _ (hW'.mono (by omega)) hG hS (lv_sub hl [2, 3, 4, 5, 6] rfl)
    · skip
      refine lv_aload_n hx hb dL_law_549 rfl (lv_at hl 3 rfl) ?_
      refine lv_iconst (v := 0) hx hb dL_law_550 (by decide) ?_
      refine g_lald (k := 0) hx hb hK hG (by omega) KW_168 rfl (by omega) (by decide) dL_law_551 ?_
      refine lv_iload hx hb dL_law_552 (lv_at hl 0 rfl) ?_
      refine lv_i2l hx hb dL_law_554 rfl ?_
      refine W.lcmp hx hb dL_law_555 ?_
      refine lv_toI (y := 0) (by rw [hf' c_546]; exact lg_self) ?_
      refine lv_if_eq (tgt := 561) hx hb dL_law_556 (by decide) (fun c_556 => ?_) (fun c_556 => ?_)
      · skip
        refine lv_goto (tgt := 1371) hx hb dL_law_561 (by decide) ?_
        exact hN f' C' M' _ _ _ (hW'.mono (by omega)) hG hS (lv_sub hl [2, 3, 4, 5, 6] rfl)
      · exact absurd rfl c_556
  · exact absurd ht' c_539
set_option maxHeartbeats 4000000 in
set_option maxRecDepth 100000 in
theorem law_set {p : Program} {l : Launch} {e : Env} {s : State} {m : MethodId} {below : List Frame} {meth : Method} {c : Code} {b Ln : Nat} {xs : Nat → Int32} {D : va_G} {cy : Nat → ClassId} {L : Nat → Nat} {F : Nat → va_E} {Q : State → Prop} {t c0 s0 : Nat} (hC : LC p s m meth c b Ln xs D cy l) (hcl : c0 + t + 1 ≤ room_1.cells ∧ s0 + 6 * t + 6 ≤ room_1.slots) (hi : 5 * t + 5 ≤ Ln) (hN : NX p l e s m below meth c b D cy L F Q 1371 t (t + 1) c0 s0) : NX p l e s m below meth c b D cy L F Q 564 t t c0 s0 := by
  obtain ⟨hx, hb, hml, hown, hts, hK, hX, hbl, hL, hst⟩ := hC
  have hA : ∀ q : Nat, s.heap.size ≤ q → (fun q : Nat => s.heap.size ≤ q) q := fun _ h => h
  have hbA : ¬ (fun q : Nat => s.heap.size ≤ q) b := Nat.not_le.mpr hbl
  intro f C M H locs ls hw hG hS hl
  obtain ⟨r, bb, f', C', M', hwr, hmr, ht', hf', hW'⟩ := st_set (l := l) D cy L F f hst (xs (5 * t + 1)) (xs (5 * t + 2)) (by omega) (by omega) hw
  refine lv_aload_n hx hb dL_law_564 rfl (lv_at hl 3 rfl) ?_
  refine lv_aload_n hx hb dL_law_565 rfl (lv_at hl 4 rfl) ?_
  refine lv_iload hx hb dL_law_566 (lv_at hl 0 rfl) ?_
  refine lv_iconst (v := 1) hx hb dL_law_568 (by decide) ?_
  refine lv_iadd hx hb dL_law_569 ?_
  refine lv_toN (k := 5 * t + 1) (nI_add (5 * t) 1) ?_
  refine va_sld hx hb hX hbl hbA hS (vp_in_nI (by omega) (by omega)) dL_law_570 ?_
  refine lv_toI (y := xs (5 * t + 1)) (by rw [nI_clamp (by omega)]) ?_
  refine lv_aload_n hx hb dL_law_571 rfl (lv_at hl 4 rfl) ?_
  refine lv_iload hx hb dL_law_572 (lv_at hl 0 rfl) ?_
  refine lv_iconst (v := 2) hx hb dL_law_574 (by decide) ?_
  refine lv_iadd hx hb dL_law_575 ?_
  refine lv_toN (k := 5 * t + 2) (nI_add (5 * t) 2) ?_
  refine va_sld hx hb hX hbl hbA hS (vp_in_nI (by omega) (by omega)) dL_law_576 ?_
  refine lv_toI (y := xs (5 * t + 2)) (by rw [nI_clamp (by omega)]) ?_
  refine lv_aload_n hx hb dL_law_577 rfl (lv_at hl 1 rfl) ?_
  refine g_cLW (n := 4) (As := [.ref (L 0), .int (xs (5 * t + 1)), .int (xs (5 * t + 2)), .ref (L 168)]) (rest := []) hx hb hml hown hts hK hA hG hS hwr gL_law_L_set rfl (by decide +kernel) ⟨Nat.le_of_ble_eq_true rfl, Nat.le_of_ble_eq_true rfl⟩ rfl rfl hl.1 (Nat.le_of_ble_eq_true rfl) dL_law_578 ⟨hcl.1, hcl.2⟩ (fun H locs hG hS => ?_)
  refine lv_istore (lv' := [(5, .int r), (4, .int (nI (5 * t))), (3, .ref (L 168)), (2, .ref (L 162)), (1, .ref (L 0)), (0, .ref b)]) hx hb dL_law_581 hl (by decide) rfl (fun ls hl => ?_)
  refine lv_aload_n hx hb dL_law_583 rfl (lv_at hl 3 rfl) ?_
  refine lv_aload_n hx hb dL_law_584 rfl (lv_at hl 5 rfl) ?_
  refine lv_iload hx hb dL_law_585 (lv_at hl 1 rfl) ?_
  refine lv_iconst (v := 1) hx hb dL_law_587 (by decide) ?_
  refine lv_iadd hx hb dL_law_588 ?_
  refine lv_toN (k := 5 * t + 1) (nI_add (5 * t) 1) ?_
  refine va_sld hx hb hX hbl hbA hS (vp_in_nI (by omega) (by omega)) dL_law_589 ?_
  refine lv_toI (y := xs (5 * t + 1)) (by rw [nI_clamp (by omega)]) ?_
  refine lv_aload_n hx hb dL_law_590 rfl (lv_at hl 5 rfl) ?_
  refine lv_iload hx hb dL_law_591 (lv_at hl 1 rfl) ?_
  refine lv_iconst (v := 2) hx hb dL_law_593 (by decide) ?_
  refine lv_iadd hx hb dL_law_594 ?_
  refine lv_toN (k := 5 * t + 2) (nI_add (5 * t) 2) ?_
  refine va_sld hx hb hX hbl hbA hS (vp_in_nI (by omega) (by omega)) dL_law_595 ?_
  refine lv_toI (y := xs (5 * t + 2)) (by rw [nI_clamp (by omega)]) ?_
  refine g_cVi (As := [.int (xs (5 * t + 1)), .int (xs (5 * t + 2))]) (rest := []) hx hb hml hown hts hK hA hG hS hmr (cwV 2 hts gL_law_X5_set rfl rfl rfl (by decide +kernel) ⟨Nat.le_of_ble_eq_true rfl, Nat.le_of_ble_eq_true rfl⟩) (by omega) KW_162 (ci := 5) rfl rfl rfl rfl hl.1 (Nat.le_of_ble_eq_true rfl) dL_law_596 ⟨hcl.1, hcl.2⟩ (fun H locs hG hS => ?_)
  refine lv_istore (lv' := [(6, .int bb), (5, .int r), (4, .int (nI (5 * t))), (3, .ref (L 168)), (2, .ref (L 162)), (1, .ref (L 0)), (0, .ref b)]) hx hb dL_law_599 hl (by decide) rfl (fun ls hl => ?_)
  refine lv_aload_n hx hb dL_law_601 rfl (lv_at hl 4 rfl) ?_
  refine g_cVi (As := []) (rest := []) hx hb hml hown hts hK hA hG hS (thr_K l D cy L F f' C' M') (cwV 0 hts gL_law_X5_thrown rfl rfl rfl (by decide +kernel) ⟨Nat.le_of_ble_eq_true rfl, Nat.le_of_ble_eq_true rfl⟩) (by omega) KW_162 (ci := 5) rfl rfl rfl rfl hl.1 (Nat.le_of_ble_eq_true rfl) dL_law_602 ⟨hcl.1, hcl.2⟩ (fun H locs hG hS => ?_)
  refine lv_iload hx hb dL_law_605 (lv_at hl 1 rfl) ?_
  refine lv_icmp_eq (tgt := 612) hx hb dL_law_607 (by decide) (fun c_607 => ?_) (fun c_607 => ?_)
  · skip
    refine lv_iload hx hb dL_law_612 (lv_at hl 1 rfl) ?_
    refine lv_if_ne (tgt := 629) hx hb dL_law_614 (by decide) (fun c_614 => ?_) (fun c_614 => ?_)
    · skip
      refine lv_goto (tgt := 1371) hx hb dL_law_629 (by decide) ?_
      exact hN f' C' M' _ _ _ (hW'.mono (by omega)) hG hS (lv_sub hl [2, 3, 4, 5, 6] rfl)
    · skip
      refine lv_aload_n hx hb dL_law_617 rfl (lv_at hl 3 rfl) ?_
      refine lv_iconst (v := 0) hx hb dL_law_618 (by decide) ?_
      refine g_lald (k := 0) hx hb hK hG (by omega) KW_168 rfl (by omega) (by decide) dL_law_619 ?_
      refine lv_iload hx hb dL_law_620 (lv_at hl 0 rfl) ?_
      refine lv_i2l hx hb dL_law_622 rfl ?_
      refine W.lcmp hx hb dL_law_623 ?_
      refine lv_toI (y := 0) (by rw [hf' c_614]; exact lg_self) ?_
      refine lv_if_eq (tgt := 629) hx hb dL_law_624 (by decide) (fun c_624 => ?_) (fun c_624 => ?_)
      · skip
        refine lv_goto (tgt := 1371) hx hb dL_law_629 (by decide) ?_
        exact hN f' C' M' _ _ _ (hW'.mono (by omega)) hG hS (lv_sub hl [2, 3, 4, 5, 6] rfl)
      · exact absurd rfl c_624
  · exact absurd ht' c_607
set_option maxHeartbeats 4000000 in
set_option maxRecDepth 100000 in
theorem law_append {p : Program} {l : Launch} {e : Env} {s : State} {m : MethodId} {below : List Frame} {meth : Method} {c : Code} {b Ln : Nat} {xs : Nat → Int32} {D : va_G} {cy : Nat → ClassId} {L : Nat → Nat} {F : Nat → va_E} {Q : State → Prop} {t c0 s0 : Nat} (hC : LC p s m meth c b Ln xs D cy l) (hcl : c0 + t + 1 ≤ room_1.cells ∧ s0 + 6 * t + 6 ≤ room_1.slots) (hi : 5 * t + 5 ≤ Ln) (hN : NX p l e s m below meth c b D cy L F Q 1371 t (t + 1) c0 s0) : NX p l e s m below meth c b D cy L F Q 632 t t c0 s0 := by
  obtain ⟨hx, hb, hml, hown, hts, hK, hX, hbl, hL, hst⟩ := hC
  have hA : ∀ q : Nat, s.heap.size ≤ q → (fun q : Nat => s.heap.size ≤ q) q := fun _ h => h
  have hbA : ¬ (fun q : Nat => s.heap.size ≤ q) b := Nat.not_le.mpr hbl
  intro f C M H locs ls hw hG hS hl
  obtain ⟨r, bb, f', C', M', hwr, hmr, ht', hf', hW'⟩ := st_append (l := l) D cy L F f hst (xs (5 * t + 1)) (by omega) (by omega) hw
  refine lv_aload_n hx hb dL_law_632 rfl (lv_at hl 3 rfl) ?_
  refine lv_aload_n hx hb dL_law_633 rfl (lv_at hl 4 rfl) ?_
  refine lv_iload hx hb dL_law_634 (lv_at hl 0 rfl) ?_
  refine lv_iconst (v := 1) hx hb dL_law_636 (by decide) ?_
  refine lv_iadd hx hb dL_law_637 ?_
  refine lv_toN (k := 5 * t + 1) (nI_add (5 * t) 1) ?_
  refine va_sld hx hb hX hbl hbA hS (vp_in_nI (by omega) (by omega)) dL_law_638 ?_
  refine lv_toI (y := xs (5 * t + 1)) (by rw [nI_clamp (by omega)]) ?_
  refine lv_aload_n hx hb dL_law_639 rfl (lv_at hl 1 rfl) ?_
  refine g_cLW (n := 3) (As := [.ref (L 0), .int (xs (5 * t + 1)), .ref (L 168)]) (rest := []) hx hb hml hown hts hK hA hG hS hwr gL_law_L_append rfl (by decide +kernel) ⟨Nat.le_of_ble_eq_true rfl, Nat.le_of_ble_eq_true rfl⟩ rfl rfl hl.1 (Nat.le_of_ble_eq_true rfl) dL_law_640 ⟨hcl.1, hcl.2⟩ (fun H locs hG hS => ?_)
  refine lv_istore (lv' := [(5, .int r), (4, .int (nI (5 * t))), (3, .ref (L 168)), (2, .ref (L 162)), (1, .ref (L 0)), (0, .ref b)]) hx hb dL_law_643 hl (by decide) rfl (fun ls hl => ?_)
  refine lv_aload_n hx hb dL_law_645 rfl (lv_at hl 3 rfl) ?_
  refine lv_aload_n hx hb dL_law_646 rfl (lv_at hl 5 rfl) ?_
  refine lv_iload hx hb dL_law_647 (lv_at hl 1 rfl) ?_
  refine lv_iconst (v := 1) hx hb dL_law_649 (by decide) ?_
  refine lv_iadd hx hb dL_law_650 ?_
  refine lv_toN (k := 5 * t + 1) (nI_add (5 * t) 1) ?_
  refine va_sld hx hb hX hbl hbA hS (vp_in_nI (by omega) (by omega)) dL_law_651 ?_
  refine lv_toI (y := xs (5 * t + 1)) (by rw [nI_clamp (by omega)]) ?_
  refine g_cVi (As := [.int (xs (5 * t + 1))]) (rest := []) hx hb hml hown hts hK hA hG hS hmr (cwV 1 hts gL_law_X5_append rfl rfl rfl (by decide +kernel) ⟨Nat.le_of_ble_eq_true rfl, Nat.le_of_ble_eq_true rfl⟩) (by omega) KW_162 (ci := 5) rfl rfl rfl rfl hl.1 (Nat.le_of_ble_eq_true rfl) dL_law_652 ⟨hcl.1, hcl.2⟩ (fun H locs hG hS => ?_)
  refine lv_istore (lv' := [(6, .int bb), (5, .int r), (4, .int (nI (5 * t))), (3, .ref (L 168)), (2, .ref (L 162)), (1, .ref (L 0)), (0, .ref b)]) hx hb dL_law_655 hl (by decide) rfl (fun ls hl => ?_)
  refine lv_aload_n hx hb dL_law_657 rfl (lv_at hl 4 rfl) ?_
  refine g_cVi (As := []) (rest := []) hx hb hml hown hts hK hA hG hS (thr_K l D cy L F f' C' M') (cwV 0 hts gL_law_X5_thrown rfl rfl rfl (by decide +kernel) ⟨Nat.le_of_ble_eq_true rfl, Nat.le_of_ble_eq_true rfl⟩) (by omega) KW_162 (ci := 5) rfl rfl rfl rfl hl.1 (Nat.le_of_ble_eq_true rfl) dL_law_658 ⟨hcl.1, hcl.2⟩ (fun H locs hG hS => ?_)
  refine lv_iload hx hb dL_law_661 (lv_at hl 1 rfl) ?_
  refine lv_icmp_eq (tgt := 668) hx hb dL_law_663 (by decide) (fun c_663 => ?_) (fun c_663 => ?_)
  · skip
    refine lv_iload hx hb dL_law_668 (lv_at hl 1 rfl) ?_
    refine lv_if_ne (tgt := 685) hx hb dL_law_670 (by decide) (fun c_670 => ?_) (fun c_670 => ?_)
    · skip
      refine lv_goto (tgt := 1371) hx hb dL_law_685 (by decide) ?_
      exact hN f' C' M' _ _ _ (hW'.mono (by omega)) hG hS (lv_sub hl [2, 3, 4, 5, 6] rfl)
    · skip
      refine lv_aload_n hx hb dL_law_673 rfl (lv_at hl 3 rfl) ?_
      refine lv_iconst (v := 0) hx hb dL_law_674 (by decide) ?_
      refine g_lald (k := 0) hx hb hK hG (by omega) KW_168 rfl (by omega) (by decide) dL_law_675 ?_
      refine lv_iload hx hb dL_law_676 (lv_at hl 0 rfl) ?_
      refine lv_i2l hx hb dL_law_678 rfl ?_
      refine W.lcmp hx hb dL_law_679 ?_
      refine lv_toI (y := 0) (by rw [hf' c_670]; exact lg_self) ?_
      refine lv_if_eq (tgt := 685) hx hb dL_law_680 (by decide) (fun c_680 => ?_) (fun c_680 => ?_)
      · skip
        refine lv_goto (tgt := 1371) hx hb dL_law_685 (by decide) ?_
        exact hN f' C' M' _ _ _ (hW'.mono (by omega)) hG hS (lv_sub hl [2, 3, 4, 5, 6] rfl)
      · exact absurd rfl c_680
  · exact absurd ht' c_663
set_option maxHeartbeats 4000000 in
set_option maxRecDepth 100000 in
theorem law_clearBuffer {p : Program} {l : Launch} {e : Env} {s : State} {m : MethodId} {below : List Frame} {meth : Method} {c : Code} {b Ln : Nat} {xs : Nat → Int32} {D : va_G} {cy : Nat → ClassId} {L : Nat → Nat} {F : Nat → va_E} {Q : State → Prop} {t c0 s0 : Nat} (hC : LC p s m meth c b Ln xs D cy l) (hcl : c0 + t + 1 ≤ room_1.cells ∧ s0 + 6 * t + 6 ≤ room_1.slots) (hi : 5 * t + 5 ≤ Ln) (hN : NX p l e s m below meth c b D cy L F Q 1371 t (t + 1) c0 s0) : NX p l e s m below meth c b D cy L F Q 688 t t c0 s0 := by
  obtain ⟨hx, hb, hml, hown, hts, hK, hX, hbl, hL, hst⟩ := hC
  have hA : ∀ q : Nat, s.heap.size ≤ q → (fun q : Nat => s.heap.size ≤ q) q := fun _ h => h
  have hbA : ¬ (fun q : Nat => s.heap.size ≤ q) b := Nat.not_le.mpr hbl
  intro f C M H locs ls hw hG hS hl
  have hc9 : c0 + t ≤ room_1.cells ∧ s0 + 6 * t ≤ room_1.slots := ⟨by omega, by omega⟩
  obtain ⟨v, C', M', hwr, hmr, hW'⟩ := st_clearBuffer (l := l) D cy L F f hw
  refine lv_aload_n hx hb dL_law_688 rfl (lv_at hl 3 rfl) ?_
  refine g_cVi (As := []) (rest := []) hx hb hml hown hts hK hA hG hS hwr (cwV 0 hts gL_law_X4_clearBuffer rfl rfl rfl (by decide +kernel) ⟨Nat.le_of_ble_eq_true rfl, Nat.le_of_ble_eq_true rfl⟩) (by omega) KW_0 (ci := 4) rfl rfl rfl rfl hl.1 (Nat.le_of_ble_eq_true rfl) dL_law_689 ⟨hc9.1, hc9.2⟩ (fun H locs hG hS => ?_)
  refine lv_aload_n hx hb dL_law_692 rfl (lv_at hl 2 rfl) ?_
  refine g_cVi (As := []) (rest := [.int v]) hx hb hml hown hts hK hA hG hS hmr (cwV 0 hts gL_law_X5_clearBuffer rfl rfl rfl (by decide +kernel) ⟨Nat.le_of_ble_eq_true rfl, Nat.le_of_ble_eq_true rfl⟩) (by omega) KW_162 (ci := 5) rfl rfl rfl rfl hl.1 (Nat.le_of_ble_eq_true rfl) dL_law_693 ⟨hc9.1, hc9.2⟩ (fun H locs hG hS => ?_)
  refine lv_icmp_eq (tgt := 1371) hx hb dL_law_696 (by decide) (fun c_696 => ?_) (fun c_696 => ?_)
  · skip
    refine W.widen (k := c0 + (t + 1)) (n := s0 + 6 * (t + 1)) (by omega) (by omega) ?_
    exact hN f C' M' _ _ _ (hW'.mono (by omega)) hG hS (lv_sub hl [0, 1, 2, 3, 4] rfl)
  · exact absurd rfl c_696
set_option maxHeartbeats 4000000 in
set_option maxRecDepth 100000 in
theorem law_firstError {p : Program} {l : Launch} {e : Env} {s : State} {m : MethodId} {below : List Frame} {meth : Method} {c : Code} {b Ln : Nat} {xs : Nat → Int32} {D : va_G} {cy : Nat → ClassId} {L : Nat → Nat} {F : Nat → va_E} {Q : State → Prop} {t c0 s0 : Nat} (hC : LC p s m meth c b Ln xs D cy l) (hcl : c0 + t + 1 ≤ room_1.cells ∧ s0 + 6 * t + 6 ≤ room_1.slots) (hi : 5 * t + 5 ≤ Ln) (hN : NX p l e s m below meth c b D cy L F Q 1371 t (t + 1) c0 s0) : NX p l e s m below meth c b D cy L F Q 701 t t c0 s0 := by
  obtain ⟨hx, hb, hml, hown, hts, hK, hX, hbl, hL, hst⟩ := hC
  have hA : ∀ q : Nat, s.heap.size ≤ q → (fun q : Nat => s.heap.size ≤ q) q := fun _ h => h
  have hbA : ¬ (fun q : Nat => s.heap.size ≤ q) b := Nat.not_le.mpr hbl
  intro f C M H locs ls hw hG hS hl
  have hc9 : c0 + t ≤ room_1.cells ∧ s0 + 6 * t ≤ room_1.slots := ⟨by omega, by omega⟩
  obtain ⟨v, C', M', hwr, hmr, hW'⟩ := st_firstError (l := l) D cy L F f hw
  refine lv_aload_n hx hb dL_law_701 rfl (lv_at hl 3 rfl) ?_
  refine g_cVi (As := []) (rest := []) hx hb hml hown hts hK hA hG hS hwr (cwV 0 hts gL_law_X4_firstError rfl rfl rfl (by decide +kernel) ⟨Nat.le_of_ble_eq_true rfl, Nat.le_of_ble_eq_true rfl⟩) (by omega) KW_0 (ci := 4) rfl rfl rfl rfl hl.1 (Nat.le_of_ble_eq_true rfl) dL_law_702 ⟨hc9.1, hc9.2⟩ (fun H locs hG hS => ?_)
  refine lv_aload_n hx hb dL_law_705 rfl (lv_at hl 2 rfl) ?_
  refine g_cVi (As := []) (rest := [.int v]) hx hb hml hown hts hK hA hG hS hmr (cwV 0 hts gL_law_X5_firstError rfl rfl rfl (by decide +kernel) ⟨Nat.le_of_ble_eq_true rfl, Nat.le_of_ble_eq_true rfl⟩) (by omega) KW_162 (ci := 5) rfl rfl rfl rfl hl.1 (Nat.le_of_ble_eq_true rfl) dL_law_706 ⟨hc9.1, hc9.2⟩ (fun H locs hG hS => ?_)
  refine lv_icmp_eq (tgt := 1371) hx hb dL_law_709 (by decide) (fun c_709 => ?_) (fun c_709 => ?_)
  · skip
    refine W.widen (k := c0 + (t + 1)) (n := s0 + 6 * (t + 1)) (by omega) (by omega) ?_
    exact hN f C' M' _ _ _ (hW'.mono (by omega)) hG hS (lv_sub hl [0, 1, 2, 3, 4] rfl)
  · exact absurd rfl c_709
set_option maxHeartbeats 4000000 in
set_option maxRecDepth 100000 in
theorem law_play {p : Program} {l : Launch} {e : Env} {s : State} {m : MethodId} {below : List Frame} {meth : Method} {c : Code} {b Ln : Nat} {xs : Nat → Int32} {D : va_G} {cy : Nat → ClassId} {L : Nat → Nat} {F : Nat → va_E} {Q : State → Prop} {t c0 s0 : Nat} (hC : LC p s m meth c b Ln xs D cy l) (hcl : c0 + t + 1 ≤ room_1.cells ∧ s0 + 6 * t + 6 ≤ room_1.slots) (hi : 5 * t + 5 ≤ Ln) (hN : NX p l e s m below meth c b D cy L F Q 1371 t (t + 1) c0 s0) : NX p l e s m below meth c b D cy L F Q 714 t t c0 s0 := by
  obtain ⟨hx, hb, hml, hown, hts, hK, hX, hbl, hL, hst⟩ := hC
  have hA : ∀ q : Nat, s.heap.size ≤ q → (fun q : Nat => s.heap.size ≤ q) q := fun _ h => h
  have hbA : ¬ (fun q : Nat => s.heap.size ≤ q) b := Nat.not_le.mpr hbl
  intro f C M H locs ls hw hG hS hl
  obtain ⟨r, bb, f', C', M', hwr, hmr, ht', hf', hW'⟩ := st_play (l := l) D cy L F f hst  (by omega) (by omega) hw
  refine lv_aload_n hx hb dL_law_714 rfl (lv_at hl 3 rfl) ?_
  refine lv_aload_n hx hb dL_law_715 rfl (lv_at hl 1 rfl) ?_
  refine g_cLW (n := 2) (As := [.ref (L 0), .ref (L 168)]) (rest := []) hx hb hml hown hts hK hA hG hS hwr gL_law_L_play rfl (by decide +kernel) ⟨Nat.le_of_ble_eq_true rfl, Nat.le_of_ble_eq_true rfl⟩ rfl rfl hl.1 (Nat.le_of_ble_eq_true rfl) dL_law_716 ⟨hcl.1, hcl.2⟩ (fun H locs hG hS => ?_)
  refine lv_istore (lv' := [(5, .int r), (4, .int (nI (5 * t))), (3, .ref (L 168)), (2, .ref (L 162)), (1, .ref (L 0)), (0, .ref b)]) hx hb dL_law_719 hl (by decide) rfl (fun ls hl => ?_)
  refine lv_aload_n hx hb dL_law_721 rfl (lv_at hl 3 rfl) ?_
  refine g_cVi (As := []) (rest := []) hx hb hml hown hts hK hA hG hS hmr (cwV 0 hts gL_law_X5_play rfl rfl rfl (by decide +kernel) ⟨Nat.le_of_ble_eq_true rfl, Nat.le_of_ble_eq_true rfl⟩) (by omega) KW_162 (ci := 5) rfl rfl rfl rfl hl.1 (Nat.le_of_ble_eq_true rfl) dL_law_722 ⟨hcl.1, hcl.2⟩ (fun H locs hG hS => ?_)
  refine lv_istore (lv' := [(6, .int bb), (5, .int r), (4, .int (nI (5 * t))), (3, .ref (L 168)), (2, .ref (L 162)), (1, .ref (L 0)), (0, .ref b)]) hx hb dL_law_725 hl (by decide) rfl (fun ls hl => ?_)
  refine lv_aload_n hx hb dL_law_727 rfl (lv_at hl 4 rfl) ?_
  refine g_cVi (As := []) (rest := []) hx hb hml hown hts hK hA hG hS (thr_K l D cy L F f' C' M') (cwV 0 hts gL_law_X5_thrown rfl rfl rfl (by decide +kernel) ⟨Nat.le_of_ble_eq_true rfl, Nat.le_of_ble_eq_true rfl⟩) (by omega) KW_162 (ci := 5) rfl rfl rfl rfl hl.1 (Nat.le_of_ble_eq_true rfl) dL_law_728 ⟨hcl.1, hcl.2⟩ (fun H locs hG hS => ?_)
  refine lv_iload hx hb dL_law_731 (lv_at hl 1 rfl) ?_
  refine lv_icmp_eq (tgt := 738) hx hb dL_law_733 (by decide) (fun c_733 => ?_) (fun c_733 => ?_)
  · skip
    refine lv_iload hx hb dL_law_738 (lv_at hl 1 rfl) ?_
    refine lv_if_ne (tgt := 755) hx hb dL_law_740 (by decide) (fun c_740 => ?_) (fun c_740 => ?_)
    · skip
      refine lv_goto (tgt := 1371) hx hb dL_law_755 (by decide) ?_
      exact hN f' C' M' _ _ _ (hW'.mono (by omega)) hG hS (lv_sub hl [2, 3, 4, 5, 6] rfl)
    · skip
      refine lv_aload_n hx hb dL_law_743 rfl (lv_at hl 3 rfl) ?_
      refine lv_iconst (v := 0) hx hb dL_law_744 (by decide) ?_
      refine g_lald (k := 0) hx hb hK hG (by omega) KW_168 rfl (by omega) (by decide) dL_law_745 ?_
      refine lv_iload hx hb dL_law_746 (lv_at hl 0 rfl) ?_
      refine lv_i2l hx hb dL_law_748 rfl ?_
      refine W.lcmp hx hb dL_law_749 ?_
      refine lv_toI (y := 0) (by rw [hf' c_740]; exact lg_self) ?_
      refine lv_if_eq (tgt := 755) hx hb dL_law_750 (by decide) (fun c_750 => ?_) (fun c_750 => ?_)
      · skip
        refine lv_goto (tgt := 1371) hx hb dL_law_755 (by decide) ?_
        exact hN f' C' M' _ _ _ (hW'.mono (by omega)) hG hS (lv_sub hl [2, 3, 4, 5, 6] rfl)
      · exact absurd rfl c_750
  · exact absurd ht' c_733
set_option maxHeartbeats 4000000 in
set_option maxRecDepth 100000 in
theorem law_undo {p : Program} {l : Launch} {e : Env} {s : State} {m : MethodId} {below : List Frame} {meth : Method} {c : Code} {b Ln : Nat} {xs : Nat → Int32} {D : va_G} {cy : Nat → ClassId} {L : Nat → Nat} {F : Nat → va_E} {Q : State → Prop} {t c0 s0 : Nat} (hC : LC p s m meth c b Ln xs D cy l) (hcl : c0 + t + 1 ≤ room_1.cells ∧ s0 + 6 * t + 6 ≤ room_1.slots) (hi : 5 * t + 5 ≤ Ln) (hN : NX p l e s m below meth c b D cy L F Q 1371 t (t + 1) c0 s0) : NX p l e s m below meth c b D cy L F Q 758 t t c0 s0 := by
  obtain ⟨hx, hb, hml, hown, hts, hK, hX, hbl, hL, hst⟩ := hC
  have hA : ∀ q : Nat, s.heap.size ≤ q → (fun q : Nat => s.heap.size ≤ q) q := fun _ h => h
  have hbA : ¬ (fun q : Nat => s.heap.size ≤ q) b := Nat.not_le.mpr hbl
  intro f C M H locs ls hw hG hS hl
  obtain ⟨r, bb, f', C', M', hwr, hmr, ht', hf', hW'⟩ := st_undo (l := l) D cy L F f hst  (by omega) (by omega) hw
  refine lv_aload_n hx hb dL_law_758 rfl (lv_at hl 3 rfl) ?_
  refine lv_aload_n hx hb dL_law_759 rfl (lv_at hl 1 rfl) ?_
  refine g_cLW (n := 2) (As := [.ref (L 0), .ref (L 168)]) (rest := []) hx hb hml hown hts hK hA hG hS hwr gL_law_L_undo rfl (by decide +kernel) ⟨Nat.le_of_ble_eq_true rfl, Nat.le_of_ble_eq_true rfl⟩ rfl rfl hl.1 (Nat.le_of_ble_eq_true rfl) dL_law_760 ⟨hcl.1, hcl.2⟩ (fun H locs hG hS => ?_)
  refine lv_istore (lv' := [(5, .int r), (4, .int (nI (5 * t))), (3, .ref (L 168)), (2, .ref (L 162)), (1, .ref (L 0)), (0, .ref b)]) hx hb dL_law_763 hl (by decide) rfl (fun ls hl => ?_)
  refine lv_aload_n hx hb dL_law_765 rfl (lv_at hl 3 rfl) ?_
  refine g_cVi (As := []) (rest := []) hx hb hml hown hts hK hA hG hS hmr (cwV 0 hts gL_law_X5_undo rfl rfl rfl (by decide +kernel) ⟨Nat.le_of_ble_eq_true rfl, Nat.le_of_ble_eq_true rfl⟩) (by omega) KW_162 (ci := 5) rfl rfl rfl rfl hl.1 (Nat.le_of_ble_eq_true rfl) dL_law_766 ⟨hcl.1, hcl.2⟩ (fun H locs hG hS => ?_)
  refine lv_istore (lv' := [(6, .int bb), (5, .int r), (4, .int (nI (5 * t))), (3, .ref (L 168)), (2, .ref (L 162)), (1, .ref (L 0)), (0, .ref b)]) hx hb dL_law_769 hl (by decide) rfl (fun ls hl => ?_)
  refine lv_aload_n hx hb dL_law_771 rfl (lv_at hl 4 rfl) ?_
  refine g_cVi (As := []) (rest := []) hx hb hml hown hts hK hA hG hS (thr_K l D cy L F f' C' M') (cwV 0 hts gL_law_X5_thrown rfl rfl rfl (by decide +kernel) ⟨Nat.le_of_ble_eq_true rfl, Nat.le_of_ble_eq_true rfl⟩) (by omega) KW_162 (ci := 5) rfl rfl rfl rfl hl.1 (Nat.le_of_ble_eq_true rfl) dL_law_772 ⟨hcl.1, hcl.2⟩ (fun H locs hG hS => ?_)
  refine lv_iload hx hb dL_law_775 (lv_at hl 1 rfl) ?_
  refine lv_icmp_eq (tgt := 782) hx hb dL_law_777 (by decide) (fun c_777 => ?_) (fun c_777 => ?_)
  · skip
    refine lv_iload hx hb dL_law_782 (lv_at hl 1 rfl) ?_
    refine lv_if_ne (tgt := 799) hx hb dL_law_784 (by decide) (fun c_784 => ?_) (fun c_784 => ?_)
    · skip
      refine lv_goto (tgt := 1371) hx hb dL_law_799 (by decide) ?_
      exact hN f' C' M' _ _ _ (hW'.mono (by omega)) hG hS (lv_sub hl [2, 3, 4, 5, 6] rfl)
    · skip
      refine lv_aload_n hx hb dL_law_787 rfl (lv_at hl 3 rfl) ?_
      refine lv_iconst (v := 0) hx hb dL_law_788 (by decide) ?_
      refine g_lald (k := 0) hx hb hK hG (by omega) KW_168 rfl (by omega) (by decide) dL_law_789 ?_
      refine lv_iload hx hb dL_law_790 (lv_at hl 0 rfl) ?_
      refine lv_i2l hx hb dL_law_792 rfl ?_
      refine W.lcmp hx hb dL_law_793 ?_
      refine lv_toI (y := 0) (by rw [hf' c_784]; exact lg_self) ?_
      refine lv_if_eq (tgt := 799) hx hb dL_law_794 (by decide) (fun c_794 => ?_) (fun c_794 => ?_)
      · skip
        refine lv_goto (tgt := 1371) hx hb dL_law_799 (by decide) ?_
        exact hN f' C' M' _ _ _ (hW'.mono (by omega)) hG hS (lv_sub hl [2, 3, 4, 5, 6] rfl)
      · exact absurd rfl c_794
  · exact absurd ht' c_777
set_option maxHeartbeats 4000000 in
set_option maxRecDepth 100000 in
theorem law_silo {p : Program} {l : Launch} {e : Env} {s : State} {m : MethodId} {below : List Frame} {meth : Method} {c : Code} {b Ln : Nat} {xs : Nat → Int32} {D : va_G} {cy : Nat → ClassId} {L : Nat → Nat} {F : Nat → va_E} {Q : State → Prop} {t c0 s0 : Nat} (hC : LC p s m meth c b Ln xs D cy l) (hcl : c0 + t + 1 ≤ room_1.cells ∧ s0 + 6 * t + 6 ≤ room_1.slots) (hi : 5 * t + 5 ≤ Ln) (hN : NX p l e s m below meth c b D cy L F Q 1371 t (t + 1) c0 s0) : NX p l e s m below meth c b D cy L F Q 802 t t c0 s0 := by
  obtain ⟨hx, hb, hml, hown, hts, hK, hX, hbl, hL, hst⟩ := hC
  have hA : ∀ q : Nat, s.heap.size ≤ q → (fun q : Nat => s.heap.size ≤ q) q := fun _ h => h
  have hbA : ¬ (fun q : Nat => s.heap.size ≤ q) b := Nat.not_le.mpr hbl
  intro f C M H locs ls hw hG hS hl
  obtain ⟨r, bb, f', C', M', hwr, hmr, ht', hf', hW'⟩ := st_silo (l := l) D cy L F f hst (xs (5 * t + 1)) (xs (5 * t + 2)) (by omega) (by omega) hw
  refine lv_aload_n hx hb dL_law_802 rfl (lv_at hl 3 rfl) ?_
  refine lv_aload_n hx hb dL_law_803 rfl (lv_at hl 4 rfl) ?_
  refine lv_iload hx hb dL_law_804 (lv_at hl 0 rfl) ?_
  refine lv_iconst (v := 1) hx hb dL_law_806 (by decide) ?_
  refine lv_iadd hx hb dL_law_807 ?_
  refine lv_toN (k := 5 * t + 1) (nI_add (5 * t) 1) ?_
  refine va_sld hx hb hX hbl hbA hS (vp_in_nI (by omega) (by omega)) dL_law_808 ?_
  refine lv_toI (y := xs (5 * t + 1)) (by rw [nI_clamp (by omega)]) ?_
  refine lv_aload_n hx hb dL_law_809 rfl (lv_at hl 4 rfl) ?_
  refine lv_iload hx hb dL_law_810 (lv_at hl 0 rfl) ?_
  refine lv_iconst (v := 2) hx hb dL_law_812 (by decide) ?_
  refine lv_iadd hx hb dL_law_813 ?_
  refine lv_toN (k := 5 * t + 2) (nI_add (5 * t) 2) ?_
  refine va_sld hx hb hX hbl hbA hS (vp_in_nI (by omega) (by omega)) dL_law_814 ?_
  refine lv_toI (y := xs (5 * t + 2)) (by rw [nI_clamp (by omega)]) ?_
  refine lv_aload_n hx hb dL_law_815 rfl (lv_at hl 1 rfl) ?_
  refine g_cLW (n := 4) (As := [.ref (L 0), .int (xs (5 * t + 1)), .int (xs (5 * t + 2)), .ref (L 168)]) (rest := []) hx hb hml hown hts hK hA hG hS hwr gL_law_L_silo rfl (by decide +kernel) ⟨Nat.le_of_ble_eq_true rfl, Nat.le_of_ble_eq_true rfl⟩ rfl rfl hl.1 (Nat.le_of_ble_eq_true rfl) dL_law_816 ⟨hcl.1, hcl.2⟩ (fun H locs hG hS => ?_)
  refine lv_istore (lv' := [(5, .int r), (4, .int (nI (5 * t))), (3, .ref (L 168)), (2, .ref (L 162)), (1, .ref (L 0)), (0, .ref b)]) hx hb dL_law_819 hl (by decide) rfl (fun ls hl => ?_)
  refine lv_aload_n hx hb dL_law_821 rfl (lv_at hl 3 rfl) ?_
  refine lv_aload_n hx hb dL_law_822 rfl (lv_at hl 5 rfl) ?_
  refine lv_iload hx hb dL_law_823 (lv_at hl 1 rfl) ?_
  refine lv_iconst (v := 1) hx hb dL_law_825 (by decide) ?_
  refine lv_iadd hx hb dL_law_826 ?_
  refine lv_toN (k := 5 * t + 1) (nI_add (5 * t) 1) ?_
  refine va_sld hx hb hX hbl hbA hS (vp_in_nI (by omega) (by omega)) dL_law_827 ?_
  refine lv_toI (y := xs (5 * t + 1)) (by rw [nI_clamp (by omega)]) ?_
  refine lv_aload_n hx hb dL_law_828 rfl (lv_at hl 5 rfl) ?_
  refine lv_iload hx hb dL_law_829 (lv_at hl 1 rfl) ?_
  refine lv_iconst (v := 2) hx hb dL_law_831 (by decide) ?_
  refine lv_iadd hx hb dL_law_832 ?_
  refine lv_toN (k := 5 * t + 2) (nI_add (5 * t) 2) ?_
  refine va_sld hx hb hX hbl hbA hS (vp_in_nI (by omega) (by omega)) dL_law_833 ?_
  refine lv_toI (y := xs (5 * t + 2)) (by rw [nI_clamp (by omega)]) ?_
  refine g_cVi (As := [.int (xs (5 * t + 1)), .int (xs (5 * t + 2))]) (rest := []) hx hb hml hown hts hK hA hG hS hmr (cwV 2 hts gL_law_X5_silo rfl rfl rfl (by decide +kernel) ⟨Nat.le_of_ble_eq_true rfl, Nat.le_of_ble_eq_true rfl⟩) (by omega) KW_162 (ci := 5) rfl rfl rfl rfl hl.1 (Nat.le_of_ble_eq_true rfl) dL_law_834 ⟨hcl.1, hcl.2⟩ (fun H locs hG hS => ?_)
  refine lv_istore (lv' := [(6, .int bb), (5, .int r), (4, .int (nI (5 * t))), (3, .ref (L 168)), (2, .ref (L 162)), (1, .ref (L 0)), (0, .ref b)]) hx hb dL_law_837 hl (by decide) rfl (fun ls hl => ?_)
  refine lv_aload_n hx hb dL_law_839 rfl (lv_at hl 4 rfl) ?_
  refine g_cVi (As := []) (rest := []) hx hb hml hown hts hK hA hG hS (thr_K l D cy L F f' C' M') (cwV 0 hts gL_law_X5_thrown rfl rfl rfl (by decide +kernel) ⟨Nat.le_of_ble_eq_true rfl, Nat.le_of_ble_eq_true rfl⟩) (by omega) KW_162 (ci := 5) rfl rfl rfl rfl hl.1 (Nat.le_of_ble_eq_true rfl) dL_law_840 ⟨hcl.1, hcl.2⟩ (fun H locs hG hS => ?_)
  refine lv_iload hx hb dL_law_843 (lv_at hl 1 rfl) ?_
  refine lv_icmp_eq (tgt := 850) hx hb dL_law_845 (by decide) (fun c_845 => ?_) (fun c_845 => ?_)
  · skip
    refine lv_iload hx hb dL_law_850 (lv_at hl 1 rfl) ?_
    refine lv_if_ne (tgt := 867) hx hb dL_law_852 (by decide) (fun c_852 => ?_) (fun c_852 => ?_)
    · skip
      refine lv_goto (tgt := 1371) hx hb dL_law_867 (by decide) ?_
      exact hN f' C' M' _ _ _ (hW'.mono (by omega)) hG hS (lv_sub hl [2, 3, 4, 5, 6] rfl)
    · skip
      refine lv_aload_n hx hb dL_law_855 rfl (lv_at hl 3 rfl) ?_
      refine lv_iconst (v := 0) hx hb dL_law_856 (by decide) ?_
      refine g_lald (k := 0) hx hb hK hG (by omega) KW_168 rfl (by omega) (by decide) dL_law_857 ?_
      refine lv_iload hx hb dL_law_858 (lv_at hl 0 rfl) ?_
      refine lv_i2l hx hb dL_law_860 rfl ?_
      refine W.lcmp hx hb dL_law_861 ?_
      refine lv_toI (y := 0) (by rw [hf' c_852]; exact lg_self) ?_
      refine lv_if_eq (tgt := 867) hx hb dL_law_862 (by decide) (fun c_862 => ?_) (fun c_862 => ?_)
      · skip
        refine lv_goto (tgt := 1371) hx hb dL_law_867 (by decide) ?_
        exact hN f' C' M' _ _ _ (hW'.mono (by omega)) hG hS (lv_sub hl [2, 3, 4, 5, 6] rfl)
      · exact absurd rfl c_862
  · exact absurd ht' c_845
set_option maxHeartbeats 4000000 in
set_option maxRecDepth 100000 in
theorem law_layer {p : Program} {l : Launch} {e : Env} {s : State} {m : MethodId} {below : List Frame} {meth : Method} {c : Code} {b Ln : Nat} {xs : Nat → Int32} {D : va_G} {cy : Nat → ClassId} {L : Nat → Nat} {F : Nat → va_E} {Q : State → Prop} {t c0 s0 : Nat} (hC : LC p s m meth c b Ln xs D cy l) (hcl : c0 + t + 1 ≤ room_1.cells ∧ s0 + 6 * t + 6 ≤ room_1.slots) (hi : 5 * t + 5 ≤ Ln) (hN : NX p l e s m below meth c b D cy L F Q 1371 t (t + 1) c0 s0) : NX p l e s m below meth c b D cy L F Q 870 t t c0 s0 := by
  obtain ⟨hx, hb, hml, hown, hts, hK, hX, hbl, hL, hst⟩ := hC
  have hA : ∀ q : Nat, s.heap.size ≤ q → (fun q : Nat => s.heap.size ≤ q) q := fun _ h => h
  have hbA : ¬ (fun q : Nat => s.heap.size ≤ q) b := Nat.not_le.mpr hbl
  intro f C M H locs ls hw hG hS hl
  obtain ⟨r, bb, f', C', M', hwr, hmr, ht', hf', hW'⟩ := st_layer (l := l) D cy L F f hst (xs (5 * t + 1)) (xs (5 * t + 2)) (xs (5 * t + 3)) (by omega) (by omega) hw
  refine lv_aload_n hx hb dL_law_870 rfl (lv_at hl 3 rfl) ?_
  refine lv_aload_n hx hb dL_law_871 rfl (lv_at hl 4 rfl) ?_
  refine lv_iload hx hb dL_law_872 (lv_at hl 0 rfl) ?_
  refine lv_iconst (v := 1) hx hb dL_law_874 (by decide) ?_
  refine lv_iadd hx hb dL_law_875 ?_
  refine lv_toN (k := 5 * t + 1) (nI_add (5 * t) 1) ?_
  refine va_sld hx hb hX hbl hbA hS (vp_in_nI (by omega) (by omega)) dL_law_876 ?_
  refine lv_toI (y := xs (5 * t + 1)) (by rw [nI_clamp (by omega)]) ?_
  refine lv_aload_n hx hb dL_law_877 rfl (lv_at hl 4 rfl) ?_
  refine lv_iload hx hb dL_law_878 (lv_at hl 0 rfl) ?_
  refine lv_iconst (v := 2) hx hb dL_law_880 (by decide) ?_
  refine lv_iadd hx hb dL_law_881 ?_
  refine lv_toN (k := 5 * t + 2) (nI_add (5 * t) 2) ?_
  refine va_sld hx hb hX hbl hbA hS (vp_in_nI (by omega) (by omega)) dL_law_882 ?_
  refine lv_toI (y := xs (5 * t + 2)) (by rw [nI_clamp (by omega)]) ?_
  refine lv_aload_n hx hb dL_law_883 rfl (lv_at hl 4 rfl) ?_
  refine lv_iload hx hb dL_law_884 (lv_at hl 0 rfl) ?_
  refine lv_iconst (v := 3) hx hb dL_law_886 (by decide) ?_
  refine lv_iadd hx hb dL_law_887 ?_
  refine lv_toN (k := 5 * t + 3) (nI_add (5 * t) 3) ?_
  refine va_sld hx hb hX hbl hbA hS (vp_in_nI (by omega) (by omega)) dL_law_888 ?_
  refine lv_toI (y := xs (5 * t + 3)) (by rw [nI_clamp (by omega)]) ?_
  refine lv_aload_n hx hb dL_law_889 rfl (lv_at hl 1 rfl) ?_
  refine g_cLW (n := 5) (As := [.ref (L 0), .int (xs (5 * t + 1)), .int (xs (5 * t + 2)), .int (xs (5 * t + 3)), .ref (L 168)]) (rest := []) hx hb hml hown hts hK hA hG hS hwr gL_law_L_layer rfl (by decide +kernel) ⟨Nat.le_of_ble_eq_true rfl, Nat.le_of_ble_eq_true rfl⟩ rfl rfl hl.1 (Nat.le_of_ble_eq_true rfl) dL_law_890 ⟨hcl.1, hcl.2⟩ (fun H locs hG hS => ?_)
  refine lv_istore (lv' := [(5, .int r), (4, .int (nI (5 * t))), (3, .ref (L 168)), (2, .ref (L 162)), (1, .ref (L 0)), (0, .ref b)]) hx hb dL_law_893 hl (by decide) rfl (fun ls hl => ?_)
  refine lv_aload_n hx hb dL_law_895 rfl (lv_at hl 3 rfl) ?_
  refine lv_aload_n hx hb dL_law_896 rfl (lv_at hl 5 rfl) ?_
  refine lv_iload hx hb dL_law_897 (lv_at hl 1 rfl) ?_
  refine lv_iconst (v := 1) hx hb dL_law_899 (by decide) ?_
  refine lv_iadd hx hb dL_law_900 ?_
  refine lv_toN (k := 5 * t + 1) (nI_add (5 * t) 1) ?_
  refine va_sld hx hb hX hbl hbA hS (vp_in_nI (by omega) (by omega)) dL_law_901 ?_
  refine lv_toI (y := xs (5 * t + 1)) (by rw [nI_clamp (by omega)]) ?_
  refine lv_aload_n hx hb dL_law_902 rfl (lv_at hl 5 rfl) ?_
  refine lv_iload hx hb dL_law_903 (lv_at hl 1 rfl) ?_
  refine lv_iconst (v := 2) hx hb dL_law_905 (by decide) ?_
  refine lv_iadd hx hb dL_law_906 ?_
  refine lv_toN (k := 5 * t + 2) (nI_add (5 * t) 2) ?_
  refine va_sld hx hb hX hbl hbA hS (vp_in_nI (by omega) (by omega)) dL_law_907 ?_
  refine lv_toI (y := xs (5 * t + 2)) (by rw [nI_clamp (by omega)]) ?_
  refine lv_aload_n hx hb dL_law_908 rfl (lv_at hl 5 rfl) ?_
  refine lv_iload hx hb dL_law_909 (lv_at hl 1 rfl) ?_
  refine lv_iconst (v := 3) hx hb dL_law_911 (by decide) ?_
  refine lv_iadd hx hb dL_law_912 ?_
  refine lv_toN (k := 5 * t + 3) (nI_add (5 * t) 3) ?_
  refine va_sld hx hb hX hbl hbA hS (vp_in_nI (by omega) (by omega)) dL_law_913 ?_
  refine lv_toI (y := xs (5 * t + 3)) (by rw [nI_clamp (by omega)]) ?_
  refine g_cVi (As := [.int (xs (5 * t + 1)), .int (xs (5 * t + 2)), .int (xs (5 * t + 3))]) (rest := []) hx hb hml hown hts hK hA hG hS hmr (cwV 3 hts gL_law_X5_layer rfl rfl rfl (by decide +kernel) ⟨Nat.le_of_ble_eq_true rfl, Nat.le_of_ble_eq_true rfl⟩) (by omega) KW_162 (ci := 5) rfl rfl rfl rfl hl.1 (Nat.le_of_ble_eq_true rfl) dL_law_914 ⟨hcl.1, hcl.2⟩ (fun H locs hG hS => ?_)
  refine lv_istore (lv' := [(6, .int bb), (5, .int r), (4, .int (nI (5 * t))), (3, .ref (L 168)), (2, .ref (L 162)), (1, .ref (L 0)), (0, .ref b)]) hx hb dL_law_917 hl (by decide) rfl (fun ls hl => ?_)
  refine lv_aload_n hx hb dL_law_919 rfl (lv_at hl 4 rfl) ?_
  refine g_cVi (As := []) (rest := []) hx hb hml hown hts hK hA hG hS (thr_K l D cy L F f' C' M') (cwV 0 hts gL_law_X5_thrown rfl rfl rfl (by decide +kernel) ⟨Nat.le_of_ble_eq_true rfl, Nat.le_of_ble_eq_true rfl⟩) (by omega) KW_162 (ci := 5) rfl rfl rfl rfl hl.1 (Nat.le_of_ble_eq_true rfl) dL_law_920 ⟨hcl.1, hcl.2⟩ (fun H locs hG hS => ?_)
  refine lv_iload hx hb dL_law_923 (lv_at hl 1 rfl) ?_
  refine lv_icmp_eq (tgt := 930) hx hb dL_law_925 (by decide) (fun c_925 => ?_) (fun c_925 => ?_)
  · skip
    refine lv_iload hx hb dL_law_930 (lv_at hl 1 rfl) ?_
    refine lv_if_ne (tgt := 947) hx hb dL_law_932 (by decide) (fun c_932 => ?_) (fun c_932 => ?_)
    · skip
      refine lv_goto (tgt := 1371) hx hb dL_law_947 (by decide) ?_
      exact hN f' C' M' _ _ _ (hW'.mono (by omega)) hG hS (lv_sub hl [2, 3, 4, 5, 6] rfl)
    · skip
      refine lv_aload_n hx hb dL_law_935 rfl (lv_at hl 3 rfl) ?_
      refine lv_iconst (v := 0) hx hb dL_law_936 (by decide) ?_
      refine g_lald (k := 0) hx hb hK hG (by omega) KW_168 rfl (by omega) (by decide) dL_law_937 ?_
      refine lv_iload hx hb dL_law_938 (lv_at hl 0 rfl) ?_
      refine lv_i2l hx hb dL_law_940 rfl ?_
      refine W.lcmp hx hb dL_law_941 ?_
      refine lv_toI (y := 0) (by rw [hf' c_932]; exact lg_self) ?_
      refine lv_if_eq (tgt := 947) hx hb dL_law_942 (by decide) (fun c_942 => ?_) (fun c_942 => ?_)
      · skip
        refine lv_goto (tgt := 1371) hx hb dL_law_947 (by decide) ?_
        exact hN f' C' M' _ _ _ (hW'.mono (by omega)) hG hS (lv_sub hl [2, 3, 4, 5, 6] rfl)
      · exact absurd rfl c_942
  · exact absurd ht' c_925
set_option maxHeartbeats 4000000 in
set_option maxRecDepth 100000 in
theorem law_shipOf {p : Program} {l : Launch} {e : Env} {s : State} {m : MethodId} {below : List Frame} {meth : Method} {c : Code} {b Ln : Nat} {xs : Nat → Int32} {D : va_G} {cy : Nat → ClassId} {L : Nat → Nat} {F : Nat → va_E} {Q : State → Prop} {t c0 s0 : Nat} (hC : LC p s m meth c b Ln xs D cy l) (hcl : c0 + t + 1 ≤ room_1.cells ∧ s0 + 6 * t + 6 ≤ room_1.slots) (hi : 5 * t + 5 ≤ Ln) (hN : NX p l e s m below meth c b D cy L F Q 1371 t (t + 1) c0 s0) : NX p l e s m below meth c b D cy L F Q 950 t t c0 s0 := by
  obtain ⟨hx, hb, hml, hown, hts, hK, hX, hbl, hL, hst⟩ := hC
  have hA : ∀ q : Nat, s.heap.size ≤ q → (fun q : Nat => s.heap.size ≤ q) q := fun _ h => h
  have hbA : ¬ (fun q : Nat => s.heap.size ≤ q) b := Nat.not_le.mpr hbl
  intro f C M H locs ls hw hG hS hl
  obtain ⟨r, bb, f', C', M', hwr, hmr, ht', hf', hW'⟩ := st_shipOf (l := l) D cy L F f hst (xs (5 * t + 1)) (xs (5 * t + 2)) (by omega) (by omega) hw
  refine lv_aload_n hx hb dL_law_950 rfl (lv_at hl 3 rfl) ?_
  refine lv_aload_n hx hb dL_law_951 rfl (lv_at hl 4 rfl) ?_
  refine lv_iload hx hb dL_law_952 (lv_at hl 0 rfl) ?_
  refine lv_iconst (v := 1) hx hb dL_law_954 (by decide) ?_
  refine lv_iadd hx hb dL_law_955 ?_
  refine lv_toN (k := 5 * t + 1) (nI_add (5 * t) 1) ?_
  refine va_sld hx hb hX hbl hbA hS (vp_in_nI (by omega) (by omega)) dL_law_956 ?_
  refine lv_toI (y := xs (5 * t + 1)) (by rw [nI_clamp (by omega)]) ?_
  refine lv_aload_n hx hb dL_law_957 rfl (lv_at hl 4 rfl) ?_
  refine lv_iload hx hb dL_law_958 (lv_at hl 0 rfl) ?_
  refine lv_iconst (v := 2) hx hb dL_law_960 (by decide) ?_
  refine lv_iadd hx hb dL_law_961 ?_
  refine lv_toN (k := 5 * t + 2) (nI_add (5 * t) 2) ?_
  refine va_sld hx hb hX hbl hbA hS (vp_in_nI (by omega) (by omega)) dL_law_962 ?_
  refine lv_toI (y := xs (5 * t + 2)) (by rw [nI_clamp (by omega)]) ?_
  refine lv_aload_n hx hb dL_law_963 rfl (lv_at hl 1 rfl) ?_
  refine g_cLW (n := 4) (As := [.ref (L 0), .int (xs (5 * t + 1)), .int (xs (5 * t + 2)), .ref (L 168)]) (rest := []) hx hb hml hown hts hK hA hG hS hwr gL_law_L_shipOf rfl (by decide +kernel) ⟨Nat.le_of_ble_eq_true rfl, Nat.le_of_ble_eq_true rfl⟩ rfl rfl hl.1 (Nat.le_of_ble_eq_true rfl) dL_law_964 ⟨hcl.1, hcl.2⟩ (fun H locs hG hS => ?_)
  refine lv_istore (lv' := [(5, .int r), (4, .int (nI (5 * t))), (3, .ref (L 168)), (2, .ref (L 162)), (1, .ref (L 0)), (0, .ref b)]) hx hb dL_law_967 hl (by decide) rfl (fun ls hl => ?_)
  refine lv_aload_n hx hb dL_law_969 rfl (lv_at hl 3 rfl) ?_
  refine lv_aload_n hx hb dL_law_970 rfl (lv_at hl 5 rfl) ?_
  refine lv_iload hx hb dL_law_971 (lv_at hl 1 rfl) ?_
  refine lv_iconst (v := 1) hx hb dL_law_973 (by decide) ?_
  refine lv_iadd hx hb dL_law_974 ?_
  refine lv_toN (k := 5 * t + 1) (nI_add (5 * t) 1) ?_
  refine va_sld hx hb hX hbl hbA hS (vp_in_nI (by omega) (by omega)) dL_law_975 ?_
  refine lv_toI (y := xs (5 * t + 1)) (by rw [nI_clamp (by omega)]) ?_
  refine lv_aload_n hx hb dL_law_976 rfl (lv_at hl 5 rfl) ?_
  refine lv_iload hx hb dL_law_977 (lv_at hl 1 rfl) ?_
  refine lv_iconst (v := 2) hx hb dL_law_979 (by decide) ?_
  refine lv_iadd hx hb dL_law_980 ?_
  refine lv_toN (k := 5 * t + 2) (nI_add (5 * t) 2) ?_
  refine va_sld hx hb hX hbl hbA hS (vp_in_nI (by omega) (by omega)) dL_law_981 ?_
  refine lv_toI (y := xs (5 * t + 2)) (by rw [nI_clamp (by omega)]) ?_
  refine g_cVi (As := [.int (xs (5 * t + 1)), .int (xs (5 * t + 2))]) (rest := []) hx hb hml hown hts hK hA hG hS hmr (cwV 2 hts gL_law_X5_shipOf rfl rfl rfl (by decide +kernel) ⟨Nat.le_of_ble_eq_true rfl, Nat.le_of_ble_eq_true rfl⟩) (by omega) KW_162 (ci := 5) rfl rfl rfl rfl hl.1 (Nat.le_of_ble_eq_true rfl) dL_law_982 ⟨hcl.1, hcl.2⟩ (fun H locs hG hS => ?_)
  refine lv_istore (lv' := [(6, .int bb), (5, .int r), (4, .int (nI (5 * t))), (3, .ref (L 168)), (2, .ref (L 162)), (1, .ref (L 0)), (0, .ref b)]) hx hb dL_law_985 hl (by decide) rfl (fun ls hl => ?_)
  refine lv_aload_n hx hb dL_law_987 rfl (lv_at hl 4 rfl) ?_
  refine g_cVi (As := []) (rest := []) hx hb hml hown hts hK hA hG hS (thr_K l D cy L F f' C' M') (cwV 0 hts gL_law_X5_thrown rfl rfl rfl (by decide +kernel) ⟨Nat.le_of_ble_eq_true rfl, Nat.le_of_ble_eq_true rfl⟩) (by omega) KW_162 (ci := 5) rfl rfl rfl rfl hl.1 (Nat.le_of_ble_eq_true rfl) dL_law_988 ⟨hcl.1, hcl.2⟩ (fun H locs hG hS => ?_)
  refine lv_iload hx hb dL_law_991 (lv_at hl 1 rfl) ?_
  refine lv_icmp_eq (tgt := 998) hx hb dL_law_993 (by decide) (fun c_993 => ?_) (fun c_993 => ?_)
  · skip
    refine lv_iload hx hb dL_law_998 (lv_at hl 1 rfl) ?_
    refine lv_if_ne (tgt := 1015) hx hb dL_law_1000 (by decide) (fun c_1000 => ?_) (fun c_1000 => ?_)
    · skip
      refine lv_goto (tgt := 1371) hx hb dL_law_1015 (by decide) ?_
      exact hN f' C' M' _ _ _ (hW'.mono (by omega)) hG hS (lv_sub hl [2, 3, 4, 5, 6] rfl)
    · skip
      refine lv_aload_n hx hb dL_law_1003 rfl (lv_at hl 3 rfl) ?_
      refine lv_iconst (v := 0) hx hb dL_law_1004 (by decide) ?_
      refine g_lald (k := 0) hx hb hK hG (by omega) KW_168 rfl (by omega) (by decide) dL_law_1005 ?_
      refine lv_iload hx hb dL_law_1006 (lv_at hl 0 rfl) ?_
      refine lv_i2l hx hb dL_law_1008 rfl ?_
      refine W.lcmp hx hb dL_law_1009 ?_
      refine lv_toI (y := 0) (by rw [hf' c_1000]; exact lg_self) ?_
      refine lv_if_eq (tgt := 1015) hx hb dL_law_1010 (by decide) (fun c_1010 => ?_) (fun c_1010 => ?_)
      · skip
        refine lv_goto (tgt := 1371) hx hb dL_law_1015 (by decide) ?_
        exact hN f' C' M' _ _ _ (hW'.mono (by omega)) hG hS (lv_sub hl [2, 3, 4, 5, 6] rfl)
      · exact absurd rfl c_1010
  · exact absurd ht' c_993
set_option maxHeartbeats 4000000 in
set_option maxRecDepth 100000 in
theorem law_count {p : Program} {l : Launch} {e : Env} {s : State} {m : MethodId} {below : List Frame} {meth : Method} {c : Code} {b Ln : Nat} {xs : Nat → Int32} {D : va_G} {cy : Nat → ClassId} {L : Nat → Nat} {F : Nat → va_E} {Q : State → Prop} {t c0 s0 : Nat} (hC : LC p s m meth c b Ln xs D cy l) (hcl : c0 + t + 1 ≤ room_1.cells ∧ s0 + 6 * t + 6 ≤ room_1.slots) (hi : 5 * t + 5 ≤ Ln) (hN : NX p l e s m below meth c b D cy L F Q 1371 t (t + 1) c0 s0) : NX p l e s m below meth c b D cy L F Q 1018 t t c0 s0 := by
  obtain ⟨hx, hb, hml, hown, hts, hK, hX, hbl, hL, hst⟩ := hC
  have hA : ∀ q : Nat, s.heap.size ≤ q → (fun q : Nat => s.heap.size ≤ q) q := fun _ h => h
  have hbA : ¬ (fun q : Nat => s.heap.size ≤ q) b := Nat.not_le.mpr hbl
  intro f C M H locs ls hw hG hS hl
  obtain ⟨r, bb, f', C', M', hwr, hmr, ht', hf', hW'⟩ := st_count (l := l) D cy L F f hst (xs (5 * t + 1)) (by omega) (by omega) hw
  refine lv_aload_n hx hb dL_law_1018 rfl (lv_at hl 3 rfl) ?_
  refine lv_aload_n hx hb dL_law_1019 rfl (lv_at hl 4 rfl) ?_
  refine lv_iload hx hb dL_law_1020 (lv_at hl 0 rfl) ?_
  refine lv_iconst (v := 1) hx hb dL_law_1022 (by decide) ?_
  refine lv_iadd hx hb dL_law_1023 ?_
  refine lv_toN (k := 5 * t + 1) (nI_add (5 * t) 1) ?_
  refine va_sld hx hb hX hbl hbA hS (vp_in_nI (by omega) (by omega)) dL_law_1024 ?_
  refine lv_toI (y := xs (5 * t + 1)) (by rw [nI_clamp (by omega)]) ?_
  refine lv_aload_n hx hb dL_law_1025 rfl (lv_at hl 1 rfl) ?_
  refine g_cLW (n := 3) (As := [.ref (L 0), .int (xs (5 * t + 1)), .ref (L 168)]) (rest := []) hx hb hml hown hts hK hA hG hS hwr gL_law_L_count rfl (by decide +kernel) ⟨Nat.le_of_ble_eq_true rfl, Nat.le_of_ble_eq_true rfl⟩ rfl rfl hl.1 (Nat.le_of_ble_eq_true rfl) dL_law_1026 ⟨hcl.1, hcl.2⟩ (fun H locs hG hS => ?_)
  refine lv_istore (lv' := [(5, .int r), (4, .int (nI (5 * t))), (3, .ref (L 168)), (2, .ref (L 162)), (1, .ref (L 0)), (0, .ref b)]) hx hb dL_law_1029 hl (by decide) rfl (fun ls hl => ?_)
  refine lv_aload_n hx hb dL_law_1031 rfl (lv_at hl 3 rfl) ?_
  refine lv_aload_n hx hb dL_law_1032 rfl (lv_at hl 5 rfl) ?_
  refine lv_iload hx hb dL_law_1033 (lv_at hl 1 rfl) ?_
  refine lv_iconst (v := 1) hx hb dL_law_1035 (by decide) ?_
  refine lv_iadd hx hb dL_law_1036 ?_
  refine lv_toN (k := 5 * t + 1) (nI_add (5 * t) 1) ?_
  refine va_sld hx hb hX hbl hbA hS (vp_in_nI (by omega) (by omega)) dL_law_1037 ?_
  refine lv_toI (y := xs (5 * t + 1)) (by rw [nI_clamp (by omega)]) ?_
  refine g_cVi (As := [.int (xs (5 * t + 1))]) (rest := []) hx hb hml hown hts hK hA hG hS hmr (cwV 1 hts gL_law_X5_count rfl rfl rfl (by decide +kernel) ⟨Nat.le_of_ble_eq_true rfl, Nat.le_of_ble_eq_true rfl⟩) (by omega) KW_162 (ci := 5) rfl rfl rfl rfl hl.1 (Nat.le_of_ble_eq_true rfl) dL_law_1038 ⟨hcl.1, hcl.2⟩ (fun H locs hG hS => ?_)
  refine lv_istore (lv' := [(6, .int bb), (5, .int r), (4, .int (nI (5 * t))), (3, .ref (L 168)), (2, .ref (L 162)), (1, .ref (L 0)), (0, .ref b)]) hx hb dL_law_1041 hl (by decide) rfl (fun ls hl => ?_)
  refine lv_aload_n hx hb dL_law_1043 rfl (lv_at hl 4 rfl) ?_
  refine g_cVi (As := []) (rest := []) hx hb hml hown hts hK hA hG hS (thr_K l D cy L F f' C' M') (cwV 0 hts gL_law_X5_thrown rfl rfl rfl (by decide +kernel) ⟨Nat.le_of_ble_eq_true rfl, Nat.le_of_ble_eq_true rfl⟩) (by omega) KW_162 (ci := 5) rfl rfl rfl rfl hl.1 (Nat.le_of_ble_eq_true rfl) dL_law_1044 ⟨hcl.1, hcl.2⟩ (fun H locs hG hS => ?_)
  refine lv_iload hx hb dL_law_1047 (lv_at hl 1 rfl) ?_
  refine lv_icmp_eq (tgt := 1054) hx hb dL_law_1049 (by decide) (fun c_1049 => ?_) (fun c_1049 => ?_)
  · skip
    refine lv_iload hx hb dL_law_1054 (lv_at hl 1 rfl) ?_
    refine lv_if_ne (tgt := 1071) hx hb dL_law_1056 (by decide) (fun c_1056 => ?_) (fun c_1056 => ?_)
    · skip
      refine lv_goto (tgt := 1371) hx hb dL_law_1071 (by decide) ?_
      exact hN f' C' M' _ _ _ (hW'.mono (by omega)) hG hS (lv_sub hl [2, 3, 4, 5, 6] rfl)
    · skip
      refine lv_aload_n hx hb dL_law_1059 rfl (lv_at hl 3 rfl) ?_
      refine lv_iconst (v := 0) hx hb dL_law_1060 (by decide) ?_
      refine g_lald (k := 0) hx hb hK hG (by omega) KW_168 rfl (by omega) (by decide) dL_law_1061 ?_
      refine lv_iload hx hb dL_law_1062 (lv_at hl 0 rfl) ?_
      refine lv_i2l hx hb dL_law_1064 rfl ?_
      refine W.lcmp hx hb dL_law_1065 ?_
      refine lv_toI (y := 0) (by rw [hf' c_1056]; exact lg_self) ?_
      refine lv_if_eq (tgt := 1071) hx hb dL_law_1066 (by decide) (fun c_1066 => ?_) (fun c_1066 => ?_)
      · skip
        refine lv_goto (tgt := 1371) hx hb dL_law_1071 (by decide) ?_
        exact hN f' C' M' _ _ _ (hW'.mono (by omega)) hG hS (lv_sub hl [2, 3, 4, 5, 6] rfl)
      · exact absurd rfl c_1066
  · exact absurd ht' c_1049
set_option maxHeartbeats 4000000 in
set_option maxRecDepth 100000 in
theorem law_whyNot {p : Program} {l : Launch} {e : Env} {s : State} {m : MethodId} {below : List Frame} {meth : Method} {c : Code} {b Ln : Nat} {xs : Nat → Int32} {D : va_G} {cy : Nat → ClassId} {L : Nat → Nat} {F : Nat → va_E} {Q : State → Prop} {t c0 s0 : Nat} (hC : LC p s m meth c b Ln xs D cy l) (hcl : c0 + t + 1 ≤ room_1.cells ∧ s0 + 6 * t + 6 ≤ room_1.slots) (hi : 5 * t + 5 ≤ Ln) (hN : NX p l e s m below meth c b D cy L F Q 1371 t (t + 1) c0 s0) : NX p l e s m below meth c b D cy L F Q 1074 t t c0 s0 := by
  obtain ⟨hx, hb, hml, hown, hts, hK, hX, hbl, hL, hst⟩ := hC
  have hA : ∀ q : Nat, s.heap.size ≤ q → (fun q : Nat => s.heap.size ≤ q) q := fun _ h => h
  have hbA : ¬ (fun q : Nat => s.heap.size ≤ q) b := Nat.not_le.mpr hbl
  intro f C M H locs ls hw hG hS hl
  obtain ⟨r, bb, f', C', M', hwr, hmr, ht', hf', hW'⟩ := st_whyNot (l := l) D cy L F f hst (xs (5 * t + 1)) (xs (5 * t + 2)) (by omega) (by omega) hw
  refine lv_aload_n hx hb dL_law_1074 rfl (lv_at hl 3 rfl) ?_
  refine lv_aload_n hx hb dL_law_1075 rfl (lv_at hl 4 rfl) ?_
  refine lv_iload hx hb dL_law_1076 (lv_at hl 0 rfl) ?_
  refine lv_iconst (v := 1) hx hb dL_law_1078 (by decide) ?_
  refine lv_iadd hx hb dL_law_1079 ?_
  refine lv_toN (k := 5 * t + 1) (nI_add (5 * t) 1) ?_
  refine va_sld hx hb hX hbl hbA hS (vp_in_nI (by omega) (by omega)) dL_law_1080 ?_
  refine lv_toI (y := xs (5 * t + 1)) (by rw [nI_clamp (by omega)]) ?_
  refine lv_aload_n hx hb dL_law_1081 rfl (lv_at hl 4 rfl) ?_
  refine lv_iload hx hb dL_law_1082 (lv_at hl 0 rfl) ?_
  refine lv_iconst (v := 2) hx hb dL_law_1084 (by decide) ?_
  refine lv_iadd hx hb dL_law_1085 ?_
  refine lv_toN (k := 5 * t + 2) (nI_add (5 * t) 2) ?_
  refine va_sld hx hb hX hbl hbA hS (vp_in_nI (by omega) (by omega)) dL_law_1086 ?_
  refine lv_toI (y := xs (5 * t + 2)) (by rw [nI_clamp (by omega)]) ?_
  refine lv_aload_n hx hb dL_law_1087 rfl (lv_at hl 1 rfl) ?_
  refine g_cLW (n := 4) (As := [.ref (L 0), .int (xs (5 * t + 1)), .int (xs (5 * t + 2)), .ref (L 168)]) (rest := []) hx hb hml hown hts hK hA hG hS hwr gL_law_L_whyNot rfl (by decide +kernel) ⟨Nat.le_of_ble_eq_true rfl, Nat.le_of_ble_eq_true rfl⟩ rfl rfl hl.1 (Nat.le_of_ble_eq_true rfl) dL_law_1088 ⟨hcl.1, hcl.2⟩ (fun H locs hG hS => ?_)
  refine lv_istore (lv' := [(5, .int r), (4, .int (nI (5 * t))), (3, .ref (L 168)), (2, .ref (L 162)), (1, .ref (L 0)), (0, .ref b)]) hx hb dL_law_1091 hl (by decide) rfl (fun ls hl => ?_)
  refine lv_aload_n hx hb dL_law_1093 rfl (lv_at hl 3 rfl) ?_
  refine lv_aload_n hx hb dL_law_1094 rfl (lv_at hl 5 rfl) ?_
  refine lv_iload hx hb dL_law_1095 (lv_at hl 1 rfl) ?_
  refine lv_iconst (v := 1) hx hb dL_law_1097 (by decide) ?_
  refine lv_iadd hx hb dL_law_1098 ?_
  refine lv_toN (k := 5 * t + 1) (nI_add (5 * t) 1) ?_
  refine va_sld hx hb hX hbl hbA hS (vp_in_nI (by omega) (by omega)) dL_law_1099 ?_
  refine lv_toI (y := xs (5 * t + 1)) (by rw [nI_clamp (by omega)]) ?_
  refine lv_aload_n hx hb dL_law_1100 rfl (lv_at hl 5 rfl) ?_
  refine lv_iload hx hb dL_law_1101 (lv_at hl 1 rfl) ?_
  refine lv_iconst (v := 2) hx hb dL_law_1103 (by decide) ?_
  refine lv_iadd hx hb dL_law_1104 ?_
  refine lv_toN (k := 5 * t + 2) (nI_add (5 * t) 2) ?_
  refine va_sld hx hb hX hbl hbA hS (vp_in_nI (by omega) (by omega)) dL_law_1105 ?_
  refine lv_toI (y := xs (5 * t + 2)) (by rw [nI_clamp (by omega)]) ?_
  refine g_cVi (As := [.int (xs (5 * t + 1)), .int (xs (5 * t + 2))]) (rest := []) hx hb hml hown hts hK hA hG hS hmr (cwV 2 hts gL_law_X5_whyNot rfl rfl rfl (by decide +kernel) ⟨Nat.le_of_ble_eq_true rfl, Nat.le_of_ble_eq_true rfl⟩) (by omega) KW_162 (ci := 5) rfl rfl rfl rfl hl.1 (Nat.le_of_ble_eq_true rfl) dL_law_1106 ⟨hcl.1, hcl.2⟩ (fun H locs hG hS => ?_)
  refine lv_istore (lv' := [(6, .int bb), (5, .int r), (4, .int (nI (5 * t))), (3, .ref (L 168)), (2, .ref (L 162)), (1, .ref (L 0)), (0, .ref b)]) hx hb dL_law_1109 hl (by decide) rfl (fun ls hl => ?_)
  refine lv_aload_n hx hb dL_law_1111 rfl (lv_at hl 4 rfl) ?_
  refine g_cVi (As := []) (rest := []) hx hb hml hown hts hK hA hG hS (thr_K l D cy L F f' C' M') (cwV 0 hts gL_law_X5_thrown rfl rfl rfl (by decide +kernel) ⟨Nat.le_of_ble_eq_true rfl, Nat.le_of_ble_eq_true rfl⟩) (by omega) KW_162 (ci := 5) rfl rfl rfl rfl hl.1 (Nat.le_of_ble_eq_true rfl) dL_law_1112 ⟨hcl.1, hcl.2⟩ (fun H locs hG hS => ?_)
  refine lv_iload hx hb dL_law_1115 (lv_at hl 1 rfl) ?_
  refine lv_icmp_eq (tgt := 1122) hx hb dL_law_1117 (by decide) (fun c_1117 => ?_) (fun c_1117 => ?_)
  · skip
    refine lv_iload hx hb dL_law_1122 (lv_at hl 1 rfl) ?_
    refine lv_if_ne (tgt := 1139) hx hb dL_law_1124 (by decide) (fun c_1124 => ?_) (fun c_1124 => ?_)
    · skip
      refine lv_goto (tgt := 1371) hx hb dL_law_1139 (by decide) ?_
      exact hN f' C' M' _ _ _ (hW'.mono (by omega)) hG hS (lv_sub hl [2, 3, 4, 5, 6] rfl)
    · skip
      refine lv_aload_n hx hb dL_law_1127 rfl (lv_at hl 3 rfl) ?_
      refine lv_iconst (v := 0) hx hb dL_law_1128 (by decide) ?_
      refine g_lald (k := 0) hx hb hK hG (by omega) KW_168 rfl (by omega) (by decide) dL_law_1129 ?_
      refine lv_iload hx hb dL_law_1130 (lv_at hl 0 rfl) ?_
      refine lv_i2l hx hb dL_law_1132 rfl ?_
      refine W.lcmp hx hb dL_law_1133 ?_
      refine lv_toI (y := 0) (by rw [hf' c_1124]; exact lg_self) ?_
      refine lv_if_eq (tgt := 1139) hx hb dL_law_1134 (by decide) (fun c_1134 => ?_) (fun c_1134 => ?_)
      · skip
        refine lv_goto (tgt := 1371) hx hb dL_law_1139 (by decide) ?_
        exact hN f' C' M' _ _ _ (hW'.mono (by omega)) hG hS (lv_sub hl [2, 3, 4, 5, 6] rfl)
      · exact absurd rfl c_1134
  · exact absurd ht' c_1117
set_option maxHeartbeats 4000000 in
set_option maxRecDepth 100000 in
theorem law_ifFlowed {p : Program} {l : Launch} {e : Env} {s : State} {m : MethodId} {below : List Frame} {meth : Method} {c : Code} {b Ln : Nat} {xs : Nat → Int32} {D : va_G} {cy : Nat → ClassId} {L : Nat → Nat} {F : Nat → va_E} {Q : State → Prop} {t c0 s0 : Nat} (hC : LC p s m meth c b Ln xs D cy l) (hcl : c0 + t + 1 ≤ room_1.cells ∧ s0 + 6 * t + 6 ≤ room_1.slots) (hi : 5 * t + 5 ≤ Ln) (hN : NX p l e s m below meth c b D cy L F Q 1371 t (t + 1) c0 s0) : NX p l e s m below meth c b D cy L F Q 1142 t t c0 s0 := by
  obtain ⟨hx, hb, hml, hown, hts, hK, hX, hbl, hL, hst⟩ := hC
  have hA : ∀ q : Nat, s.heap.size ≤ q → (fun q : Nat => s.heap.size ≤ q) q := fun _ h => h
  have hbA : ¬ (fun q : Nat => s.heap.size ≤ q) b := Nat.not_le.mpr hbl
  intro f C M H locs ls hw hG hS hl
  obtain ⟨r, bb, f', C', M', hwr, hmr, ht', hf', hW'⟩ := st_ifFlowed (l := l) D cy L F f hst (xs (5 * t + 1)) (xs (5 * t + 2)) (xs (5 * t + 3)) (xs (5 * t + 4)) (by omega) (by omega) hw
  refine lv_aload_n hx hb dL_law_1142 rfl (lv_at hl 3 rfl) ?_
  refine lv_aload_n hx hb dL_law_1143 rfl (lv_at hl 4 rfl) ?_
  refine lv_iload hx hb dL_law_1144 (lv_at hl 0 rfl) ?_
  refine lv_iconst (v := 1) hx hb dL_law_1146 (by decide) ?_
  refine lv_iadd hx hb dL_law_1147 ?_
  refine lv_toN (k := 5 * t + 1) (nI_add (5 * t) 1) ?_
  refine va_sld hx hb hX hbl hbA hS (vp_in_nI (by omega) (by omega)) dL_law_1148 ?_
  refine lv_toI (y := xs (5 * t + 1)) (by rw [nI_clamp (by omega)]) ?_
  refine lv_aload_n hx hb dL_law_1149 rfl (lv_at hl 4 rfl) ?_
  refine lv_iload hx hb dL_law_1150 (lv_at hl 0 rfl) ?_
  refine lv_iconst (v := 2) hx hb dL_law_1152 (by decide) ?_
  refine lv_iadd hx hb dL_law_1153 ?_
  refine lv_toN (k := 5 * t + 2) (nI_add (5 * t) 2) ?_
  refine va_sld hx hb hX hbl hbA hS (vp_in_nI (by omega) (by omega)) dL_law_1154 ?_
  refine lv_toI (y := xs (5 * t + 2)) (by rw [nI_clamp (by omega)]) ?_
  refine lv_aload_n hx hb dL_law_1155 rfl (lv_at hl 4 rfl) ?_
  refine lv_iload hx hb dL_law_1156 (lv_at hl 0 rfl) ?_
  refine lv_iconst (v := 3) hx hb dL_law_1158 (by decide) ?_
  refine lv_iadd hx hb dL_law_1159 ?_
  refine lv_toN (k := 5 * t + 3) (nI_add (5 * t) 3) ?_
  refine va_sld hx hb hX hbl hbA hS (vp_in_nI (by omega) (by omega)) dL_law_1160 ?_
  refine lv_toI (y := xs (5 * t + 3)) (by rw [nI_clamp (by omega)]) ?_
  refine lv_aload_n hx hb dL_law_1161 rfl (lv_at hl 4 rfl) ?_
  refine lv_iload hx hb dL_law_1162 (lv_at hl 0 rfl) ?_
  refine lv_iconst (v := 4) hx hb dL_law_1164 (by decide) ?_
  refine lv_iadd hx hb dL_law_1165 ?_
  refine lv_toN (k := 5 * t + 4) (nI_add (5 * t) 4) ?_
  refine va_sld hx hb hX hbl hbA hS (vp_in_nI (by omega) (by omega)) dL_law_1166 ?_
  refine lv_toI (y := xs (5 * t + 4)) (by rw [nI_clamp (by omega)]) ?_
  refine lv_aload_n hx hb dL_law_1167 rfl (lv_at hl 1 rfl) ?_
  refine g_cLW (n := 6) (As := [.ref (L 0), .int (xs (5 * t + 1)), .int (xs (5 * t + 2)), .int (xs (5 * t + 3)), .int (xs (5 * t + 4)), .ref (L 168)]) (rest := []) hx hb hml hown hts hK hA hG hS hwr gL_law_L_ifFlowed rfl (by decide +kernel) ⟨Nat.le_of_ble_eq_true rfl, Nat.le_of_ble_eq_true rfl⟩ rfl rfl hl.1 (Nat.le_of_ble_eq_true rfl) dL_law_1168 ⟨hcl.1, hcl.2⟩ (fun H locs hG hS => ?_)
  refine lv_istore (lv' := [(5, .int r), (4, .int (nI (5 * t))), (3, .ref (L 168)), (2, .ref (L 162)), (1, .ref (L 0)), (0, .ref b)]) hx hb dL_law_1171 hl (by decide) rfl (fun ls hl => ?_)
  refine lv_aload_n hx hb dL_law_1173 rfl (lv_at hl 3 rfl) ?_
  refine lv_aload_n hx hb dL_law_1174 rfl (lv_at hl 5 rfl) ?_
  refine lv_iload hx hb dL_law_1175 (lv_at hl 1 rfl) ?_
  refine lv_iconst (v := 1) hx hb dL_law_1177 (by decide) ?_
  refine lv_iadd hx hb dL_law_1178 ?_
  refine lv_toN (k := 5 * t + 1) (nI_add (5 * t) 1) ?_
  refine va_sld hx hb hX hbl hbA hS (vp_in_nI (by omega) (by omega)) dL_law_1179 ?_
  refine lv_toI (y := xs (5 * t + 1)) (by rw [nI_clamp (by omega)]) ?_
  refine lv_aload_n hx hb dL_law_1180 rfl (lv_at hl 5 rfl) ?_
  refine lv_iload hx hb dL_law_1181 (lv_at hl 1 rfl) ?_
  refine lv_iconst (v := 2) hx hb dL_law_1183 (by decide) ?_
  refine lv_iadd hx hb dL_law_1184 ?_
  refine lv_toN (k := 5 * t + 2) (nI_add (5 * t) 2) ?_
  refine va_sld hx hb hX hbl hbA hS (vp_in_nI (by omega) (by omega)) dL_law_1185 ?_
  refine lv_toI (y := xs (5 * t + 2)) (by rw [nI_clamp (by omega)]) ?_
  refine lv_aload_n hx hb dL_law_1186 rfl (lv_at hl 5 rfl) ?_
  refine lv_iload hx hb dL_law_1187 (lv_at hl 1 rfl) ?_
  refine lv_iconst (v := 3) hx hb dL_law_1189 (by decide) ?_
  refine lv_iadd hx hb dL_law_1190 ?_
  refine lv_toN (k := 5 * t + 3) (nI_add (5 * t) 3) ?_
  refine va_sld hx hb hX hbl hbA hS (vp_in_nI (by omega) (by omega)) dL_law_1191 ?_
  refine lv_toI (y := xs (5 * t + 3)) (by rw [nI_clamp (by omega)]) ?_
  refine lv_aload_n hx hb dL_law_1192 rfl (lv_at hl 5 rfl) ?_
  refine lv_iload hx hb dL_law_1193 (lv_at hl 1 rfl) ?_
  refine lv_iconst (v := 4) hx hb dL_law_1195 (by decide) ?_
  refine lv_iadd hx hb dL_law_1196 ?_
  refine lv_toN (k := 5 * t + 4) (nI_add (5 * t) 4) ?_
  refine va_sld hx hb hX hbl hbA hS (vp_in_nI (by omega) (by omega)) dL_law_1197 ?_
  refine lv_toI (y := xs (5 * t + 4)) (by rw [nI_clamp (by omega)]) ?_
  refine g_cVi (As := [.int (xs (5 * t + 1)), .int (xs (5 * t + 2)), .int (xs (5 * t + 3)), .int (xs (5 * t + 4))]) (rest := []) hx hb hml hown hts hK hA hG hS hmr (cwV 4 hts gL_law_X5_ifFlowed rfl rfl rfl (by decide +kernel) ⟨Nat.le_of_ble_eq_true rfl, Nat.le_of_ble_eq_true rfl⟩) (by omega) KW_162 (ci := 5) rfl rfl rfl rfl hl.1 (Nat.le_of_ble_eq_true rfl) dL_law_1198 ⟨hcl.1, hcl.2⟩ (fun H locs hG hS => ?_)
  refine lv_istore (lv' := [(6, .int bb), (5, .int r), (4, .int (nI (5 * t))), (3, .ref (L 168)), (2, .ref (L 162)), (1, .ref (L 0)), (0, .ref b)]) hx hb dL_law_1201 hl (by decide) rfl (fun ls hl => ?_)
  refine lv_aload_n hx hb dL_law_1203 rfl (lv_at hl 4 rfl) ?_
  refine g_cVi (As := []) (rest := []) hx hb hml hown hts hK hA hG hS (thr_K l D cy L F f' C' M') (cwV 0 hts gL_law_X5_thrown rfl rfl rfl (by decide +kernel) ⟨Nat.le_of_ble_eq_true rfl, Nat.le_of_ble_eq_true rfl⟩) (by omega) KW_162 (ci := 5) rfl rfl rfl rfl hl.1 (Nat.le_of_ble_eq_true rfl) dL_law_1204 ⟨hcl.1, hcl.2⟩ (fun H locs hG hS => ?_)
  refine lv_iload hx hb dL_law_1207 (lv_at hl 1 rfl) ?_
  refine lv_icmp_eq (tgt := 1214) hx hb dL_law_1209 (by decide) (fun c_1209 => ?_) (fun c_1209 => ?_)
  · skip
    refine lv_iload hx hb dL_law_1214 (lv_at hl 1 rfl) ?_
    refine lv_if_ne (tgt := 1231) hx hb dL_law_1216 (by decide) (fun c_1216 => ?_) (fun c_1216 => ?_)
    · skip
      refine lv_goto (tgt := 1371) hx hb dL_law_1231 (by decide) ?_
      exact hN f' C' M' _ _ _ (hW'.mono (by omega)) hG hS (lv_sub hl [2, 3, 4, 5, 6] rfl)
    · skip
      refine lv_aload_n hx hb dL_law_1219 rfl (lv_at hl 3 rfl) ?_
      refine lv_iconst (v := 0) hx hb dL_law_1220 (by decide) ?_
      refine g_lald (k := 0) hx hb hK hG (by omega) KW_168 rfl (by omega) (by decide) dL_law_1221 ?_
      refine lv_iload hx hb dL_law_1222 (lv_at hl 0 rfl) ?_
      refine lv_i2l hx hb dL_law_1224 rfl ?_
      refine W.lcmp hx hb dL_law_1225 ?_
      refine lv_toI (y := 0) (by rw [hf' c_1216]; exact lg_self) ?_
      refine lv_if_eq (tgt := 1231) hx hb dL_law_1226 (by decide) (fun c_1226 => ?_) (fun c_1226 => ?_)
      · skip
        refine lv_goto (tgt := 1371) hx hb dL_law_1231 (by decide) ?_
        exact hN f' C' M' _ _ _ (hW'.mono (by omega)) hG hS (lv_sub hl [2, 3, 4, 5, 6] rfl)
      · exact absurd rfl c_1226
  · exact absurd ht' c_1209
set_option maxHeartbeats 4000000 in
set_option maxRecDepth 100000 in
theorem law_urgent {p : Program} {l : Launch} {e : Env} {s : State} {m : MethodId} {below : List Frame} {meth : Method} {c : Code} {b Ln : Nat} {xs : Nat → Int32} {D : va_G} {cy : Nat → ClassId} {L : Nat → Nat} {F : Nat → va_E} {Q : State → Prop} {t c0 s0 : Nat} (hC : LC p s m meth c b Ln xs D cy l) (hcl : c0 + t + 1 ≤ room_1.cells ∧ s0 + 6 * t + 6 ≤ room_1.slots) (hi : 5 * t + 5 ≤ Ln) (hN : NX p l e s m below meth c b D cy L F Q 1371 t (t + 1) c0 s0) : NX p l e s m below meth c b D cy L F Q 1234 t t c0 s0 := by
  obtain ⟨hx, hb, hml, hown, hts, hK, hX, hbl, hL, hst⟩ := hC
  have hA : ∀ q : Nat, s.heap.size ≤ q → (fun q : Nat => s.heap.size ≤ q) q := fun _ h => h
  have hbA : ¬ (fun q : Nat => s.heap.size ≤ q) b := Nat.not_le.mpr hbl
  intro f C M H locs ls hw hG hS hl
  have hc9 : c0 + t ≤ room_1.cells ∧ s0 + 6 * t ≤ room_1.slots := ⟨by omega, by omega⟩
  obtain ⟨v, C', M', hwr, hmr, hW'⟩ := st_urgent (l := l) D cy L F f (by omega) hw
  refine lv_aload_n hx hb dL_law_1234 rfl (lv_at hl 3 rfl) ?_
  refine g_cVi (As := []) (rest := []) hx hb hml hown hts hK hA hG hS hwr (cwV 0 hts gL_law_X4_urgent rfl rfl rfl (by decide +kernel) ⟨Nat.le_of_ble_eq_true rfl, Nat.le_of_ble_eq_true rfl⟩) (by omega) KW_0 (ci := 4) rfl rfl rfl rfl hl.1 (Nat.le_of_ble_eq_true rfl) dL_law_1235 ⟨hc9.1, hc9.2⟩ (fun H locs hG hS => ?_)
  refine lv_aload_n hx hb dL_law_1238 rfl (lv_at hl 2 rfl) ?_
  refine g_cVi (As := []) (rest := [.int v]) hx hb hml hown hts hK hA hG hS hmr (cwV 0 hts gL_law_X5_urgent rfl rfl rfl (by decide +kernel) ⟨Nat.le_of_ble_eq_true rfl, Nat.le_of_ble_eq_true rfl⟩) (by omega) KW_162 (ci := 5) rfl rfl rfl rfl hl.1 (Nat.le_of_ble_eq_true rfl) dL_law_1239 ⟨hc9.1, hc9.2⟩ (fun H locs hG hS => ?_)
  refine lv_icmp_eq (tgt := 1371) hx hb dL_law_1242 (by decide) (fun c_1242 => ?_) (fun c_1242 => ?_)
  · skip
    refine W.widen (k := c0 + (t + 1)) (n := s0 + 6 * (t + 1)) (by omega) (by omega) ?_
    exact hN f C' M' _ _ _ (hW'.mono (by omega)) hG hS (lv_sub hl [0, 1, 2, 3, 4] rfl)
  · exact absurd rfl c_1242
set_option maxHeartbeats 4000000 in
set_option maxRecDepth 100000 in
theorem law_nextArch {p : Program} {l : Launch} {e : Env} {s : State} {m : MethodId} {below : List Frame} {meth : Method} {c : Code} {b Ln : Nat} {xs : Nat → Int32} {D : va_G} {cy : Nat → ClassId} {L : Nat → Nat} {F : Nat → va_E} {Q : State → Prop} {t c0 s0 : Nat} (hC : LC p s m meth c b Ln xs D cy l) (hcl : c0 + t + 1 ≤ room_1.cells ∧ s0 + 6 * t + 6 ≤ room_1.slots) (hi : 5 * t + 5 ≤ Ln) (hN : NX p l e s m below meth c b D cy L F Q 1371 t (t + 1) c0 s0) : NX p l e s m below meth c b D cy L F Q 1247 t t c0 s0 := by
  obtain ⟨hx, hb, hml, hown, hts, hK, hX, hbl, hL, hst⟩ := hC
  have hA : ∀ q : Nat, s.heap.size ≤ q → (fun q : Nat => s.heap.size ≤ q) q := fun _ h => h
  have hbA : ¬ (fun q : Nat => s.heap.size ≤ q) b := Nat.not_le.mpr hbl
  intro f C M H locs ls hw hG hS hl
  have hc9 : c0 + t ≤ room_1.cells ∧ s0 + 6 * t ≤ room_1.slots := ⟨by omega, by omega⟩
  obtain ⟨v, C', M', hwr, hmr, hW'⟩ := st_nextArch (l := l) D cy L F f (by omega) hw
  refine lv_aload_n hx hb dL_law_1247 rfl (lv_at hl 3 rfl) ?_
  refine g_cVi (As := []) (rest := []) hx hb hml hown hts hK hA hG hS hwr (cwV 0 hts gL_law_X4_nextArch rfl rfl rfl (by decide +kernel) ⟨Nat.le_of_ble_eq_true rfl, Nat.le_of_ble_eq_true rfl⟩) (by omega) KW_0 (ci := 4) rfl rfl rfl rfl hl.1 (Nat.le_of_ble_eq_true rfl) dL_law_1248 ⟨hc9.1, hc9.2⟩ (fun H locs hG hS => ?_)
  refine lv_aload_n hx hb dL_law_1251 rfl (lv_at hl 2 rfl) ?_
  refine g_cVi (As := []) (rest := [.int v]) hx hb hml hown hts hK hA hG hS hmr (cwV 0 hts gL_law_X5_nextArch rfl rfl rfl (by decide +kernel) ⟨Nat.le_of_ble_eq_true rfl, Nat.le_of_ble_eq_true rfl⟩) (by omega) KW_162 (ci := 5) rfl rfl rfl rfl hl.1 (Nat.le_of_ble_eq_true rfl) dL_law_1252 ⟨hc9.1, hc9.2⟩ (fun H locs hG hS => ?_)
  refine lv_icmp_eq (tgt := 1371) hx hb dL_law_1255 (by decide) (fun c_1255 => ?_) (fun c_1255 => ?_)
  · skip
    refine W.widen (k := c0 + (t + 1)) (n := s0 + 6 * (t + 1)) (by omega) (by omega) ?_
    exact hN f C' M' _ _ _ (hW'.mono (by omega)) hG hS (lv_sub hl [0, 1, 2, 3, 4] rfl)
  · exact absurd rfl c_1255
set_option maxHeartbeats 4000000 in
set_option maxRecDepth 100000 in
theorem law_shakesNeeded {p : Program} {l : Launch} {e : Env} {s : State} {m : MethodId} {below : List Frame} {meth : Method} {c : Code} {b Ln : Nat} {xs : Nat → Int32} {D : va_G} {cy : Nat → ClassId} {L : Nat → Nat} {F : Nat → va_E} {Q : State → Prop} {t c0 s0 : Nat} (hC : LC p s m meth c b Ln xs D cy l) (hcl : c0 + t + 1 ≤ room_1.cells ∧ s0 + 6 * t + 6 ≤ room_1.slots) (hi : 5 * t + 5 ≤ Ln) (hN : NX p l e s m below meth c b D cy L F Q 1371 t (t + 1) c0 s0) : NX p l e s m below meth c b D cy L F Q 1260 t t c0 s0 := by
  obtain ⟨hx, hb, hml, hown, hts, hK, hX, hbl, hL, hst⟩ := hC
  have hA : ∀ q : Nat, s.heap.size ≤ q → (fun q : Nat => s.heap.size ≤ q) q := fun _ h => h
  have hbA : ¬ (fun q : Nat => s.heap.size ≤ q) b := Nat.not_le.mpr hbl
  intro f C M H locs ls hw hG hS hl
  obtain ⟨r, bb, f', C', M', hwr, hmr, ht', hf', hW'⟩ := st_shakesNeeded (l := l) D cy L F f hst (xs (5 * t + 1)) (by omega) (by omega) hw
  refine lv_aload_n hx hb dL_law_1260 rfl (lv_at hl 3 rfl) ?_
  refine lv_aload_n hx hb dL_law_1261 rfl (lv_at hl 4 rfl) ?_
  refine lv_iload hx hb dL_law_1262 (lv_at hl 0 rfl) ?_
  refine lv_iconst (v := 1) hx hb dL_law_1264 (by decide) ?_
  refine lv_iadd hx hb dL_law_1265 ?_
  refine lv_toN (k := 5 * t + 1) (nI_add (5 * t) 1) ?_
  refine va_sld hx hb hX hbl hbA hS (vp_in_nI (by omega) (by omega)) dL_law_1266 ?_
  refine lv_toI (y := xs (5 * t + 1)) (by rw [nI_clamp (by omega)]) ?_
  refine lv_aload_n hx hb dL_law_1267 rfl (lv_at hl 1 rfl) ?_
  refine g_cLW (n := 3) (As := [.ref (L 0), .int (xs (5 * t + 1)), .ref (L 168)]) (rest := []) hx hb hml hown hts hK hA hG hS hwr gL_law_L_shakesNeeded rfl (by decide +kernel) ⟨Nat.le_of_ble_eq_true rfl, Nat.le_of_ble_eq_true rfl⟩ rfl rfl hl.1 (Nat.le_of_ble_eq_true rfl) dL_law_1268 ⟨hcl.1, hcl.2⟩ (fun H locs hG hS => ?_)
  refine lv_istore (lv' := [(5, .int r), (4, .int (nI (5 * t))), (3, .ref (L 168)), (2, .ref (L 162)), (1, .ref (L 0)), (0, .ref b)]) hx hb dL_law_1271 hl (by decide) rfl (fun ls hl => ?_)
  refine lv_aload_n hx hb dL_law_1273 rfl (lv_at hl 3 rfl) ?_
  refine lv_aload_n hx hb dL_law_1274 rfl (lv_at hl 5 rfl) ?_
  refine lv_iload hx hb dL_law_1275 (lv_at hl 1 rfl) ?_
  refine lv_iconst (v := 1) hx hb dL_law_1277 (by decide) ?_
  refine lv_iadd hx hb dL_law_1278 ?_
  refine lv_toN (k := 5 * t + 1) (nI_add (5 * t) 1) ?_
  refine va_sld hx hb hX hbl hbA hS (vp_in_nI (by omega) (by omega)) dL_law_1279 ?_
  refine lv_toI (y := xs (5 * t + 1)) (by rw [nI_clamp (by omega)]) ?_
  refine g_cVi (As := [.int (xs (5 * t + 1))]) (rest := []) hx hb hml hown hts hK hA hG hS hmr (cwV 1 hts gL_law_X5_shakesNeeded rfl rfl rfl (by decide +kernel) ⟨Nat.le_of_ble_eq_true rfl, Nat.le_of_ble_eq_true rfl⟩) (by omega) KW_162 (ci := 5) rfl rfl rfl rfl hl.1 (Nat.le_of_ble_eq_true rfl) dL_law_1280 ⟨hcl.1, hcl.2⟩ (fun H locs hG hS => ?_)
  refine lv_istore (lv' := [(6, .int bb), (5, .int r), (4, .int (nI (5 * t))), (3, .ref (L 168)), (2, .ref (L 162)), (1, .ref (L 0)), (0, .ref b)]) hx hb dL_law_1283 hl (by decide) rfl (fun ls hl => ?_)
  refine lv_aload_n hx hb dL_law_1285 rfl (lv_at hl 4 rfl) ?_
  refine g_cVi (As := []) (rest := []) hx hb hml hown hts hK hA hG hS (thr_K l D cy L F f' C' M') (cwV 0 hts gL_law_X5_thrown rfl rfl rfl (by decide +kernel) ⟨Nat.le_of_ble_eq_true rfl, Nat.le_of_ble_eq_true rfl⟩) (by omega) KW_162 (ci := 5) rfl rfl rfl rfl hl.1 (Nat.le_of_ble_eq_true rfl) dL_law_1286 ⟨hcl.1, hcl.2⟩ (fun H locs hG hS => ?_)
  refine lv_iload hx hb dL_law_1289 (lv_at hl 1 rfl) ?_
  refine lv_icmp_eq (tgt := 1296) hx hb dL_law_1291 (by decide) (fun c_1291 => ?_) (fun c_1291 => ?_)
  · skip
    refine lv_iload hx hb dL_law_1296 (lv_at hl 1 rfl) ?_
    refine lv_if_ne (tgt := 1313) hx hb dL_law_1298 (by decide) (fun c_1298 => ?_) (fun c_1298 => ?_)
    · skip
      refine lv_goto (tgt := 1371) hx hb dL_law_1313 (by decide) ?_
      exact hN f' C' M' _ _ _ (hW'.mono (by omega)) hG hS (lv_sub hl [2, 3, 4, 5, 6] rfl)
    · skip
      refine lv_aload_n hx hb dL_law_1301 rfl (lv_at hl 3 rfl) ?_
      refine lv_iconst (v := 0) hx hb dL_law_1302 (by decide) ?_
      refine g_lald (k := 0) hx hb hK hG (by omega) KW_168 rfl (by omega) (by decide) dL_law_1303 ?_
      refine lv_iload hx hb dL_law_1304 (lv_at hl 0 rfl) ?_
      refine lv_i2l hx hb dL_law_1306 rfl ?_
      refine W.lcmp hx hb dL_law_1307 ?_
      refine lv_toI (y := 0) (by rw [hf' c_1298]; exact lg_self) ?_
      refine lv_if_eq (tgt := 1313) hx hb dL_law_1308 (by decide) (fun c_1308 => ?_) (fun c_1308 => ?_)
      · skip
        refine lv_goto (tgt := 1371) hx hb dL_law_1313 (by decide) ?_
        exact hN f' C' M' _ _ _ (hW'.mono (by omega)) hG hS (lv_sub hl [2, 3, 4, 5, 6] rfl)
      · exact absurd rfl c_1308
  · exact absurd ht' c_1291
set_option maxHeartbeats 4000000 in
set_option maxRecDepth 100000 in
theorem law_softness {p : Program} {l : Launch} {e : Env} {s : State} {m : MethodId} {below : List Frame} {meth : Method} {c : Code} {b Ln : Nat} {xs : Nat → Int32} {D : va_G} {cy : Nat → ClassId} {L : Nat → Nat} {F : Nat → va_E} {Q : State → Prop} {t c0 s0 : Nat} (hC : LC p s m meth c b Ln xs D cy l) (hcl : c0 + t + 1 ≤ room_1.cells ∧ s0 + 6 * t + 6 ≤ room_1.slots) (hi : 5 * t + 5 ≤ Ln) (hN : NX p l e s m below meth c b D cy L F Q 1371 t (t + 1) c0 s0) : NX p l e s m below meth c b D cy L F Q 1316 t t c0 s0 := by
  obtain ⟨hx, hb, hml, hown, hts, hK, hX, hbl, hL, hst⟩ := hC
  have hA : ∀ q : Nat, s.heap.size ≤ q → (fun q : Nat => s.heap.size ≤ q) q := fun _ h => h
  have hbA : ¬ (fun q : Nat => s.heap.size ≤ q) b := Nat.not_le.mpr hbl
  intro f C M H locs ls hw hG hS hl
  have hc9 : c0 + t ≤ room_1.cells ∧ s0 + 6 * t ≤ room_1.slots := ⟨by omega, by omega⟩
  obtain ⟨v, ⟨C', M', hwr, hmr, hW'⟩, hv0⟩ := st_softness (l := l) D cy L F f hw
  refine lv_aload_n hx hb dL_law_1316 rfl (lv_at hl 3 rfl) ?_
  refine g_cVd (As := []) (rest := []) hx hb hml hown hts hK hA hG hS hwr (cwV 0 hts gL_law_X4_softness rfl rfl rfl (by decide +kernel) ⟨Nat.le_of_ble_eq_true rfl, Nat.le_of_ble_eq_true rfl⟩) (by omega) KW_0 (ci := 4) rfl rfl rfl rfl hl.1 (Nat.le_of_ble_eq_true rfl) dL_law_1317 ⟨hc9.1, hc9.2⟩ (fun H locs hG hS => ?_)
  refine lv_dstore (lv' := [(5, .double v), (4, .int (nI (5 * t))), (3, .ref (L 168)), (2, .ref (L 162)), (1, .ref (L 0)), (0, .ref b)]) hx hb dL_law_1320 hl (by decide) rfl (fun ls hl => ?_)
  refine lv_aload_n hx hb dL_law_1322 rfl (lv_at hl 3 rfl) ?_
  refine g_cVd (As := []) (rest := []) hx hb hml hown hts hK hA hG hS hmr (cwV 0 hts gL_law_X5_softness rfl rfl rfl (by decide +kernel) ⟨Nat.le_of_ble_eq_true rfl, Nat.le_of_ble_eq_true rfl⟩) (by omega) KW_162 (ci := 5) rfl rfl rfl rfl hl.1 (Nat.le_of_ble_eq_true rfl) dL_law_1323 ⟨hc9.1, hc9.2⟩ (fun H locs hG hS => ?_)
  refine lv_dstore (lv' := [(7, .double v), (5, .double v), (4, .int (nI (5 * t))), (3, .ref (L 168)), (2, .ref (L 162)), (1, .ref (L 0)), (0, .ref b)]) hx hb dL_law_1326 hl (by decide) rfl (fun ls hl => ?_)
  refine lv_dload hx hb dL_law_1328 (lv_at hl 1 rfl) ?_
  refine lv_dload hx hb dL_law_1330 (lv_at hl 0 rfl) ?_
  refine lv_dcmp hx hb dL_law_1332 ?_
  refine lv_toI (y := 0) hv0 ?_
  refine lv_if_eq (tgt := 1354) hx hb dL_law_1333 (by decide) (fun c_1333 => ?_) (fun c_1333 => ?_)
  · skip
    refine lv_goto (tgt := 1371) hx hb dL_law_1354 (by decide) ?_
    refine W.widen (k := c0 + (t + 1)) (n := s0 + 6 * (t + 1)) (by omega) (by omega) ?_
    exact hN f C' M' _ _ _ (hW'.mono (by omega)) hG hS (lv_sub hl [2, 3, 4, 5, 6] rfl)
  · exact absurd rfl c_1333
set_option maxHeartbeats 4000000 in
set_option maxRecDepth 100000 in
theorem law_digest {p : Program} {l : Launch} {e : Env} {s : State} {m : MethodId} {below : List Frame} {meth : Method} {c : Code} {b Ln : Nat} {xs : Nat → Int32} {D : va_G} {cy : Nat → ClassId} {L : Nat → Nat} {F : Nat → va_E} {Q : State → Prop} {t c0 s0 : Nat} (hC : LC p s m meth c b Ln xs D cy l) (hcl : c0 + t + 1 ≤ room_1.cells ∧ s0 + 6 * t + 6 ≤ room_1.slots) (hi : 5 * t + 5 ≤ Ln) (hN : NX p l e s m below meth c b D cy L F Q 1371 t (t + 1) c0 s0) : NX p l e s m below meth c b D cy L F Q 1357 t t c0 s0 := by
  obtain ⟨hx, hb, hml, hown, hts, hK, hX, hbl, hL, hst⟩ := hC
  have hA : ∀ q : Nat, s.heap.size ≤ q → (fun q : Nat => s.heap.size ≤ q) q := fun _ h => h
  have hbA : ¬ (fun q : Nat => s.heap.size ≤ q) b := Nat.not_le.mpr hbl
  intro f C M H locs ls hw hG hS hl
  have hc9 : c0 + t ≤ room_1.cells ∧ s0 + 6 * t ≤ room_1.slots := ⟨by omega, by omega⟩
  obtain ⟨v, C', M', hwr, hmr, hW'⟩ := st_digest (l := l) D cy L F f (by omega) hw
  refine lv_aload_n hx hb dL_law_1357 rfl (lv_at hl 3 rfl) ?_
  refine g_cVl (As := []) (rest := []) hx hb hml hown hts hK hA hG hS hwr (cwV 0 hts gL_law_X4_digest rfl rfl rfl (by decide +kernel) ⟨Nat.le_of_ble_eq_true rfl, Nat.le_of_ble_eq_true rfl⟩) (by omega) KW_0 (ci := 4) rfl rfl rfl rfl hl.1 (Nat.le_of_ble_eq_true rfl) dL_law_1358 ⟨hc9.1, hc9.2⟩ (fun H locs hG hS => ?_)
  refine lv_aload_n hx hb dL_law_1361 rfl (lv_at hl 2 rfl) ?_
  refine g_cVl (As := []) (rest := [.long v]) hx hb hml hown hts hK hA hG hS hmr (cwV 0 hts gL_law_X5_digest rfl rfl rfl (by decide +kernel) ⟨Nat.le_of_ble_eq_true rfl, Nat.le_of_ble_eq_true rfl⟩) (by omega) KW_162 (ci := 5) rfl rfl rfl rfl hl.1 (Nat.le_of_ble_eq_true rfl) dL_law_1362 ⟨hc9.1, hc9.2⟩ (fun H locs hG hS => ?_)
  refine W.lcmp hx hb dL_law_1365 ?_
  refine lv_toI (y := 0) (lg_self) ?_
  refine lv_if_eq (tgt := 1371) hx hb dL_law_1366 (by decide) (fun c_1366 => ?_) (fun c_1366 => ?_)
  · skip
    refine W.widen (k := c0 + (t + 1)) (n := s0 + 6 * (t + 1)) (by omega) (by omega) ?_
    exact hN f C' M' _ _ _ (hW'.mono (by omega)) hG hS (lv_sub hl [0, 1, 2, 3, 4] rfl)
  · exact absurd rfl c_1366
