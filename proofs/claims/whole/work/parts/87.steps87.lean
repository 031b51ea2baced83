/-! play, and the calls that throw nothing -/
def LS1 (l : Launch) (D : va_G) (cy : Nat → ClassId) (L : Nat → Nat) (F : Nat → va_E) (yX : MethodName) (wsX : List Cond) (fX lX : Nat) (yM : MethodName) (wsM : List Cond) (fM lM : Nat) (m : Int) (f : Nat → Int64) (C : CT) (M : MT) (v : Value) : Prop :=
  ∃ (C' : CT) (M' : MT), GM l D cy 169 L yX wsX ({ frames := fX, cells := 0, slots := 0, locals := lX }) [.ref (L 0)] (KW cy L F f C M) (some v) (KW cy L F f C' M)
    ∧ GM l D cy 169 L yM wsM ({ frames := fM, cells := 0, slots := 0, locals := lM }) [.ref (L 162)] (KW cy L F f C' M) (some v) (KW cy L F f C' M') ∧ WR m C' M'
section STEPS2
variable {l : Launch} (D : va_G) (cy : Nat → ClassId) (L : Nat → Nat) (F : Nat → va_E) {m : Int} (f : Nat → Int64) {C : CT} {M : MT}
theorem st_play (hst : l.stackTraces = false) (h0 : 0 ≤ m) (hm : m < 900000000) (hw : WR m C M) : LSt l D cy L F yL_play wsL_play 8 183 yX5_play wsX5_play 7 160 [] (m + 2000) f C M := by
  have hlow := hw
  have hw := hw.mono (show m ≤ m + 2000 by omega)
  obtain ⟨mt, ms, ma, mv, mn, mb, ml, mp, mw, mr, mq, mh⟩ := M
  obtain ⟨h1, h2, h3, h4, h5, h6, h7, h8, h9, h10⟩ := id hw
  have h4 : mn = nI (cQ C) := h4
  subst h4
  have h9 : ml = nI (cL C) := h9
  subst h9
  have h10b := h10.2
  have h10 : mb = cB C := h10.1
  subst h10
  have h1 : Rel ms (cY C) := h1
  have hwf := h1.wfM h2
  have hwy := h2.wf
  have hsv := save_ok hw
  obtain ⟨t1, t2, t3⟩ := text_ok (r := t_r0 (cR C)) (b := cB C) (n := cL C) h10b h8 rfl mr
  obtain ⟨v1, v2, v3⟩ := text_ok (r := t_r0 (t_end (cB C) (t_r0 (cR C)) (cL C))) (b := cB C) (n := cL C) h10b h8 rfl mr
  by_cases hx : (q_all (cB C) (cL C) mr).1 = 0
  · by_cases he : t_err (cB C) (t_r0 (cR C)) (cL C) < cL C
    · exact ⟨1, 0, f, (cY C, cV C, cM C, cQ C, cB C, cL C, t_end (cB C) (t_r0 (cR C)) (cL C), cT C, cU C), _, Or.inr (k_L_play_t1a l hst D cy 169 L (mT cy L F (mt, ms, ma, mv, nI (cQ C), cB C, nI (cL C), mp, mw, mr, mq, mh)) (by omega) f C h8 he), toKW (M2 := (1, ms, ma, mv, nI (cQ C), cB C, nI (cL C), nI (q_all (cB C) (cL C) mr).2.1, (q_all (cB C) (cL C) mr).1, (q_all (cB C) (cL C) mr).2.2.2, nI (q_all (cB C) (cL C) mr).2.2.1, mh)) (k_X5_play_t1 l D cy 169 L (cW cy L (oW cy F f) (cY C, cV C, cM C, cQ C, cB C, cL C, t_end (cB C) (t_r0 (cR C)) (cL C), cT C, cU C)) (by omega) mt ms ma mv (nI (cQ C)) (cB C) (nI (cL C)) mp mw mr mq mh (cL C) h8 hx), rfl, fun h => absurd h (by decide), ⟨h1, h2, h3, rfl, h5, h6, h7, h8, rfl, rfl, h10b⟩⟩
    · have hd : r_done (t_end (cB C) (t_r0 (cR C)) (cL C)) = 0 := by
        rcases t2 hx with q | q
        · exact absurd q he
        · exact q
      exact ⟨1, 0, f, (cY C, cV C, cM C, cQ C, cB C, cL C, t_end (cB C) (t_r0 (cR C)) (cL C), cT C, cU C), _, Or.inr (k_L_play_t1b l hst D cy 169 L (mT cy L F (mt, ms, ma, mv, nI (cQ C), cB C, nI (cL C), mp, mw, mr, mq, mh)) (by omega) f C h8 he hd), toKW (M2 := (1, ms, ma, mv, nI (cQ C), cB C, nI (cL C), nI (q_all (cB C) (cL C) mr).2.1, (q_all (cB C) (cL C) mr).1, (q_all (cB C) (cL C) mr).2.2.2, nI (q_all (cB C) (cL C) mr).2.2.1, mh)) (k_X5_play_t1 l D cy 169 L (cW cy L (oW cy F f) (cY C, cV C, cM C, cQ C, cB C, cL C, t_end (cB C) (t_r0 (cR C)) (cL C), cT C, cU C)) (by omega) mt ms ma mv (nI (cQ C)) (cB C) (nI (cL C)) mp mw mr mq mh (cL C) h8 hx), rfl, fun h => absurd h (by decide), ⟨h1, h2, h3, rfl, h5, h6, h7, h8, rfl, rfl, h10b⟩⟩
  · obtain ⟨a1, a2, a3⟩ := t3 hx
    obtain ⟨b1, b2, b3⟩ := v3 hx
    have hgo : ¬ t_err (cB C) (t_r0 (cR C)) (cL C) < cL C := by omega
    have hdo : ¬ r_done (t_end (cB C) (t_r0 (cR C)) (cL C)) = 0 := by
      unfold t_end
      rw [a1, if_neg (by omega)]
      unfold r_done
      rw [if_pos a2.2.2.2.1]
      decide
    obtain ⟨c1, c2, c3, c4, c5, c6, c7, c8, c9⟩ := b2
    generalize hX : q_all (cB C) (cL C) mr = X at *
    obtain ⟨xw, xa, xq, xr⟩ := X
    have hq20 : 3 * xq ≤ cL C + 1 := b3
    have c2 : 1 ≤ xq := c2
    have c6 : PM (r_at (cB C) (t_r0 (t_end (cB C) (t_r0 (cR C)) (cL C))) (cL C)) xr (4 * (xq - 1)) := c6
    have c8 : ∀ i, i < xq → ∃ x, PM x xr (4 * i) := c8
    have c9 : PlayEq (cB C) (t_r0 (t_end (cB C) (t_r0 (cR C)) (cL C))) xr (cL C) (xq - 1) := c9
    obtain ⟨p, rfl⟩ : ∃ p, xq = p + 1 := ⟨xq - 1, by omega⟩
    rw [show p + 1 - 1 = p from rfl] at c6 c9
    obtain ⟨d1, d2, d3⟩ := c9 m ms (cY C) h0 (by omega) h1 hlow.2.1
    obtain ⟨e1, e2, e3⟩ := play1_ok d2 d3 (by omega) (by omega) c6
    have hrow : ∀ i, i < p + 1 → qOK xr (4 * i) := fun i hi => by
      obtain ⟨x, hx⟩ := c8 i hi
      exact hx.qok
    have kx := k_X5_play_ok l D cy 169 L (cW cy L (oW cy F (vp_updL f 0 (c_playR (c_save (c_read C))).toInt64)) (c_play (c_save (c_read C)))) (by omega) mt ms ma mv (nI (cQ C)) (cB C) (nI (cL C)) mp mw mr mq mh (cL C) (cQ C) h8 h3 hwf (by rw [hX]; exact hx) (by rw [hX]; show p + 1 ≤ 22; omega) (by rw [hX]; exact hrow)
    rw [hX] at kx
    refine ⟨0, q_pyR ms xr (p + 1), vp_updL f 0 (c_playR (c_save (c_read C))).toInt64, c_play (c_save (c_read C)), (0, q_pyS ms xr (p + 1), ma, g_saveV mv ms (cQ C), nI (g_saveN (cQ C)), cB C, 0, nI xa, xw, xr, nI (p + 1), mh), Or.inl (k_L_play_ok l D cy 169 L (mT cy L F (mt, ms, ma, mv, nI (cQ C), cB C, nI (cL C), mp, mw, mr, mq, mh)) (by omega) f C hwy h3 h5 h8 hgo hdo c7 c6.rok), toKW kx, rfl, fun _ => ?_, ?_⟩
    · show (c_playR (c_save (c_read C))).toInt64 = (q_pyR ms xr p + q_plR (q_pyS ms xr p) xr (4 * p)).toInt64
      rw [d1, e1]
      rfl
    · obtain ⟨k1, k2, k3, k4, k5, k6, k7, k8, k9, k10⟩ := hsv
      exact ⟨e2, e3.mono (by omega), k3, rfl, k5, k6, k7, by show 0 ≤ 60; omega, rfl, rfl, fun k hk => absurd hk (Nat.not_lt_zero k)⟩
theorem st_clearBuffer (hw : WR m C M) : ∃ v : Int32, LS1 l D cy L F yX4_clearBuffer wsX4_clearBuffer 0 0 yX5_clearBuffer wsX5_clearBuffer 0 0 m f C M (.int v) := by
  obtain ⟨mt, ms, ma, mv, mn, mb, ml, mp, mw, mr, mq, mh⟩ := M
  obtain ⟨h1, h2, h3, h4, h5, h6, h7, h8, h9, h10⟩ := id hw
  have h9 : ml = nI (cL C) := h9
  subst h9
  exact ⟨nI (cL C), (cY C, cV C, cM C, cQ C, cB C, 0, cR C, cT C, cU C), (0, ms, ma, mv, mn, mb, 0, mp, mw, mr, mq, mh), k_X4_clearBuffer l D cy 169 L _ (by omega) C, toKW (k_X5_clearBuffer l D cy 169 L (cW cy L (oW cy F f) _) (by omega) mt ms ma mv mn mb (nI (cL C)) mp mw mr mq mh), h1, h2, h3, h4, h5, h6, h7, by show 0 ≤ 60; omega, rfl, h10.1, fun k hk => absurd hk (Nat.not_lt_zero k)⟩
theorem st_firstError (hw : WR m C M) : ∃ v : Int32, LS1 l D cy L F yX4_firstError wsX4_firstError 3 64 yX5_firstError wsX5_firstError 5 108 m f C M (.int v) := by
  obtain ⟨mt, ms, ma, mv, mn, mb, ml, mp, mw, mr, mq, mh⟩ := M
  obtain ⟨h1, h2, h3, h4, h5, h6, h7, h8, h9, h10⟩ := id hw
  have h9 : ml = nI (cL C) := h9
  subst h9
  have h10b := h10.2
  have h10 : mb = cB C := h10.1
  subst h10
  obtain ⟨t1, t2, t3⟩ := text_ok (r := t_r0 (cR C)) (b := cB C) (n := cL C) h10b h8 rfl mr
  have kx := k_X5_firstError l D cy 169 L (cW cy L (oW cy F f) (cY C, cV C, cM C, cQ C, cB C, cL C, t_end (cB C) (t_r0 (cR C)) (cL C), cT C, cU C)) (by omega) mt ms ma mv mn (cB C) (nI (cL C)) mp mw mr mq mh (cL C) h8
  rw [t1] at kx
  exact ⟨nI (t_err (cB C) (t_r0 (cR C)) (cL C)), (cY C, cV C, cM C, cQ C, cB C, cL C, t_end (cB C) (t_r0 (cR C)) (cL C), cT C, cU C), (0, ms, ma, mv, mn, cB C, nI (cL C), nI (t_err (cB C) (t_r0 (cR C)) (cL C)), (q_all (cB C) (cL C) mr).1, (q_all (cB C) (cL C) mr).2.2.2, nI (q_all (cB C) (cL C) mr).2.2.1, mh), k_X4_firstError l D cy 169 L _ (by omega) C h8, toKW kx, h1, h2, h3, h4, h5, h6, h7, h8, rfl, rfl, h10b⟩
theorem st_urgent (hm : m < 900000000) (hw : WR m C M) : ∃ v : Int32, LS1 l D cy L F yX4_urgent wsX4_urgent 3 64 yX5_urgent wsX5_urgent 5 114 m f C M (.int v) := by
  obtain ⟨mt, ms, ma, mv, mn, mb, ml, mp, mw, mr, mq, mh⟩ := M
  obtain ⟨h1, h2, h3, h4, h5, h6, h7, h8, h9, h10⟩ := id hw
  have h1 : Rel ms (cY C) := h1
  have kx := k_X5_urgent l D cy 169 L (cW cy L (oW cy F f) C) (by omega) mt ms ma mv mn mb ml mp mw mr mq mh (h1.wfM h2)
  rw [urgent_eq h1 h2 (by omega)] at kx
  exact ⟨_, C, (0, ms, ma, mv, mn, mb, ml, mp, mw, mr, mq, mh), k_X4_urgent l D cy 169 L _ (by omega) C h2.wf, toKW kx, hw⟩
theorem st_nextArch (hm : m < 900000000) (hw : WR m C M) : ∃ v : Int32, LS1 l D cy L F yX4_nextArch wsX4_nextArch 2 42 yX5_nextArch wsX5_nextArch 6 133 m f C M (.int v) := by
  obtain ⟨mt, ms, ma, mv, mn, mb, ml, mp, mw, mr, mq, mh⟩ := M
  obtain ⟨h1, h2, h3, h4, h5, h6, h7, h8, h9, h10⟩ := id hw
  have h1 : Rel ms (cY C) := h1
  have kx := k_X5_nextArch l D cy 169 L (cW cy L (oW cy F f) C) (by omega) mt ms ma mv mn mb ml mp mw mr mq mh (h1.wfM h2)
  rw [nextArch_eq h1 h2 (by omega)] at kx
  exact ⟨_, C, (0, ms, cpN ma ms (0) (0) 118, mv, mn, mb, ml, mp, mw, mr, mq, mh), k_X4_nextArch l D cy 169 L _ (by omega) C h2.wf, toKW kx, hw⟩
theorem st_softness (hw : WR m C M) : ∃ v : UInt64, LS1 l D cy L F yX4_softness wsX4_softness 3 65 yX5_softness wsX5_softness 5 113 m f C M (.double v) ∧ Op.cmpValue (FP.dcmp v v) .l = 0 := by
  obtain ⟨mt, ms, ma, mv, mn, mb, ml, mp, mw, mr, mq, mh⟩ := M
  obtain ⟨h1, h2, h3, h4, h5, h6, h7, h8, h9, h10⟩ := id hw
  have h1 : Rel ms (cY C) := h1
  have hf := soft_hf h2
  have kx := k_X5_softness l D cy 169 L (cW cy L (oW cy F f) C) (by omega) mt ms ma mv mn mb ml mp mw mr mq mh (h1.wfM h2) (by rw [inSilos_eq h1 h2 4 (by omega), softS_eq h1 h2 4 (by omega)]; exact hf)
  rw [softD_eq h1 h2] at kx
  exact ⟨_, ⟨C, (0, ms, ma, mv, mn, mb, ml, mp, mw, mr, mq, mh), k_X4_softness l D cy 169 L _ (by omega) C h2.wf hf, toKW kx, hw⟩, soft_self h2⟩
theorem st_digest (hm : m < 900000000) (hw : WR m C M) : ∃ v : Int64, LS1 l D cy L F yX4_digest wsX4_digest 9 202 yX5_digest wsX5_digest 8 186 m f C M (.long v) := by
  obtain ⟨mt, ms, ma, mv, mn, mb, ml, mp, mw, mr, mq, mh⟩ := M
  obtain ⟨h1, h2, h3, h4, h5, h6, h7, h8, h9, h10⟩ := id hw
  have h4 : mn = nI (cQ C) := h4
  subst h4
  have h9 : ml = nI (cL C) := h9
  subst h9
  have h10b := h10.2
  have h10 : mb = cB C := h10.1
  subst h10
  have h1 : Rel ms (cY C) := h1
  have hf := soft_hf h2
  have hn1 : ∀ k, k < 4 → 1 ≤ sN (yS (cY C) k) ∨ sC (yS (cY C) k) = 2 ∨ sC (yS (cY C) k) = 0 := fun k hk => arch_n (h2.1 k hk)
  have hn2 : ∀ k, k < 4 → 1 ≤ Nn ms k ∨ ms (10 + 24 * k + 1) = 2 ∨ ms (10 + 24 * k + 1) = 0 := fun k hk => by
    rw [(h1.1 k hk).Nn (h2.1 k hk).1, (h1.1 k hk).2.2.1]; exact hn1 k hk
  have kx := k_X5_digest l D cy 169 L (cW cy L (oW cy F f) (cY C, cV C, cM C, cQ C, cB C, cL C, cR C, cT (d_C C 4), cU (d_C C 4))) (by omega) mt ms ma mv (nI (cQ C)) (cB C) (nI (cL C)) mp mw mr mq mh (cL C) h8 (h1.wfM h2) hn2 (by rw [inSilos_eq h1 h2 4 (by omega), softS_eq h1 h2 4 (by omega)]; exact hf) (by rw [softD_eq h1 h2]; exact soft_self h2)
  have ed := digest_eq (C := C) (b := cB C) h1 h2 (by omega) (fun k _ => rfl)
  rw [ed] at kx
  refine ⟨_, (cY C, cV C, cM C, cQ C, cB C, cL C, cR C, cT (d_C C 4), cU (d_C C 4)), (0, ms, _, mv, nI (cQ C), cB C, nI (cL C), mp, mw, mr, mq, _), ?_, toKW kx, hw⟩
  rcases soft_bits h2 with ⟨z1, z2⟩ | ⟨w9, z1, z2, z3, z4, z5, z6, z7, z8⟩
  · have kz := k_X4_digest_zero l D cy 169 L (oW cy (mT cy L F (mt, ms, ma, mv, nI (cQ C), cB C, nI (cL C), mp, mw, mr, mq, mh)) f) (by omega) C h2.wf h8 hn1 hf z1
    rw [z2]
    exact kz
  · have kz := k_X4_digest_pos l D cy 169 L (oW cy (mT cy L F (mt, ms, ma, mv, nI (cQ C), cB C, nI (cL C), mp, mw, mr, mq, mh)) f) (by omega) C w9 h2.wf h8 hn1 hf z1 z2 z3 z4 z5 z6 z7
    rw [z8] at kz
    exact kz
end STEPS2
