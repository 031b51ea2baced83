/-! A CALL of the law on both sides: the wrapper's, then the reference's -/
def LSt (l : Launch) (D : va_G) (cy : Nat → ClassId) (L : Nat → Nat) (F : Nat → va_E) (yW : MethodName) (wsW : List Cond) (fW lW : Nat) (yM : MethodName) (wsM : List Cond) (fM lM : Nat) (vs : List Value) (m : Int) (f : Nat → Int64) (C : CT) (M : MT) : Prop :=
  ∃ (r bb : Int32) (f' : Nat → Int64) (C' : CT) (M' : MT),
    (GMw l D cy 169 L yW wsW ({ frames := fW, cells := 0, slots := 0, locals := lW }) 0 0 (.ref (L 0) :: (vs ++ [.ref (L 168)])) (KW cy L F f C M) (some (.int r)) (KW cy L F f' C' M) ∨ GMw l D cy 169 L yW wsW ({ frames := fW, cells := 1, slots := 6, locals := lW }) 1 6 (.ref (L 0) :: (vs ++ [.ref (L 168)])) (KW cy L F f C M) (some (.int r)) (KW cy L F f' C' M))
    ∧ GM l D cy 169 L yM wsM ({ frames := fM, cells := 0, slots := 0, locals := lM }) (.ref (L 162) :: vs) (KW cy L F f' C' M) (some (.int bb)) (KW cy L F f' C' M')
    ∧ uT M' = r ∧ (r = 0 → f' 0 = bb.toInt64) ∧ WR m C' M'
theorem toKW {l : Launch} {D : va_G} {cy : Nat → ClassId} {L : Nat → Nat} {F : Nat → va_E} {y : MethodName} {ws : List Cond} {rm : Room} {av : List Value} {f : Nat → Int64} {C : CT} {M M2 : MT} {rv : Option Value} (h : GM l D cy 169 L y ws rm av (mT cy L (cW cy L (oW cy F f) C) M) rv (mT cy L (cW cy L (oW cy F f) C) M2)) : GM l D cy 169 L y ws rm av (KW cy L F f C M) rv (KW cy L F f C M2) := by
  rw [mT_K, mT_K] at h
  exact h
theorem nI_ofR {a : Int32} {n : Nat} (h0 : 0 ≤ a.toInt) (h1 : a.toInt < n) (hn : n < 2147483648) : ∃ k : Nat, k < n ∧ a = nI k := ⟨a.toInt.toNat, by omega, by rw [i_eq, nI_toInt (by omega)]; omega⟩
theorem silo_c (a : Int32) : (g_in a 0 3 = 1 ∧ ∃ k, k < 4 ∧ a = nI k) ∨ (¬ c_noSilo a = 0 ∧ g_in a 0 3 = 0) := by
  by_cases h : 0 ≤ a.toInt ∧ a.toInt < 4
  · obtain ⟨k, hk, e⟩ := nI_ofR (n := 4) h.1 (by omega) (by omega)
    left
    refine ⟨?_, k, hk, e⟩
    rw [e]
    exact g_in_silo hk
  · right
    refine ⟨by rw [noSilo_I]; exact h, by rw [g_in_I, i_0, i_3]; omega⟩
theorem ship_c (a : Int32) : (g_in a 0 5 = 1 ∧ ∃ k, k < 6 ∧ a = nI k) ∨ (¬ c_noShip a = 0 ∧ g_in a 0 5 = 0) := by
  by_cases h : 0 ≤ a.toInt ∧ a.toInt < 6
  · obtain ⟨k, hk, e⟩ := nI_ofR (n := 6) h.1 (by omega) (by omega)
    left
    refine ⟨?_, k, hk, e⟩
    rw [e]
    exact g_in_ship hk
  · right
    refine ⟨by rw [noShip_I]; exact h, by rw [g_in_I, i_0, i_5]; omega⟩
theorem g_in_c (v x y : Int32) : (g_in v x y = 1 ∧ ¬ v < x ∧ v ≤ y) ∨ (g_in v x y = 0 ∧ (v < x ∨ ¬ v ≤ y)) := by
  rw [i_lt, i_le]
  by_cases h : x.toInt ≤ v.toInt ∧ v.toInt ≤ y.toInt
  · exact Or.inl ⟨g_in_1 (by rw [i_lt]; omega) (by rw [i_lt]; omega), by omega, by omega⟩
  · exact Or.inr ⟨g_in_I.mpr h, by omega⟩
theorem g_in_N {v : Int32} {x y : Nat} (h1 : ¬ v < nI x) (h2 : v ≤ nI y) (hy : y < 1000) (hx : x < 1000) : ∃ q, x ≤ q ∧ q ≤ y ∧ v = nI q := by
  rw [i_lt, nI_toInt (by omega)] at h1
  rw [i_le, nI_toInt (by omega)] at h2
  exact ⟨v.toInt.toNat, by omega, by omega, by rw [i_eq, nI_toInt (by omega)]; omega⟩
theorem arch_n {m : Int} {v : ST} (h : okS m v) : 1 ≤ sN v ∨ sC v = 2 ∨ sC v = 0 := by
  rcases h.2.2.2.2.1 with e | e | e
  · exact Or.inr (Or.inr e)
  · exact Or.inl (h.2.2.2.2.2.1 e)
  · exact Or.inr (Or.inl e)
section STEPS
variable {l : Launch} (D : va_G) (cy : Nat → ClassId) (L : Nat → Nat) (F : Nat → va_E) {m : Int} (f : Nat → Int64) {C : CT} {M : MT}
theorem st_ship (hst : l.stackTraces = false) (a u t : Int32) (h0 : 0 ≤ m) (hm : m < 900000000) (hw : WR m C M) : LSt l D cy L F yL_ship wsL_ship 8 175 yX5_ship wsX5_ship 2 42 [.int a, .int u, .int t] (m + 2000) f C M := by
  have hw := hw.mono (show m ≤ m + 2000 by omega)
  obtain ⟨mt, ms, ma, mv, mn, mb, ml, mp, mw, mr, mq, mh⟩ := M
  obtain ⟨h1, h2, h3, h4, h5, h6, h7, h8, h9, h10⟩ := id hw
  have h4 : mn = nI (cQ C) := h4
  subst h4
  have h9 : ml = nI (cL C) := h9
  subst h9
  have h1 : Rel ms (cY C) := h1
  have h10 : mb = cB C ∧ ∀ k, k < cL C → iB 33 126 (cB C k) := h10
  have hwf := h1.wfM h2
  have hwy := h2.wf
  have hsv := save_ok hw
  rcases ship_c a with ⟨q0, j, hj, rfl⟩ | ⟨c0, q0⟩
  · rcases g_in_c u 0 900 with ⟨q1, u1, u2⟩ | ⟨q1, u1⟩
    · rcases g_in_c t 0 u with ⟨q2, t1, t2⟩ | ⟨q2, t1⟩
      · have u3 : ¬ (900 : Int32) < u := by rw [i_lt]; rw [i_le] at u2; omega
        obtain ⟨e1, e2, e3⟩ := ship_ok h1 h2 hj u1 u3 t1 t2
        exact ⟨0, ms (106 + 2 * j), vp_updL f 0 (hT (yH (cY C) j)).toInt64, c_setY (c_save C) (y_ship (cY C) j u t), (0, g_shipS ms j u t, ma, g_saveV mv ms (cQ C), nI (g_saveN (cQ C)), mb, nI (cL C), mp, mw, mr, mq, mh), Or.inl (k_L_ship_ok l D cy 169 L (mT cy L F (mt, ms, ma, mv, nI (cQ C), mb, nI (cL C), mp, mw, mr, mq, mh)) (by omega) f C j u t hwy h3 h5 hj u1 u3 t1 t2), toKW (k_X5_ship_ok l D cy 169 L (cW cy L (oW cy F (vp_updL f 0 (hT (yH (cY C) j)).toInt64)) (c_setY (c_save C) (y_ship (cY C) j u t))) (by omega) mt ms ma mv (nI (cQ C)) mb (nI (cL C)) mp mw mr mq mh j (cQ C) u t h3 hwf hj q1 q2), rfl, fun _ => congrArg Int32.toInt64 (e1.symm), WR_set hsv (Int.le_refl _) e2 e3⟩
      · have c : u < 0 ∨ 900 < u ∨ t < 0 ∨ ¬ t ≤ u := Or.inr (Or.inr t1)
        exact ⟨2, 0, f, C, (2, ms, ma, mv, nI (cQ C), mb, nI (cL C), mp, mw, mr, mq, mh), Or.inr (k_L_ship_t2 l hst D cy 169 L (mT cy L F (mt, ms, ma, mv, nI (cQ C), mb, nI (cL C), mp, mw, mr, mq, mh)) (by omega) f C j u t hj c), toKW (k_X5_ship_t2 l D cy 169 L (cW cy L (oW cy F f) C) (by omega) mt ms ma mv (nI (cQ C)) mb (nI (cL C)) mp mw mr mq mh j u t hj (Or.inr q2)), rfl, fun h => absurd h (by decide), hw⟩
    · have c : u < 0 ∨ 900 < u ∨ t < 0 ∨ ¬ t ≤ u := by
        rcases u1 with u1 | u1
        · exact Or.inl u1
        · refine Or.inr (Or.inl ?_)
          rw [i_le] at u1
          rw [i_lt]
          omega
      exact ⟨2, 0, f, C, (2, ms, ma, mv, nI (cQ C), mb, nI (cL C), mp, mw, mr, mq, mh), Or.inr (k_L_ship_t2 l hst D cy 169 L (mT cy L F (mt, ms, ma, mv, nI (cQ C), mb, nI (cL C), mp, mw, mr, mq, mh)) (by omega) f C j u t hj c), toKW (k_X5_ship_t2 l D cy 169 L (cW cy L (oW cy F f) C) (by omega) mt ms ma mv (nI (cQ C)) mb (nI (cL C)) mp mw mr mq mh j u t hj (Or.inl q1)), rfl, fun h => absurd h (by decide), hw⟩
  · exact ⟨1, 0, f, C, (1, ms, ma, mv, nI (cQ C), mb, nI (cL C), mp, mw, mr, mq, mh), Or.inr (k_L_ship_t1 l hst D cy 169 L (mT cy L F (mt, ms, ma, mv, nI (cQ C), mb, nI (cL C), mp, mw, mr, mq, mh)) (by omega) f C a u t c0), toKW (k_X5_ship_t1 l D cy 169 L (cW cy L (oW cy F f) C) (by omega) mt ms ma mv (nI (cQ C)) mb (nI (cL C)) mp mw mr mq mh a u t q0), rfl, fun h => absurd h (by decide), hw⟩
theorem st_unload (hst : l.stackTraces = false) (a b t : Int32) (h0 : 0 ≤ m) (hm : m < 900000000) (hw : WR m C M) : LSt l D cy L F yL_unload wsL_unload 8 173 yX5_unload wsX5_unload 5 118 [.int a, .int b, .int t] (m + 2000) f C M := by
  have hw := hw.mono (show m ≤ m + 2000 by omega)
  obtain ⟨mt, ms, ma, mv, mn, mb, ml, mp, mw, mr, mq, mh⟩ := M
  obtain ⟨h1, h2, h3, h4, h5, h6, h7, h8, h9, h10⟩ := id hw
  have h4 : mn = nI (cQ C) := h4
  subst h4
  have h9 : ml = nI (cL C) := h9
  subst h9
  have h1 : Rel ms (cY C) := h1
  have h10 : mb = cB C ∧ ∀ k, k < cL C → iB 33 126 (cB C k) := h10
  have hwf := h1.wfM h2
  have hwy := h2.wf
  have hsv := save_ok hw
  rcases silo_c a with ⟨p0, k, hk, rfl⟩ | ⟨c0, p0⟩
  · rcases ship_c b with ⟨q0, j, hj, rfl⟩ | ⟨c0, q0⟩
    · have hN : Nn ms k = sN (yS (cY C) k) := (h1.1 k hk).Nn (h2.1 k hk).1
      rcases g_in_c t 1 500 with ⟨q2, t1, t2⟩ | ⟨q2, t1⟩
      · have t3 := t1
        have t4 := t2
        rw [i_lt, i_1] at t3
        rw [i_le, i_500] at t4
        obtain ⟨e1, e2, e3⟩ := unlY_ok (t := t) h1 h2 hk hj (by omega) t4 (by omega)
        rw [← hN] at e1 e2
        exact ⟨0, g_unlR ms k j (Nn ms k) t, vp_updL f 0 (c_brR (yS (cY C) k) (yH (cY C) j) t).toInt64, c_unl (c_save C) k j t, (0, g_unlS ms k j (Nn ms k) t, ma, g_saveV mv ms (cQ C), nI (g_saveN (cQ C)), mb, nI (cL C), mp, mw, mr, mq, mh), Or.inl (k_L_unload_ok l D cy 169 L (mT cy L F (mt, ms, ma, mv, nI (cQ C), mb, nI (cL C), mp, mw, mr, mq, mh)) (by omega) f C k j t hwy h3 h5 hk hj t1 t2), toKW (k_X5_unload_ok l D cy 169 L (cW cy L (oW cy F (vp_updL f 0 (c_brR (yS (cY C) k) (yH (cY C) j) t).toInt64)) (c_unl (c_save C) k j t)) (by omega) mt ms ma mv (nI (cQ C)) mb (nI (cL C)) mp mw mr mq mh k j (cQ C) t h3 hwf hk hj q2), rfl, fun _ => congrArg Int32.toInt64 (e1.symm), WR_set (y := y_br (cY C) k j t) hsv (Int.le_refl _) e2 e3⟩
      · exact ⟨2, 0, f, C, (2, ms, ma, mv, nI (cQ C), mb, nI (cL C), mp, mw, mr, mq, mh), Or.inr (k_L_unload_t2 l hst D cy 169 L (mT cy L F (mt, ms, ma, mv, nI (cQ C), mb, nI (cL C), mp, mw, mr, mq, mh)) (by omega) f C k j t hk hj t1), toKW (k_X5_unload_t2 l D cy 169 L (cW cy L (oW cy F f) C) (by omega) mt ms ma mv (nI (cQ C)) mb (nI (cL C)) mp mw mr mq mh k j t hk hj q2), rfl, fun h => absurd h (by decide), hw⟩
    · exact ⟨1, 0, f, C, (1, ms, ma, mv, nI (cQ C), mb, nI (cL C), mp, mw, mr, mq, mh), Or.inr (k_L_unload_t1 l hst D cy 169 L (mT cy L F (mt, ms, ma, mv, nI (cQ C), mb, nI (cL C), mp, mw, mr, mq, mh)) (by omega) f C (nI k) b t (Or.inr c0)), toKW (k_X5_unload_t1 l D cy 169 L (cW cy L (oW cy F f) C) (by omega) mt ms ma mv (nI (cQ C)) mb (nI (cL C)) mp mw mr mq mh (nI k) b t (Or.inr q0)), rfl, fun h => absurd h (by decide), hw⟩
  · exact ⟨1, 0, f, C, (1, ms, ma, mv, nI (cQ C), mb, nI (cL C), mp, mw, mr, mq, mh), Or.inr (k_L_unload_t1 l hst D cy 169 L (mT cy L F (mt, ms, ma, mv, nI (cQ C), mb, nI (cL C), mp, mw, mr, mq, mh)) (by omega) f C a b t (Or.inl c0)), toKW (k_X5_unload_t1 l D cy 169 L (cW cy L (oW cy F f) C) (by omega) mt ms ma mv (nI (cQ C)) mb (nI (cL C)) mp mw mr mq mh a b t (Or.inl p0)), rfl, fun h => absurd h (by decide), hw⟩
theorem st_flow (hst : l.stackTraces = false) (a b t : Int32) (h0 : 0 ≤ m) (hm : m < 900000000) (hw : WR m C M) : LSt l D cy L F yL_flow wsL_flow 8 173 yX5_flow wsX5_flow 6 139 [.int a, .int b, .int t] (m + 2000) f C M := by
  have hw := hw.mono (show m ≤ m + 2000 by omega)
  obtain ⟨mt, ms, ma, mv, mn, mb, ml, mp, mw, mr, mq, mh⟩ := M
  obtain ⟨h1, h2, h3, h4, h5, h6, h7, h8, h9, h10⟩ := id hw
  have h4 : mn = nI (cQ C) := h4
  subst h4
  have h9 : ml = nI (cL C) := h9
  subst h9
  have h1 : Rel ms (cY C) := h1
  have h10 : mb = cB C ∧ ∀ k, k < cL C → iB 33 126 (cB C k) := h10
  have hwf := h1.wfM h2
  have hwy := h2.wf
  have hsv := save_ok hw
  rcases silo_c a with ⟨p0, k, hk, rfl⟩ | ⟨c0, p0⟩
  · rcases ship_c b with ⟨q0, j, hj, rfl⟩ | ⟨c0, q0⟩
    · have hN : Nn ms k = sN (yS (cY C) k) := (h1.1 k hk).Nn (h2.1 k hk).1
      rcases g_in_c t 1 24 with ⟨q2, t1, t2⟩ | ⟨q2, t1⟩
      · obtain ⟨q, x1, x2, rfl⟩ := g_in_N (x := 1) (y := 24) t1 t2 (by omega) (by omega)
        obtain ⟨e1, e2, e3⟩ := letY_ok h1 h2 hk hj q
        exact ⟨0, g_hoursR ms k j q, vp_updL f 0 (y_letR (cY C) k j q).toInt64, c_setY (c_save C) (y_let (cY C) k j q), (0, g_hoursS ms k j q, ma, g_saveV mv ms (cQ C), nI (g_saveN (cQ C)), mb, nI (cL C), mp, mw, mr, mq, mh), Or.inl (k_L_flow_ok l D cy 169 L (mT cy L F (mt, ms, ma, mv, nI (cQ C), mb, nI (cL C), mp, mw, mr, mq, mh)) (by omega) f C k j q hwy h3 h5 hk hj x1 x2), toKW (k_X5_flow_ok l D cy 169 L (cW cy L (oW cy F (vp_updL f 0 (y_letR (cY C) k j q).toInt64)) (c_setY (c_save C) (y_let (cY C) k j q))) (by omega) mt ms ma mv (nI (cQ C)) mb (nI (cL C)) mp mw mr mq mh k j q (cQ C) h3 hwf hk hj x1 x2), rfl, fun _ => congrArg Int32.toInt64 (e1.symm), WR_set hsv (Int.le_refl _) e2 e3⟩
      · exact ⟨2, 0, f, C, (2, ms, ma, mv, nI (cQ C), mb, nI (cL C), mp, mw, mr, mq, mh), Or.inr (k_L_flow_t2 l hst D cy 169 L (mT cy L F (mt, ms, ma, mv, nI (cQ C), mb, nI (cL C), mp, mw, mr, mq, mh)) (by omega) f C k j t hk hj t1), toKW (k_X5_flow_t2 l D cy 169 L (cW cy L (oW cy F f) C) (by omega) mt ms ma mv (nI (cQ C)) mb (nI (cL C)) mp mw mr mq mh k j t hk hj q2), rfl, fun h => absurd h (by decide), hw⟩
    · exact ⟨1, 0, f, C, (1, ms, ma, mv, nI (cQ C), mb, nI (cL C), mp, mw, mr, mq, mh), Or.inr (k_L_flow_t1 l hst D cy 169 L (mT cy L F (mt, ms, ma, mv, nI (cQ C), mb, nI (cL C), mp, mw, mr, mq, mh)) (by omega) f C (nI k) b t (Or.inr c0)), toKW (k_X5_flow_t1 l D cy 169 L (cW cy L (oW cy F f) C) (by omega) mt ms ma mv (nI (cQ C)) mb (nI (cL C)) mp mw mr mq mh (nI k) b t (Or.inr q0)), rfl, fun h => absurd h (by decide), hw⟩
  · exact ⟨1, 0, f, C, (1, ms, ma, mv, nI (cQ C), mb, nI (cL C), mp, mw, mr, mq, mh), Or.inr (k_L_flow_t1 l hst D cy 169 L (mT cy L F (mt, ms, ma, mv, nI (cQ C), mb, nI (cL C), mp, mw, mr, mq, mh)) (by omega) f C a b t (Or.inl c0)), toKW (k_X5_flow_t1 l D cy 169 L (cW cy L (oW cy F f) C) (by omega) mt ms ma mv (nI (cQ C)) mb (nI (cL C)) mp mw mr mq mh a b t (Or.inl p0)), rfl, fun h => absurd h (by decide), hw⟩
theorem st_pads (hst : l.stackTraces = false) (a b : Int32) (h0 : 0 ≤ m) (hm : m < 900000000) (hw : WR m C M) : LSt l D cy L F yL_pads wsL_pads 8 173 yX5_pads wsX5_pads 2 44 [.int a, .int b] (m + 2000) f C M := by
  have hw := hw.mono (show m ≤ m + 2000 by omega)
  obtain ⟨mt, ms, ma, mv, mn, mb, ml, mp, mw, mr, mq, mh⟩ := M
  obtain ⟨h1, h2, h3, h4, h5, h6, h7, h8, h9, h10⟩ := id hw
  have h4 : mn = nI (cQ C) := h4
  subst h4
  have h9 : ml = nI (cL C) := h9
  subst h9
  have h1 : Rel ms (cY C) := h1
  have h10 : mb = cB C ∧ ∀ k, k < cL C → iB 33 126 (cB C k) := h10
  have hwf := h1.wfM h2
  have hwy := h2.wf
  have hsv := save_ok hw
  rcases silo_c a with ⟨p0, k, hk, rfl⟩ | ⟨c0, p0⟩
  · rcases g_in_c b 0 4 with ⟨q2, t1, t2⟩ | ⟨q2, t1⟩
    · have ep : g_padsOn ms 4 - ms (10 + 24 * k + 0) + b ≤ ms 6 ↔ y_pads (cY C) 4 - sP (yS (cY C) k) + b ≤ yZ (cY C) 0 := by
        rw [pads_eq h1 4 (by omega), (h1.1 k hk).2.1, show ms 6 = yZ (cY C) 0 from h1.2.2.1 0 (by omega)]
      by_cases hb : y_pads (cY C) 4 - sP (yS (cY C) k) + b ≤ yZ (cY C) 0
      · obtain ⟨q, x1, x2, rfl⟩ := g_in_N (x := 0) (y := 4) t1 t2 (by omega) (by omega)
        obtain ⟨e2, e3⟩ := padsS_ok (u := nI q) h1 h2 hk (by unfold iB; rw [nI_toInt (by omega)]; omega)
        exact ⟨0, ms (10 + 24 * k + 0), vp_updL f 0 (sP (yS (cY C) k)).toInt64, c_setY (c_save C) (y_padsS (cY C) k (nI q)), (0, upd ms (10 + 24 * k + 0) (nI q), ma, g_saveV mv ms (cQ C), nI (g_saveN (cQ C)), mb, nI (cL C), mp, mw, mr, mq, mh), Or.inl (k_L_pads_ok l D cy 169 L (mT cy L F (mt, ms, ma, mv, nI (cQ C), mb, nI (cL C), mp, mw, mr, mq, mh)) (by omega) f C k q hwy h3 h5 hk x2 hb), toKW (k_X5_pads_ok l D cy 169 L (cW cy L (oW cy F (vp_updL f 0 (sP (yS (cY C) k)).toInt64)) (c_setY (c_save C) (y_padsS (cY C) k (nI q)))) (by omega) mt ms ma mv (nI (cQ C)) mb (nI (cL C)) mp mw mr mq mh k (cQ C) (nI q) h3 hwf hk q2 (ep.mpr hb)), rfl, fun _ => congrArg Int32.toInt64 (((h1.1 k hk).2.1).symm), WR_set hsv (Int.le_refl _) e2 e3⟩
      · exact ⟨3, 0, f, C, (3, ms, ma, mv, nI (cQ C), mb, nI (cL C), mp, mw, mr, mq, mh), Or.inr (k_L_pads_t3 l hst D cy 169 L (mT cy L F (mt, ms, ma, mv, nI (cQ C), mb, nI (cL C), mp, mw, mr, mq, mh)) (by omega) f C k b hk t1 t2 hb), toKW (k_X5_pads_t3 l D cy 169 L (cW cy L (oW cy F f) C) (by omega) mt ms ma mv (nI (cQ C)) mb (nI (cL C)) mp mw mr mq mh k b hk q2 (fun h => hb (ep.mp h))), rfl, fun h => absurd h (by decide), hw⟩
    · exact ⟨2, 0, f, C, (2, ms, ma, mv, nI (cQ C), mb, nI (cL C), mp, mw, mr, mq, mh), Or.inr (k_L_pads_t2 l hst D cy 169 L (mT cy L F (mt, ms, ma, mv, nI (cQ C), mb, nI (cL C), mp, mw, mr, mq, mh)) (by omega) f C k b hk t1), toKW (k_X5_pads_t2 l D cy 169 L (cW cy L (oW cy F f) C) (by omega) mt ms ma mv (nI (cQ C)) mb (nI (cL C)) mp mw mr mq mh k b hk q2), rfl, fun h => absurd h (by decide), hw⟩
  · exact ⟨1, 0, f, C, (1, ms, ma, mv, nI (cQ C), mb, nI (cL C), mp, mw, mr, mq, mh), Or.inr (k_L_pads_t1 l hst D cy 169 L (mT cy L F (mt, ms, ma, mv, nI (cQ C), mb, nI (cL C), mp, mw, mr, mq, mh)) (by omega) f C a b c0), toKW (k_X5_pads_t1 l D cy 169 L (cW cy L (oW cy F f) C) (by omega) mt ms ma mv (nI (cQ C)) mb (nI (cL C)) mp mw mr mq mh a b p0), rfl, fun h => absurd h (by decide), hw⟩
theorem st_shake (hst : l.stackTraces = false) (a : Int32) (h0 : 0 ≤ m) (hm : m < 900000000) (hw : WR m C M) : LSt l D cy L F yL_shake wsL_shake 8 173 yX5_shake wsX5_shake 5 112 [.int a] (m + 2000) f C M := by
  have hw := hw.mono (show m ≤ m + 2000 by omega)
  obtain ⟨mt, ms, ma, mv, mn, mb, ml, mp, mw, mr, mq, mh⟩ := M
  obtain ⟨h1, h2, h3, h4, h5, h6, h7, h8, h9, h10⟩ := id hw
  have h4 : mn = nI (cQ C) := h4
  subst h4
  have h9 : ml = nI (cL C) := h9
  subst h9
  have h1 : Rel ms (cY C) := h1
  have h10 : mb = cB C ∧ ∀ k, k < cL C → iB 33 126 (cB C k) := h10
  have hwf := h1.wfM h2
  have hwy := h2.wf
  have hsv := save_ok hw
  rcases silo_c a with ⟨p0, k, hk, rfl⟩ | ⟨c0, p0⟩
  · have hN : Nn ms k = sN (yS (cY C) k) := (h1.1 k hk).Nn (h2.1 k hk).1
    have h10 := (h2.1 k hk).1
    by_cases hz : sN (yS (cY C) k) = 0
    · have q : ms (10 + 24 * k + 3) = 0 := by rw [(h1.1 k hk).1, hz]; rfl
      exact ⟨2, 0, f, C, (2, ms, ma, mv, nI (cQ C), mb, nI (cL C), mp, mw, mr, mq, mh), Or.inr (k_L_shake_t2 l hst D cy 169 L (mT cy L F (mt, ms, ma, mv, nI (cQ C), mb, nI (cL C), mp, mw, mr, mq, mh)) (by omega) f C k hk hz), toKW (k_X5_shake_t2 l D cy 169 L (cW cy L (oW cy F f) C) (by omega) mt ms ma mv (nI (cQ C)) mb (nI (cL C)) mp mw mr mq mh k hk q), rfl, fun h => absurd h (by decide), hw⟩
    · obtain ⟨e1, e2, e3⟩ := shake_ok h1 h2 hk (by omega)
      rw [← hN] at e1 e2
      exact ⟨0, g_shR ms k (Nn ms k), vp_updL f 0 (y_shakeR (cY (c_save C)) k).toInt64, c_setY (c_save C) (y_shake (cY (c_save C)) k), (0, g_shS ms k (Nn ms k), ma, g_saveV mv ms (cQ C), nI (g_saveN (cQ C)), mb, nI (cL C), mp, mw, mr, mq, mh), Or.inl (k_L_shake_ok l D cy 169 L (mT cy L F (mt, ms, ma, mv, nI (cQ C), mb, nI (cL C), mp, mw, mr, mq, mh)) (by omega) f C k hwy h3 h5 hk (by omega)), toKW (k_X5_shake_ok l D cy 169 L (cW cy L (oW cy F (vp_updL f 0 (y_shakeR (cY (c_save C)) k).toInt64)) (c_setY (c_save C) (y_shake (cY (c_save C)) k))) (by omega) mt ms ma mv (nI (cQ C)) mb (nI (cL C)) mp mw mr mq mh k (cQ C) h3 hwf hk (by omega)), rfl, fun _ => congrArg Int32.toInt64 (e1.symm), WR_set hsv (Int.le_refl _) e2 e3⟩
  · exact ⟨1, 0, f, C, (1, ms, ma, mv, nI (cQ C), mb, nI (cL C), mp, mw, mr, mq, mh), Or.inr (k_L_shake_t1 l hst D cy 169 L (mT cy L F (mt, ms, ma, mv, nI (cQ C), mb, nI (cL C), mp, mw, mr, mq, mh)) (by omega) f C a c0), toKW (k_X5_shake_t1 l D cy 169 L (cW cy L (oW cy F f) C) (by omega) mt ms ma mv (nI (cQ C)) mb (nI (cL C)) mp mw mr mq mh a p0), rfl, fun h => absurd h (by decide), hw⟩
theorem st_pass (hst : l.stackTraces = false) (a : Int32) (h0 : 0 ≤ m) (hm : m < 900000000) (hw : WR m C M) : LSt l D cy L F yL_pass wsL_pass 8 171 yX5_pass wsX5_pass 6 134 [.int a] (m + 2000) f C M := by
  have hlow := hw
  have hw := hw.mono (show m ≤ m + 2000 by omega)
  obtain ⟨mt, ms, ma, mv, mn, mb, ml, mp, mw, mr, mq, mh⟩ := M
  obtain ⟨h1, h2, h3, h4, h5, h6, h7, h8, h9, h10⟩ := id hw
  have h4 : mn = nI (cQ C) := h4
  subst h4
  have h9 : ml = nI (cL C) := h9
  subst h9
  have h1 : Rel ms (cY C) := h1
  have h10 : mb = cB C ∧ ∀ k, k < cL C → iB 33 126 (cB C k) := h10
  have hwf := h1.wfM h2
  have hwy := h2.wf
  have hsv := save_ok hw
  rcases g_in_c a 1 30 with ⟨q2, t1, t2⟩ | ⟨q2, t1⟩
  · obtain ⟨q, x1, x2, rfl⟩ := g_in_N (x := 1) (y := 30) t1 t2 (by omega) (by omega)
    obtain ⟨e1, e2, e3⟩ := pass_ok h1 (hlow.2.1) (d := q) (by omega)
    exact ⟨0, g_daysR ms q, vp_updL f 0 (y_PR (cY C) q).toInt64, c_setY (c_save C) (y_pass (cY C) q), (0, g_daysS ms q, ma, g_saveV mv ms (cQ C), nI (g_saveN (cQ C)), mb, nI (cL C), mp, mw, mr, mq, mh), Or.inl (k_L_pass_ok l D cy 169 L (mT cy L F (mt, ms, ma, mv, nI (cQ C), mb, nI (cL C), mp, mw, mr, mq, mh)) (by omega) f C q hwy h3 h5 x1 x2), toKW (k_X5_pass_ok l D cy 169 L (cW cy L (oW cy F (vp_updL f 0 (y_PR (cY C) q).toInt64)) (c_setY (c_save C) (y_pass (cY C) q))) (by omega) mt ms ma mv (nI (cQ C)) mb (nI (cL C)) mp mw mr mq mh q (cQ C) h3 hwf x1 x2), rfl, fun _ => congrArg Int32.toInt64 (e1.symm), WR_set hsv (Int.le_refl _) e2 (e3.mono (by omega))⟩
  · exact ⟨1, 0, f, C, (1, ms, ma, mv, nI (cQ C), mb, nI (cL C), mp, mw, mr, mq, mh), Or.inr (k_L_pass_t1 l hst D cy 169 L (mT cy L F (mt, ms, ma, mv, nI (cQ C), mb, nI (cL C), mp, mw, mr, mq, mh)) (by omega) f C a t1), toKW (k_X5_pass_t1 l D cy 169 L (cW cy L (oW cy F f) C) (by omega) mt ms ma mv (nI (cQ C)) mb (nI (cL C)) mp mw mr mq mh a q2), rfl, fun h => absurd h (by decide), hw⟩
theorem st_set (hst : l.stackTraces = false) (a b : Int32) (h0 : 0 ≤ m) (hm : m < 900000000) (hw : WR m C M) : LSt l D cy L F yL_set wsL_set 8 173 yX5_set wsX5_set 2 44 [.int a, .int b] (m + 2000) f C M := by
  have hw := hw.mono (show m ≤ m + 2000 by omega)
  obtain ⟨mt, ms, ma, mv, mn, mb, ml, mp, mw, mr, mq, mh⟩ := M
  obtain ⟨h1, h2, h3, h4, h5, h6, h7, h8, h9, h10⟩ := id hw
  have h4 : mn = nI (cQ C) := h4
  subst h4
  have h9 : ml = nI (cL C) := h9
  subst h9
  have h1 : Rel ms (cY C) := h1
  have h10 : mb = cB C ∧ ∀ k, k < cL C → iB 33 126 (cB C k) := h10
  have hwf := h1.wfM h2
  have hwy := h2.wf
  have hsv := save_ok hw
  rcases g_in_c a 0 3 with ⟨p0, a1, a2⟩ | ⟨p0, a1⟩
  · obtain ⟨i, x1, x2, rfl⟩ := g_in_N (x := 0) (y := 3) a1 a2 (by omega) (by omega)
    have hi : i < 4 := by omega
    have el : g_least (nI i) = z_least i ∧ g_most (nI i) = z_most i := by
      rcases (show i = 0 ∨ i = 1 ∨ i = 2 ∨ i = 3 by omega) with rfl | rfl | rfl | rfl <;> exact ⟨by decide, by decide⟩
    rcases g_in_c b (g_least (nI i)) (g_most (nI i)) with ⟨q2, t1, t2⟩ | ⟨q2, t1⟩
    · rw [el.1] at t1
      rw [el.2] at t2
      have ep := pads_eq h1 4 (by omega)
      by_cases hb : i = 0 ∧ ¬ y_pads (cY C) 4 ≤ b
      · obtain ⟨rfl, hb⟩ := hb
        exact ⟨3, 0, f, C, (3, ms, ma, mv, nI (cQ C), mb, nI (cL C), mp, mw, mr, mq, mh), Or.inr (k_L_set_t3 l hst D cy 169 L (mT cy L F (mt, ms, ma, mv, nI (cQ C), mb, nI (cL C), mp, mw, mr, mq, mh)) (by omega) f C 0 b rfl t1 t2 hb), toKW (k_X5_set_t3 l D cy 169 L (cW cy L (oW cy F f) C) (by omega) mt ms ma mv (nI (cQ C)) mb (nI (cL C)) mp mw mr mq mh 0 b rfl q2 (by rw [ep]; exact hb)), rfl, fun h => absurd h (by decide), hw⟩
      · have hb2 : i = 0 → y_pads (cY C) 4 ≤ b := fun q => by
          rcases Decidable.em (y_pads (cY C) 4 ≤ b) with g | g
          · exact g
          · exact absurd ⟨q, g⟩ hb
        obtain ⟨e1, e2, e3⟩ := setZ_ok h1 h2 hi t1 t2
        exact ⟨0, ms (6 + i), vp_updL f 0 (yZ (cY C) i).toInt64, c_setY (c_save C) (y_setZ (cY C) i b), (0, upd ms (6 + i) b, ma, g_saveV mv ms (cQ C), nI (g_saveN (cQ C)), mb, nI (cL C), mp, mw, mr, mq, mh), Or.inl (k_L_set_ok l D cy 169 L (mT cy L F (mt, ms, ma, mv, nI (cQ C), mb, nI (cL C), mp, mw, mr, mq, mh)) (by omega) f C i b hwy h3 h5 hi t1 t2 hb2), toKW (k_X5_set_ok l D cy 169 L (cW cy L (oW cy F (vp_updL f 0 (yZ (cY C) i).toInt64)) (c_setY (c_save C) (y_setZ (cY C) i b))) (by omega) mt ms ma mv (nI (cQ C)) mb (nI (cL C)) mp mw mr mq mh i (cQ C) b h3 hwf hi q2 (fun q => by rw [ep]; exact hb2 q)), rfl, fun _ => congrArg Int32.toInt64 (e1.symm), WR_set hsv (Int.le_refl _) e2 e3⟩
    · rw [el.1, el.2] at t1
      exact ⟨2, 0, f, C, (2, ms, ma, mv, nI (cQ C), mb, nI (cL C), mp, mw, mr, mq, mh), Or.inr (k_L_set_t2 l hst D cy 169 L (mT cy L F (mt, ms, ma, mv, nI (cQ C), mb, nI (cL C), mp, mw, mr, mq, mh)) (by omega) f C i b hi t1), toKW (k_X5_set_t2 l D cy 169 L (cW cy L (oW cy F f) C) (by omega) mt ms ma mv (nI (cQ C)) mb (nI (cL C)) mp mw mr mq mh (nI i) b p0 q2), rfl, fun h => absurd h (by decide), hw⟩
  · have c : a < 0 ∨ ¬ a < nI 4 := by
      rcases a1 with a1 | a1
      · exact Or.inl a1
      · right
        rw [i_le, i_3] at a1
        rw [i_lt, nI_toInt (by omega)]
        omega
    exact ⟨1, 0, f, C, (1, ms, ma, mv, nI (cQ C), mb, nI (cL C), mp, mw, mr, mq, mh), Or.inr (k_L_set_t1 l hst D cy 169 L (mT cy L F (mt, ms, ma, mv, nI (cQ C), mb, nI (cL C), mp, mw, mr, mq, mh)) (by omega) f C a b c), toKW (k_X5_set_t1 l D cy 169 L (cW cy L (oW cy F f) C) (by omega) mt ms ma mv (nI (cQ C)) mb (nI (cL C)) mp mw mr mq mh a b p0), rfl, fun h => absurd h (by decide), hw⟩
theorem st_append (hst : l.stackTraces = false) (a : Int32) (h0 : 0 ≤ m) (hm : m < 900000000) (hw : WR m C M) : LSt l D cy L F yL_append wsL_append 8 171 yX5_append wsX5_append 1 22 [.int a] (m + 2000) f C M := by
  have hw := hw.mono (show m ≤ m + 2000 by omega)
  obtain ⟨mt, ms, ma, mv, mn, mb, ml, mp, mw, mr, mq, mh⟩ := M
  obtain ⟨h1, h2, h3, h4, h5, h6, h7, h8, h9, h10⟩ := id hw
  have h4 : mn = nI (cQ C) := h4
  subst h4
  have h9 : ml = nI (cL C) := h9
  subst h9
  have h1 : Rel ms (cY C) := h1
  have h10 : mb = cB C ∧ ∀ k, k < cL C → iB 33 126 (cB C k) := h10
  have hwf := h1.wfM h2
  have hwy := h2.wf
  have hsv := save_ok hw
  rcases g_in_c a 33 126 with ⟨q2, t1, t2⟩ | ⟨q2, t1⟩
  · by_cases hz : cL C = 60
    · have kx := k_X5_append_t2 l D cy 169 L (cW cy L (oW cy F f) C) (by omega) mt ms ma mv (nI (cQ C)) mb (nI (cL C)) mp mw mr mq mh a q2
      rw [← hz] at kx
      exact ⟨2, 0, f, C, (2, ms, ma, mv, nI (cQ C), mb, nI (cL C), mp, mw, mr, mq, mh), Or.inr (k_L_append_t2 l hst D cy 169 L (mT cy L F (mt, ms, ma, mv, nI (cQ C), mb, nI (cL C), mp, mw, mr, mq, mh)) (by omega) f C a t1 t2 hz), toKW kx, rfl, fun h => absurd h (by decide), hw⟩
    · have happ : upd mb (cL C) a = upd (cB C) (cL C) a ∧ ∀ k, k < cL C + 1 → iB 33 126 (upd (cB C) (cL C) a k) := ⟨by rw [h10.1], fun k hk => by
        have i33 : (33 : Int32).toInt = 33 := by decide
        have i126 : (126 : Int32).toInt = 126 := by decide
        by_cases q : k = cL C
        · subst q
          rw [pk_us]
          rw [i_lt, i33] at t1
          rw [i_le, i126] at t2
          unfold iB
          omega
        · rw [pk_un q]; exact h10.2 k (by omega)⟩
      exact ⟨0, nI (cL C + 1), vp_updL f 0 (nI (cL C + 1)).toInt64, (cY C, cV C, cM C, cQ C, upd (cB C) (cL C) a, cL C + 1, cR C, cT C, cU C), (0, ms, ma, mv, nI (cQ C), upd mb (cL C) a, nI (cL C + 1), mp, mw, mr, mq, mh), Or.inl (k_L_append_ok l D cy 169 L (mT cy L F (mt, ms, ma, mv, nI (cQ C), mb, nI (cL C), mp, mw, mr, mq, mh)) (by omega) f C a (by omega) t1 t2), toKW (k_X5_append_ok l D cy 169 L (cW cy L (oW cy F (vp_updL f 0 (nI (cL C + 1)).toInt64)) (cY C, cV C, cM C, cQ C, upd (cB C) (cL C) a, cL C + 1, cR C, cT C, cU C)) (by omega) mt ms ma mv (nI (cQ C)) mb (nI (cL C)) mp mw mr mq mh (cL C) a (by omega) q2), rfl, fun _ => congrArg Int32.toInt64 (rfl), ⟨h1, h2, h3, rfl, h5, h6, h7, by show cL C + 1 ≤ 60; omega, rfl, happ⟩⟩
  · exact ⟨1, 0, f, C, (1, ms, ma, mv, nI (cQ C), mb, nI (cL C), mp, mw, mr, mq, mh), Or.inr (k_L_append_t1 l hst D cy 169 L (mT cy L F (mt, ms, ma, mv, nI (cQ C), mb, nI (cL C), mp, mw, mr, mq, mh)) (by omega) f C a t1), toKW (k_X5_append_t1 l D cy 169 L (cW cy L (oW cy F f) C) (by omega) mt ms ma mv (nI (cQ C)) mb (nI (cL C)) mp mw mr mq mh a q2), rfl, fun h => absurd h (by decide), hw⟩
theorem st_undo (hst : l.stackTraces = false) (h0 : 0 ≤ m) (hm : m < 900000000) (hw : WR m C M) : LSt l D cy L F yL_undo wsL_undo 8 170 yX5_undo wsX5_undo 1 21 [] (m + 2000) f C M := by
  have hw := hw.mono (show m ≤ m + 2000 by omega)
  obtain ⟨mt, ms, ma, mv, mn, mb, ml, mp, mw, mr, mq, mh⟩ := M
  obtain ⟨h1, h2, h3, h4, h5, h6, h7, h8, h9, h10⟩ := id hw
  have h4 : mn = nI (cQ C) := h4
  subst h4
  have h9 : ml = nI (cL C) := h9
  subst h9
  have h1 : Rel ms (cY C) := h1
  have h10 : mb = cB C ∧ ∀ k, k < cL C → iB 33 126 (cB C k) := h10
  have hwf := h1.wfM h2
  have hwy := h2.wf
  have hsv := save_ok hw
  by_cases hz : cQ C = 0
  · have kx := k_X5_undo_no l D cy 169 L (cW cy L (oW cy F f) C) (by omega) mt ms ma mv (nI (cQ C)) mb (nI (cL C)) mp mw mr mq mh
    have ez : (0 : Int32) = nI (cQ C) := by rw [hz]; rfl
    rw [ez] at kx
    exact ⟨1, 0, f, C, (1, ms, ma, mv, nI (cQ C), mb, nI (cL C), mp, mw, mr, mq, mh), Or.inr (k_L_undo_no l hst D cy 169 L (mT cy L F (mt, ms, ma, mv, nI (cQ C), mb, nI (cL C), mp, mw, mr, mq, mh)) (by omega) f C hz), toKW (by rw [← ez] at kx ⊢; exact kx), rfl, fun h => absurd h (by decide), hw⟩
  · have kx := k_X5_undo_ok l D cy 169 L (cW cy L (oW cy F (vp_updL f 0 (nI (cQ C - 1)).toInt64)) (y_like (cY C) (cV C (cM C (cQ C - 1))), cV C, cM C, cQ C - 1, cB C, cL C, cR C, cT C, cU C)) (by omega) mt ms ma mv (nI (cQ C)) mb (nI (cL C)) mp mw mr mq mh (cQ C - 1) (by omega)
    rw [show cQ C - 1 + 1 = cQ C by omega] at kx
    exact ⟨0, nI (cQ C - 1), vp_updL f 0 (nI (cQ C - 1)).toInt64, _, (0, cpN ms mv (0) (118 * (cQ C - 1)) 118, ma, mv, nI (cQ C - 1), mb, nI (cL C), mp, mw, mr, mq, mh), Or.inl (k_L_undo_ok l D cy 169 L (mT cy L F (mt, ms, ma, mv, nI (cQ C), mb, nI (cL C), mp, mw, mr, mq, mh)) (by omega) f C (by omega) h3 h5), toKW kx, rfl, fun _ => rfl, undo_ok hw (by omega)⟩
theorem st_silo (hst : l.stackTraces = false) (a b : Int32) (h0 : 0 ≤ m) (hm : m < 900000000) (hw : WR m C M) : LSt l D cy L F yL_silo wsL_silo 8 173 yX5_silo wsX5_silo 5 111 [.int a, .int b] (m + 2000) f C M := by
  have hw := hw.mono (show m ≤ m + 2000 by omega)
  obtain ⟨mt, ms, ma, mv, mn, mb, ml, mp, mw, mr, mq, mh⟩ := M
  obtain ⟨h1, h2, h3, h4, h5, h6, h7, h8, h9, h10⟩ := id hw
  have h4 : mn = nI (cQ C) := h4
  subst h4
  have h9 : ml = nI (cL C) := h9
  subst h9
  have h1 : Rel ms (cY C) := h1
  have h10 : mb = cB C ∧ ∀ k, k < cL C → iB 33 126 (cB C k) := h10
  have hwf := h1.wfM h2
  have hwy := h2.wf
  have hsv := save_ok hw
  rcases silo_c a with ⟨p0, k, hk, rfl⟩ | ⟨c0, p0⟩
  · have hN : Nn ms k = sN (yS (cY C) k) := (h1.1 k hk).Nn (h2.1 k hk).1
    rcases g_in_c b 0 5 with ⟨q2, t1, t2⟩ | ⟨q2, t1⟩
    · obtain ⟨q, x1, x2, rfl⟩ := g_in_N (x := 0) (y := 5) t1 t2 (by omega) (by omega)
      have hv : nI q = 0 ∨ nI q = 1 ∨ nI q = 2 ∨ nI q = 3 ∨ nI q = 4 ∨ nI q = 5 := by
        rcases (show q = 0 ∨ q = 1 ∨ q = 2 ∨ q = 3 ∨ q = 4 ∨ q = 5 by omega) with rfl | rfl | rfl | rfl | rfl | rfl <;> decide
      have e := tellS_eq h1 h2 hk (nI q)
      rw [← hN] at e
      exact ⟨0, g_tellS ms k (Nn ms k) (nI q), vp_updL f 0 (y_tellS (cY C) k (nI q)).toInt64, C, (0, ms, ma, mv, nI (cQ C), mb, nI (cL C), mp, mw, mr, mq, mh), Or.inl (k_L_silo_ok l D cy 169 L (mT cy L F (mt, ms, ma, mv, nI (cQ C), mb, nI (cL C), mp, mw, mr, mq, mh)) (by omega) f C k (nI q) hwy hk hv), toKW (k_X5_silo_ok l D cy 169 L (cW cy L (oW cy F (vp_updL f 0 (y_tellS (cY C) k (nI q)).toInt64)) C) (by omega) mt ms ma mv (nI (cQ C)) mb (nI (cL C)) mp mw mr mq mh k (nI q) hwf hk q2), rfl, fun _ => congrArg Int32.toInt64 (e.symm), hw⟩
    · have hv : ∀ x : Int32, (x = 0 ∨ x = 1 ∨ x = 2 ∨ x = 3 ∨ x = 4 ∨ x = 5) → ¬ b = x := fun x hx e => by
        rw [e] at t1
        rcases hx with rfl | rfl | rfl | rfl | rfl | rfl <;> exact absurd t1 (by decide)
      exact ⟨2, 0, f, C, (2, ms, ma, mv, nI (cQ C), mb, nI (cL C), mp, mw, mr, mq, mh), Or.inr (k_L_silo_t2 l hst D cy 169 L (mT cy L F (mt, ms, ma, mv, nI (cQ C), mb, nI (cL C), mp, mw, mr, mq, mh)) (by omega) f C k b hk (hv 0 (by decide)) (hv 1 (by decide)) (hv 2 (by decide)) (hv 3 (by decide)) (hv 4 (by decide)) (hv 5 (by decide))), toKW (k_X5_silo_t2 l D cy 169 L (cW cy L (oW cy F f) C) (by omega) mt ms ma mv (nI (cQ C)) mb (nI (cL C)) mp mw mr mq mh k b hk q2), rfl, fun h => absurd h (by decide), hw⟩
  · exact ⟨1, 0, f, C, (1, ms, ma, mv, nI (cQ C), mb, nI (cL C), mp, mw, mr, mq, mh), Or.inr (k_L_silo_t1 l hst D cy 169 L (mT cy L F (mt, ms, ma, mv, nI (cQ C), mb, nI (cL C), mp, mw, mr, mq, mh)) (by omega) f C a b c0), toKW (k_X5_silo_t1 l D cy 169 L (cW cy L (oW cy F f) C) (by omega) mt ms ma mv (nI (cQ C)) mb (nI (cL C)) mp mw mr mq mh a b p0), rfl, fun h => absurd h (by decide), hw⟩
theorem st_layer (hst : l.stackTraces = false) (a b t : Int32) (h0 : 0 ≤ m) (hm : m < 900000000) (hw : WR m C M) : LSt l D cy L F yL_layer wsL_layer 8 174 yX5_layer wsX5_layer 4 90 [.int a, .int b, .int t] (m + 2000) f C M := by
  have hw := hw.mono (show m ≤ m + 2000 by omega)
  obtain ⟨mt, ms, ma, mv, mn, mb, ml, mp, mw, mr, mq, mh⟩ := M
  obtain ⟨h1, h2, h3, h4, h5, h6, h7, h8, h9, h10⟩ := id hw
  have h4 : mn = nI (cQ C) := h4
  subst h4
  have h9 : ml = nI (cL C) := h9
  subst h9
  have h1 : Rel ms (cY C) := h1
  have h10 : mb = cB C ∧ ∀ k, k < cL C → iB 33 126 (cB C k) := h10
  have hwf := h1.wfM h2
  have hwy := h2.wf
  have hsv := save_ok hw
  rcases silo_c a with ⟨p0, k, hk, rfl⟩ | ⟨c0, p0⟩
  · have hN : Nn ms k = sN (yS (cY C) k) := (h1.1 k hk).Nn (h2.1 k hk).1
    have hn10 := (h2.1 k hk).1
    have ems : (ms (10 + 24 * k + 3) - 1).toInt = (sN (yS (cY C) k) : Int) - 1 := by
      rw [(h1.1 k hk).1, i_sub (by rw [nI_toInt (by omega), i_1]; omega) (by rw [nI_toInt (by omega), i_1]; omega), nI_toInt (by omega), i_1]
    by_cases hl : 0 ≤ b.toInt ∧ b.toInt < (sN (yS (cY C) k) : Int)
    · obtain ⟨j, hj, rfl⟩ := nI_ofR (n := sN (yS (cY C) k)) hl.1 hl.2 (by omega)
      have q1 : g_in (nI j) 0 (ms (10 + 24 * k + 3) - 1) = 1 := g_in_1 (by rw [i_lt, i_0]; omega) (by rw [i_lt, ems]; omega)
      rcases g_in_c t 0 2 with ⟨q2, t1, t2⟩ | ⟨q2, t1⟩
      · obtain ⟨q, x1, x2, rfl⟩ := g_in_N (x := 0) (y := 2) t1 t2 (by omega) (by omega)
        have hv : nI q = 0 ∨ nI q = 1 ∨ nI q = 2 := by
          rcases (show q = 0 ∨ q = 1 ∨ q = 2 by omega) with rfl | rfl | rfl <;> decide
        have e := tellL_eq h1 hk hj (nI q)
        exact ⟨0, g_tellL ms k j (nI q), vp_updL f 0 (y_tellL (cY C) k j (nI q)).toInt64, C, (0, ms, ma, mv, nI (cQ C), mb, nI (cL C), mp, mw, mr, mq, mh), Or.inl (k_L_layer_ok l D cy 169 L (mT cy L F (mt, ms, ma, mv, nI (cQ C), mb, nI (cL C), mp, mw, mr, mq, mh)) (by omega) f C k j (nI q) hwy hk hj hv), toKW (k_X5_layer_ok l D cy 169 L (cW cy L (oW cy F (vp_updL f 0 (y_tellL (cY C) k j (nI q)).toInt64)) C) (by omega) mt ms ma mv (nI (cQ C)) mb (nI (cL C)) mp mw mr mq mh k j (nI q) hwf hk (by omega) q2), rfl, fun _ => congrArg Int32.toInt64 (e.symm), hw⟩
      · have hv : ∀ x : Int32, (x = 0 ∨ x = 1 ∨ x = 2) → ¬ t = x := fun x hx e => by
          rw [e] at t1
          rcases hx with rfl | rfl | rfl <;> exact absurd t1 (by decide)
        exact ⟨2, 0, f, C, (2, ms, ma, mv, nI (cQ C), mb, nI (cL C), mp, mw, mr, mq, mh), Or.inr (k_L_layer_t2 l hst D cy 169 L (mT cy L F (mt, ms, ma, mv, nI (cQ C), mb, nI (cL C), mp, mw, mr, mq, mh)) (by omega) f C k j t hk hj hn10 (hv 0 (by decide)) (hv 1 (by decide)) (hv 2 (by decide))), toKW (k_X5_layer_t2 l D cy 169 L (cW cy L (oW cy F f) C) (by omega) mt ms ma mv (nI (cQ C)) mb (nI (cL C)) mp mw mr mq mh k (nI j) t hk q1 q2), rfl, fun h => absurd h (by decide), hw⟩
    · have c : b < 0 ∨ ¬ b < nI (sN (yS (cY C) k)) := by
        rw [i_lt, i_lt, i_0, nI_toInt (by omega)]
        omega
      have q1 : g_in b 0 (ms (10 + 24 * k + 3) - 1) = 0 := by rw [g_in_I, i_0, ems]; omega
      exact ⟨1, 0, f, C, (1, ms, ma, mv, nI (cQ C), mb, nI (cL C), mp, mw, mr, mq, mh), Or.inr (k_L_layer_t1b l hst D cy 169 L (mT cy L F (mt, ms, ma, mv, nI (cQ C), mb, nI (cL C), mp, mw, mr, mq, mh)) (by omega) f C k b t hk c), toKW (k_X5_layer_t1b l D cy 169 L (cW cy L (oW cy F f) C) (by omega) mt ms ma mv (nI (cQ C)) mb (nI (cL C)) mp mw mr mq mh k b t hk q1), rfl, fun h => absurd h (by decide), hw⟩
  · exact ⟨1, 0, f, C, (1, ms, ma, mv, nI (cQ C), mb, nI (cL C), mp, mw, mr, mq, mh), Or.inr (k_L_layer_t1 l hst D cy 169 L (mT cy L F (mt, ms, ma, mv, nI (cQ C), mb, nI (cL C), mp, mw, mr, mq, mh)) (by omega) f C a b t c0), toKW (k_X5_layer_t1 l D cy 169 L (cW cy L (oW cy F f) C) (by omega) mt ms ma mv (nI (cQ C)) mb (nI (cL C)) mp mw mr mq mh a b t p0), rfl, fun h => absurd h (by decide), hw⟩
theorem st_shipOf (hst : l.stackTraces = false) (a b : Int32) (h0 : 0 ≤ m) (hm : m < 900000000) (hw : WR m C M) : LSt l D cy L F yL_shipOf wsL_shipOf 8 172 yX5_shipOf wsX5_shipOf 2 42 [.int a, .int b] (m + 2000) f C M := by
  have hw := hw.mono (show m ≤ m + 2000 by omega)
  obtain ⟨mt, ms, ma, mv, mn, mb, ml, mp, mw, mr, mq, mh⟩ := M
  obtain ⟨h1, h2, h3, h4, h5, h6, h7, h8, h9, h10⟩ := id hw
  have h4 : mn = nI (cQ C) := h4
  subst h4
  have h9 : ml = nI (cL C) := h9
  subst h9
  have h1 : Rel ms (cY C) := h1
  have h10 : mb = cB C ∧ ∀ k, k < cL C → iB 33 126 (cB C k) := h10
  have hwf := h1.wfM h2
  have hwy := h2.wf
  have hsv := save_ok hw
  rcases ship_c a with ⟨p0, j, hj, rfl⟩ | ⟨c0, p0⟩
  · rcases g_in_c b 0 1 with ⟨q2, t1, t2⟩ | ⟨q2, t1⟩
    · obtain ⟨q, x1, x2, rfl⟩ := g_in_N (x := 0) (y := 1) t1 t2 (by omega) (by omega)
      have hv : nI q = 0 ∨ nI q = 1 := by
        rcases (show q = 0 ∨ q = 1 by omega) with rfl | rfl <;> decide
      have e := tellH_eq (i := q) h1 hj (by omega)
      exact ⟨0, ms (106 + 2 * j + q), vp_updL f 0 (y_tellH (cY C) j (nI q)).toInt64, C, (0, ms, ma, mv, nI (cQ C), mb, nI (cL C), mp, mw, mr, mq, mh), Or.inl (k_L_shipOf_ok l D cy 169 L (mT cy L F (mt, ms, ma, mv, nI (cQ C), mb, nI (cL C), mp, mw, mr, mq, mh)) (by omega) f C j (nI q) hj hv), toKW (k_X5_shipOf_ok l D cy 169 L (cW cy L (oW cy F (vp_updL f 0 (y_tellH (cY C) j (nI q)).toInt64)) C) (by omega) mt ms ma mv (nI (cQ C)) mb (nI (cL C)) mp mw mr mq mh j q hj (by omega)), rfl, fun _ => congrArg Int32.toInt64 (e.symm), hw⟩
    · have hv : ∀ x : Int32, (x = 0 ∨ x = 1) → ¬ b = x := fun x hx e => by
        rw [e] at t1
        rcases hx with rfl | rfl <;> exact absurd t1 (by decide)
      exact ⟨2, 0, f, C, (2, ms, ma, mv, nI (cQ C), mb, nI (cL C), mp, mw, mr, mq, mh), Or.inr (k_L_shipOf_t2 l hst D cy 169 L (mT cy L F (mt, ms, ma, mv, nI (cQ C), mb, nI (cL C), mp, mw, mr, mq, mh)) (by omega) f C j b hj (hv 0 (by decide)) (hv 1 (by decide))), toKW (k_X5_shipOf_t2 l D cy 169 L (cW cy L (oW cy F f) C) (by omega) mt ms ma mv (nI (cQ C)) mb (nI (cL C)) mp mw mr mq mh j b hj q2), rfl, fun h => absurd h (by decide), hw⟩
  · exact ⟨1, 0, f, C, (1, ms, ma, mv, nI (cQ C), mb, nI (cL C), mp, mw, mr, mq, mh), Or.inr (k_L_shipOf_t1 l hst D cy 169 L (mT cy L F (mt, ms, ma, mv, nI (cQ C), mb, nI (cL C), mp, mw, mr, mq, mh)) (by omega) f C a b c0), toKW (k_X5_shipOf_t1 l D cy 169 L (cW cy L (oW cy F f) C) (by omega) mt ms ma mv (nI (cQ C)) mb (nI (cL C)) mp mw mr mq mh a b p0), rfl, fun h => absurd h (by decide), hw⟩
theorem st_count (hst : l.stackTraces = false) (a : Int32) (h0 : 0 ≤ m) (hm : m < 900000000) (hw : WR m C M) : LSt l D cy L F yL_count wsL_count 8 171 yX5_count wsX5_count 5 111 [.int a] (m + 2000) f C M := by
  have hw := hw.mono (show m ≤ m + 2000 by omega)
  obtain ⟨mt, ms, ma, mv, mn, mb, ml, mp, mw, mr, mq, mh⟩ := M
  obtain ⟨h1, h2, h3, h4, h5, h6, h7, h8, h9, h10⟩ := id hw
  have h4 : mn = nI (cQ C) := h4
  subst h4
  have h9 : ml = nI (cL C) := h9
  subst h9
  have h1 : Rel ms (cY C) := h1
  have h10 : mb = cB C ∧ ∀ k, k < cL C → iB 33 126 (cB C k) := h10
  have hwf := h1.wfM h2
  have hwy := h2.wf
  have hsv := save_ok hw
  rcases g_in_c a 0 14 with ⟨q2, t1, t2⟩ | ⟨q2, t1⟩
  · obtain ⟨q, x1, x2, rfl⟩ := g_in_N (x := 0) (y := 14) t1 t2 (by omega) (by omega)
    have hv : nI q = 0 ∨ nI q = 1 ∨ nI q = 2 ∨ nI q = 3 ∨ nI q = 4 ∨ nI q = 5 ∨ nI q = 6 ∨ nI q = 7 ∨ nI q = 8 ∨ nI q = 9 ∨ nI q = 10 ∨ nI q = 11 ∨ nI q = 12 ∨ nI q = 13 ∨ nI q = 14 := by
      rcases (show q = 0 ∨ q = 1 ∨ q = 2 ∨ q = 3 ∨ q = 4 ∨ q = 5 ∨ q = 6 ∨ q = 7 ∨ q = 8 ∨ q = 9 ∨ q = 10 ∨ q = 11 ∨ q = 12 ∨ q = 13 ∨ q = 14 by omega) with rfl | rfl | rfl | rfl | rfl | rfl | rfl | rfl | rfl | rfl | rfl | rfl | rfl | rfl | rfl <;> decide
    have e := count_eq h1 h2 (nI q)
    exact ⟨0, g_count ms (nI (cQ C)) (nI q), vp_updL f 0 (c_count C (nI q)).toInt64, C, (0, ms, ma, mv, nI (cQ C), mb, nI (cL C), mp, mw, mr, mq, mh), Or.inl (k_L_count_ok l D cy 169 L (mT cy L F (mt, ms, ma, mv, nI (cQ C), mb, nI (cL C), mp, mw, mr, mq, mh)) (by omega) f C (nI q) hwy hv), toKW (k_X5_count_ok l D cy 169 L (cW cy L (oW cy F (vp_updL f 0 (c_count C (nI q)).toInt64)) C) (by omega) mt ms ma mv (nI (cQ C)) mb (nI (cL C)) mp mw mr mq mh (nI q) hwf hv), rfl, fun _ => congrArg Int32.toInt64 (e.symm), hw⟩
  · have hv : ∀ x : Int32, (x = 0 ∨ x = 1 ∨ x = 2 ∨ x = 3 ∨ x = 4 ∨ x = 5 ∨ x = 6 ∨ x = 7 ∨ x = 8 ∨ x = 9 ∨ x = 10 ∨ x = 11 ∨ x = 12 ∨ x = 13 ∨ x = 14) → ¬ a = x := fun x hx e => by
      rw [e] at t1
      rcases hx with rfl | rfl | rfl | rfl | rfl | rfl | rfl | rfl | rfl | rfl | rfl | rfl | rfl | rfl | rfl <;> exact absurd t1 (by decide)
    exact ⟨1, 0, f, C, (1, ms, ma, mv, nI (cQ C), mb, nI (cL C), mp, mw, mr, mq, mh), Or.inr (k_L_count_t1 l hst D cy 169 L (mT cy L F (mt, ms, ma, mv, nI (cQ C), mb, nI (cL C), mp, mw, mr, mq, mh)) (by omega) f C a (hv 0 (by decide)) (hv 1 (by decide)) (hv 2 (by decide)) (hv 3 (by decide)) (hv 4 (by decide)) (hv 5 (by decide)) (hv 6 (by decide)) (hv 7 (by decide)) (hv 8 (by decide)) (hv 9 (by decide)) (hv 10 (by decide)) (hv 11 (by decide)) (hv 12 (by decide)) (hv 13 (by decide)) (hv 14 (by decide))), toKW (k_X5_count_t1 l D cy 169 L (cW cy L (oW cy F f) C) (by omega) mt ms ma mv (nI (cQ C)) mb (nI (cL C)) mp mw mr mq mh a q2), rfl, fun h => absurd h (by decide), hw⟩
theorem st_whyNot (hst : l.stackTraces = false) (a b : Int32) (h0 : 0 ≤ m) (hm : m < 900000000) (hw : WR m C M) : LSt l D cy L F yL_whyNot wsL_whyNot 8 173 yX5_whyNot wsX5_whyNot 5 111 [.int a, .int b] (m + 2000) f C M := by
  have hw := hw.mono (show m ≤ m + 2000 by omega)
  obtain ⟨mt, ms, ma, mv, mn, mb, ml, mp, mw, mr, mq, mh⟩ := M
  obtain ⟨h1, h2, h3, h4, h5, h6, h7, h8, h9, h10⟩ := id hw
  have h4 : mn = nI (cQ C) := h4
  subst h4
  have h9 : ml = nI (cL C) := h9
  subst h9
  have h1 : Rel ms (cY C) := h1
  have h10 : mb = cB C ∧ ∀ k, k < cL C → iB 33 126 (cB C k) := h10
  have hwf := h1.wfM h2
  have hwy := h2.wf
  have hsv := save_ok hw
  rcases silo_c a with ⟨p0, k, hk, rfl⟩ | ⟨c0, p0⟩
  · rcases ship_c b with ⟨q0, j, hj, rfl⟩ | ⟨c0, q0⟩
    · have e := reason_eq h1 h2 hk hj
      exact ⟨0, g_reason ms k j, vp_updL f 0 (y_why (cY C) k j).toInt64, C, (0, ms, ma, mv, nI (cQ C), mb, nI (cL C), mp, mw, mr, mq, mh), Or.inl (k_L_whyNot_ok l D cy 169 L (mT cy L F (mt, ms, ma, mv, nI (cQ C), mb, nI (cL C), mp, mw, mr, mq, mh)) (by omega) f C k j hwy hk hj), toKW (k_X5_whyNot_ok l D cy 169 L (cW cy L (oW cy F (vp_updL f 0 (y_why (cY C) k j).toInt64)) C) (by omega) mt ms ma mv (nI (cQ C)) mb (nI (cL C)) mp mw mr mq mh k j hk hj), rfl, fun _ => congrArg Int32.toInt64 (e.symm), hw⟩
    · exact ⟨1, 0, f, C, (1, ms, ma, mv, nI (cQ C), mb, nI (cL C), mp, mw, mr, mq, mh), Or.inr (k_L_whyNot_t1 l hst D cy 169 L (mT cy L F (mt, ms, ma, mv, nI (cQ C), mb, nI (cL C), mp, mw, mr, mq, mh)) (by omega) f C (nI k) b (Or.inr c0)), toKW (k_X5_whyNot_t1 l D cy 169 L (cW cy L (oW cy F f) C) (by omega) mt ms ma mv (nI (cQ C)) mb (nI (cL C)) mp mw mr mq mh (nI k) b (Or.inr q0)), rfl, fun h => absurd h (by decide), hw⟩
  · exact ⟨1, 0, f, C, (1, ms, ma, mv, nI (cQ C), mb, nI (cL C), mp, mw, mr, mq, mh), Or.inr (k_L_whyNot_t1 l hst D cy 169 L (mT cy L F (mt, ms, ma, mv, nI (cQ C), mb, nI (cL C), mp, mw, mr, mq, mh)) (by omega) f C a b (Or.inl c0)), toKW (k_X5_whyNot_t1 l D cy 169 L (cW cy L (oW cy F f) C) (by omega) mt ms ma mv (nI (cQ C)) mb (nI (cL C)) mp mw mr mq mh a b (Or.inl p0)), rfl, fun h => absurd h (by decide), hw⟩
theorem st_ifFlowed (hst : l.stackTraces = false) (a b t u : Int32) (h0 : 0 ≤ m) (hm : m < 900000000) (hw : WR m C M) : LSt l D cy L F yL_ifFlowed wsL_ifFlowed 8 174 yX5_ifFlowed wsX5_ifFlowed 7 164 [.int a, .int b, .int t, .int u] (m + 2000) f C M := by
  have hw := hw.mono (show m ≤ m + 2000 by omega)
  obtain ⟨mt, ms, ma, mv, mn, mb, ml, mp, mw, mr, mq, mh⟩ := M
  obtain ⟨h1, h2, h3, h4, h5, h6, h7, h8, h9, h10⟩ := id hw
  have h4 : mn = nI (cQ C) := h4
  subst h4
  have h9 : ml = nI (cL C) := h9
  subst h9
  have h1 : Rel ms (cY C) := h1
  have h10 : mb = cB C ∧ ∀ k, k < cL C → iB 33 126 (cB C k) := h10
  have hwf := h1.wfM h2
  have hwy := h2.wf
  have hsv := save_ok hw
  rcases silo_c a with ⟨p0, k, hk, rfl⟩ | ⟨c0, p0⟩
  · rcases ship_c b with ⟨q0, j, hj, rfl⟩ | ⟨c0, q0⟩
    · rcases g_in_c t 1 24 with ⟨q2, t1, t2⟩ | ⟨q2, t1⟩
      · rcases g_in_c u 0 4 with ⟨q3, u1, u2⟩ | ⟨q3, u1⟩
        · obtain ⟨q, x1, x2, rfl⟩ := g_in_N (x := 1) (y := 24) t1 t2 (by omega) (by omega)
          have e := would_eq (u := u) h1 h2 hk hj (by rw [i_lt, i_0] at u1; rw [i_le, i_4] at u2; unfold iB; omega) q
          exact ⟨0, g_hoursR (upd ms (10 + 24 * k + 0) u) k j q, vp_updL f 0 (c_ifR C k j q u).toInt64, c_ifS C k j q u, (0, ms, cpN ma ms (0) (0) 118, mv, nI (cQ C), mb, nI (cL C), mp, mw, mr, mq, mh), Or.inl (k_L_ifFlowed_ok l D cy 169 L (mT cy L F (mt, ms, ma, mv, nI (cQ C), mb, nI (cL C), mp, mw, mr, mq, mh)) (by omega) f C k j q u hwy hk hj x1 x2 u1 u2), toKW (k_X5_ifFlowed_ok l D cy 169 L (cW cy L (oW cy F (vp_updL f 0 (c_ifR C k j q u).toInt64)) (c_ifS C k j q u)) (by omega) mt ms ma mv (nI (cQ C)) mb (nI (cL C)) mp mw mr mq mh k j q u hwf hk hj x1 x2 q3), rfl, fun _ => congrArg Int32.toInt64 (e.symm), hw⟩
        · exact ⟨2, 0, f, C, (2, ms, ma, mv, nI (cQ C), mb, nI (cL C), mp, mw, mr, mq, mh), Or.inr (k_L_ifFlowed_t2 l hst D cy 169 L (mT cy L F (mt, ms, ma, mv, nI (cQ C), mb, nI (cL C), mp, mw, mr, mq, mh)) (by omega) f C k j t u hk hj (Or.inr (Or.inr u1))), toKW (k_X5_ifFlowed_t2 l D cy 169 L (cW cy L (oW cy F f) C) (by omega) mt ms ma mv (nI (cQ C)) mb (nI (cL C)) mp mw mr mq mh k j t u hk hj (Or.inr q3)), rfl, fun h => absurd h (by decide), hw⟩
      · have c : t < 1 ∨ 24 < t ∨ u < 0 ∨ ¬ u ≤ 4 := by
          rcases t1 with t1 | t1
          · exact Or.inl t1
          · refine Or.inr (Or.inl ?_)
            rw [i_le] at t1
            rw [i_lt]
            omega
        exact ⟨2, 0, f, C, (2, ms, ma, mv, nI (cQ C), mb, nI (cL C), mp, mw, mr, mq, mh), Or.inr (k_L_ifFlowed_t2 l hst D cy 169 L (mT cy L F (mt, ms, ma, mv, nI (cQ C), mb, nI (cL C), mp, mw, mr, mq, mh)) (by omega) f C k j t u hk hj c), toKW (k_X5_ifFlowed_t2 l D cy 169 L (cW cy L (oW cy F f) C) (by omega) mt ms ma mv (nI (cQ C)) mb (nI (cL C)) mp mw mr mq mh k j t u hk hj (Or.inl q2)), rfl, fun h => absurd h (by decide), hw⟩
    · exact ⟨1, 0, f, C, (1, ms, ma, mv, nI (cQ C), mb, nI (cL C), mp, mw, mr, mq, mh), Or.inr (k_L_ifFlowed_t1 l hst D cy 169 L (mT cy L F (mt, ms, ma, mv, nI (cQ C), mb, nI (cL C), mp, mw, mr, mq, mh)) (by omega) f C (nI k) b t u (Or.inr c0)), toKW (k_X5_ifFlowed_t1 l D cy 169 L (cW cy L (oW cy F f) C) (by omega) mt ms ma mv (nI (cQ C)) mb (nI (cL C)) mp mw mr mq mh (nI k) b t u (Or.inr q0)), rfl, fun h => absurd h (by decide), hw⟩
  · exact ⟨1, 0, f, C, (1, ms, ma, mv, nI (cQ C), mb, nI (cL C), mp, mw, mr, mq, mh), Or.inr (k_L_ifFlowed_t1 l hst D cy 169 L (mT cy L F (mt, ms, ma, mv, nI (cQ C), mb, nI (cL C), mp, mw, mr, mq, mh)) (by omega) f C a b t u (Or.inl c0)), toKW (k_X5_ifFlowed_t1 l D cy 169 L (cW cy L (oW cy F f) C) (by omega) mt ms ma mv (nI (cQ C)) mb (nI (cL C)) mp mw mr mq mh a b t u (Or.inl p0)), rfl, fun h => absurd h (by decide), hw⟩
theorem st_shakesNeeded (hst : l.stackTraces = false) (a : Int32) (h0 : 0 ≤ m) (hm : m < 900000000) (hw : WR m C M) : LSt l D cy L F yL_shakesNeeded wsL_shakesNeeded 8 171 yX5_shakesNeeded wsX5_shakesNeeded 5 110 [.int a] (m + 2000) f C M := by
  have hw := hw.mono (show m ≤ m + 2000 by omega)
  obtain ⟨mt, ms, ma, mv, mn, mb, ml, mp, mw, mr, mq, mh⟩ := M
  obtain ⟨h1, h2, h3, h4, h5, h6, h7, h8, h9, h10⟩ := id hw
  have h4 : mn = nI (cQ C) := h4
  subst h4
  have h9 : ml = nI (cL C) := h9
  subst h9
  have h1 : Rel ms (cY C) := h1
  have h10 : mb = cB C ∧ ∀ k, k < cL C → iB 33 126 (cB C k) := h10
  have hwf := h1.wfM h2
  have hwy := h2.wf
  have hsv := save_ok hw
  rcases silo_c a with ⟨p0, k, hk, rfl⟩ | ⟨c0, p0⟩
  · have hN : Nn ms k = sN (yS (cY C) k) := (h1.1 k hk).Nn (h2.1 k hk).1
    have hn1 := arch_n (h2.1 k hk)
    have hn2 : 1 ≤ Nn ms k ∨ ms (10 + 24 * k + 1) = 2 ∨ ms (10 + 24 * k + 1) = 0 := by rw [hN, (h1.1 k hk).2.2.1]; exact hn1
    have e := brk_eq (h1.1 k hk) (h2.1 k hk) (h1.2.2.1 3 (by omega))
    rw [← hN] at e
    exact ⟨0, g_need ms k (Nn ms k), vp_updL f 0 (c_brk (yZ (cY C)) (yS (cY C) k)).toInt64, C, (0, ms, ma, mv, nI (cQ C), mb, nI (cL C), mp, mw, mr, mq, mh), Or.inl (k_L_shakesNeeded_ok l D cy 169 L (mT cy L F (mt, ms, ma, mv, nI (cQ C), mb, nI (cL C), mp, mw, mr, mq, mh)) (by omega) f C k hwy hk hn1), toKW (k_X5_shakesNeeded_ok l D cy 169 L (cW cy L (oW cy F (vp_updL f 0 (c_brk (yZ (cY C)) (yS (cY C) k)).toInt64)) C) (by omega) mt ms ma mv (nI (cQ C)) mb (nI (cL C)) mp mw mr mq mh k hwf hk hn2), rfl, fun _ => congrArg Int32.toInt64 (e.symm), hw⟩
  · exact ⟨1, 0, f, C, (1, ms, ma, mv, nI (cQ C), mb, nI (cL C), mp, mw, mr, mq, mh), Or.inr (k_L_shakesNeeded_t1 l hst D cy 169 L (mT cy L F (mt, ms, ma, mv, nI (cQ C), mb, nI (cL C), mp, mw, mr, mq, mh)) (by omega) f C a c0), toKW (k_X5_shakesNeeded_t1 l D cy 169 L (cW cy L (oW cy F f) C) (by omega) mt ms ma mv (nI (cQ C)) mb (nI (cL C)) mp mw mr mq mh a p0), rfl, fun h => absurd h (by decide), hw⟩
end STEPS
