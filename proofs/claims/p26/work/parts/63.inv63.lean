/-! PURE: what the law keeps of a yard, and every undoable call keeps it -/
def IY (t : Nat) (y : YT) : Prop := okY (30 * (t : Int)) y ∧ cnY y ∧ iB 0 t (yC y 4) ∧ (yC y 4 = 0 → ∀ k, k < 4 → srS (yS y k)) ∧ y_silos y 4 + y_ships y 6 + yC y 1 + yC y 3 = yC y 2 ∧ y_pads y 4 ≤ yZ y 0
theorem IY.mono {t t2 : Nat} {y : YT} (h : IY t y) (ht : t ≤ t2) : IY t2 y := by
  refine ⟨h.1.mono (by omega), h.2.1, ?_, h.2.2.2⟩
  have b := h.2.2.1
  unfold iB at b ⊢
  omega
theorem IY.wf {t : Nat} {y : YT} (h : IY t y) : wfY y := h.1.wf
theorem cnY_S {y y2 : YT} {k : Nat} (h : cnY y) (hk : k < 4) (hS : ∀ i, i ≠ k → yS y2 i = yS y i) (hk2 : cnS (yS y2 k)) (hH : ∀ j, 6 ≤ j → yH y2 j = yH y j) (hZ : ∀ i, 4 ≤ i → yZ y2 i = yZ y i) (hC : ∀ i, 6 ≤ i → yC y2 i = yC y i) : cnY y2 := by
  refine ⟨fun i hi => by rw [hS i (by omega)]; exact h.1 i hi, fun i hi => ?_, fun j hj => by rw [hH j hj]; exact h.2.2.1 j hj, fun i hi => by rw [hZ i hi]; exact h.2.2.2.1 i hi, fun i hi => by rw [hC i hi]; exact h.2.2.2.2 i hi⟩
  by_cases q : i = k
  · rw [q]; exact hk2
  · rw [hS i q]; exact h.2.1 i hi
/-! a ship comes -/
theorem ship_H (y : YT) (j : Nat) (u t : Int32) (i : Nat) : yH (y_ship y j u t) i = if i = j then (t, u) else yH y i := by
  show yH (y_ship1 y j u t) i = _
  unfold y_ship1
  rw [ySetH_two]
  by_cases q : i = j
  · subst q; rw [if_pos rfl, yH_set, yH_set]
  · rw [if_neg q, yH_ne q]
theorem ship_p {m : Nat} {y : YT} {j : Nat} {u t : Int32} (h : IY m y) (hj : j < 6) (hu1 : ¬ u < 0) (hu2 : ¬ 900 < u) (ht1 : ¬ t < 0) (ht2 : t ≤ u) : 0 ≤ (hT (yH y j)).toInt ∧ IY m (y_ship y j u t) := by
  obtain ⟨ho, hc, hn, hs, ha, hp⟩ := h
  have hoj := ho.2.1 j hj
  unfold okH at hoj
  refine ⟨hoj.1, ⟨fun k hk => ho.1 k hk, fun i hi => ?_, ho.2.2⟩, ?_, hn, hs, ?_, hp⟩
  · rw [i_lt, i_0] at hu1 ht1
    rw [i_lt, i_900] at hu2
    rw [i_le] at ht2
    rw [ship_H]
    split
    · unfold okH
      show 0 ≤ t.toInt ∧ t.toInt ≤ u.toInt ∧ u.toInt ≤ 900
      omega
    · exact ho.2.1 i hi
  · refine ⟨hc.1, hc.2.1, fun i hi => ?_, hc.2.2.2.1, fun i hi => ?_⟩
    · rw [ship_H, if_neg (by omega)]
      exact hc.2.2.1 i hi
    · show upd (upd (yC y) 2 (yC y 2 + t)) 3 (upd (yC y) 2 (yC y 2 + t) 3 + hT (yH y j)) i = 0
      rw [pk_un (by omega), pk_un (by omega)]
      exact hc.2.2.2.2 i hi
  · have e := ships_set (y := y) (y2 := y_ship y j u t) hj (fun i hi hne => by rw [ship_H, if_neg hne])
    rw [ship_H, if_pos rfl] at e
    have e1 : y_silos (y_ship y j u t) 4 = y_silos y 4 := rfl
    have e2 : yC (y_ship y j u t) 1 = yC y 1 := rfl
    have e3 : yC (y_ship y j u t) 3 = yC y 3 + hT (yH y j) := rfl
    have e4 : yC (y_ship y j u t) 2 = yC y 2 + t := rfl
    have e5 : hT ((t, u) : HT) = t := rfl
    rw [e1, e2, e3, e4, e, e5]
    generalize y_silos y 4 = a1 at *
    generalize y_ships y 6 = a2 at *
    generalize hT (yH y j) = a3 at *
    generalize yC y 1 = a4 at *
    generalize yC y 3 = a5 at *
    generalize yC y 2 = a6 at *
    grind
/-! a load -/
def y_unl (y : YT) (k j : Nat) (t : Int32) : YT := ySetH (ySetS y k (s_fill (yS y k) (c_brR (yS y k) (yH y j) t))) j (hT (yH y j) - c_brR (yS y k) (yH y j) t, hH (yH y j))
theorem unl_S (y : YT) (k j : Nat) (t : Int32) (i : Nat) : yS (y_unl y k j t) i = if i = k then s_fill (yS y k) (c_brR (yS y k) (yH y j) t) else yS y i := by
  show yS (ySetS y k _) i = _
  by_cases q : i = k
  · subst q; rw [if_pos rfl, yS_set]
  · rw [if_neg q, yS_ne q]
theorem unl_H (y : YT) (k j : Nat) (t : Int32) (i : Nat) : yH (y_unl y k j t) i = if i = j then (hT (yH y j) - c_brR (yS y k) (yH y j) t, hH (yH y j)) else yH y i := by
  unfold y_unl
  by_cases q : i = j
  · subst q; rw [if_pos rfl, yH_set]
  · rw [if_neg q, yH_ne q]; rfl
theorem unl_p {m : Nat} {y : YT} {k j : Nat} {t : Int32} (h : IY m y) (hk : k < 4) (hj : j < 6) (ht1 : 1 ≤ t.toInt) (ht2 : t.toInt ≤ 500) : 0 ≤ (c_brR (yS y k) (yH y j) t).toInt ∧ IY m (y_unl y k j t) := by
  obtain ⟨ho, hc, hn, hs, ha, hp⟩ := h
  have hb := br_B (ho.1 k hk) (ho.2.1 j hj) ht1 (t := t)
  have hf := okS_fill (ho.1 k hk) (ho.2.1 j hj) ht1 ht2 (by omega)
  have hoj := ho.2.1 j hj
  refine ⟨hb.1, ⟨fun i hi => ?_, fun i hi => ?_, ho.2.2⟩, ?_, hn, fun q i hi => ?_, ?_, ?_⟩
  · rw [unl_S]
    split
    · exact hf.1
    · exact ho.1 i hi
  · rw [unl_H]
    split
    · unfold okH at hoj ⊢
      show 0 ≤ (hT (yH y j) - c_brR (yS y k) (yH y j) t).toInt ∧ (hT (yH y j) - c_brR (yS y k) (yH y j) t).toInt ≤ (hH (yH y j)).toInt ∧ (hH (yH y j)).toInt ≤ 900
      rw [i_sub (by omega) (by omega)]
      omega
    · exact ho.2.1 i hi
  · refine cnY_S (y := y) (k := k) hc hk (fun i hi => by rw [unl_S, if_neg hi]) ?_ (fun i hi => by rw [unl_H, if_neg (by omega)]) (fun i hi => rfl) (fun i hi => rfl)
    rw [unl_S, if_pos rfl]
    exact cn_fill (hc.2.1 k hk) (ho.1 k hk).1
  · rw [unl_S]
    split
    · exact sr_fill (ho.1 k hk) (hs q k hk)
    · exact hs q i hi
  · have e := ships_set (y := y) (y2 := y_unl y k j t) hj (fun i hi hne => by rw [unl_H, if_neg hne])
    rw [unl_H, if_pos rfl] at e
    have f := silos_set (y := y) (y2 := y_unl y k j t) hk (fun i hi hne => by rw [unl_S, if_neg hne])
    rw [unl_S, if_pos rfl, hf.2] at f
    have e2 : ∀ i, yC (y_unl y k j t) i = yC y i := fun _ => rfl
    have e5 : hT ((hT (yH y j) - c_brR (yS y k) (yH y j) t, hH (yH y j)) : HT) = hT (yH y j) - c_brR (yS y k) (yH y j) t := rfl
    rw [e2, e2, e2, e, f, e5]
    generalize y_silos y 4 = a1 at *
    generalize y_ships y 6 = a2 at *
    generalize hT (yH y j) = a3 at *
    generalize yC y 1 = a4 at *
    generalize yC y 3 = a5 at *
    generalize yC y 2 = a6 at *
    generalize s_total (yS y k) = a7 at *
    grind
  · have e := pads_set (y := y) (y2 := y_unl y k j t) hk (fun i hi hne => by rw [unl_S, if_neg hne])
    have e1 : sP (yS (y_unl y k j t) k) = sP (yS y k) := by
      rw [unl_S, if_pos rfl]
      unfold s_fill
      split
      · rfl
      · split <;> rfl
    have e2 : y_pads y 4 - sP (yS y k) + sP (yS y k) = y_pads y 4 := by grind
    rw [e, e1, e2]
    exact hp
/-! hours of flowing -/
theorem take_P {v : ST} {o : Int32} : sP (s_take v o) = sP v := by
  unfold s_take
  split <;> rfl
theorem po_P {z : Nat → Int32} {v : ST} {h : HT} : ∀ q, sP (c_poS z v h q).1 = sP v
  | 0 => rfl
  | q + 1 => by
    show sP (c_hourV z (c_poS z v h q).1 (c_poS z v h q).2) = _
    rcases hour_c (z := z) (v := (c_poS z v h q).1) (h := (c_poS z v h q).2) with e | e
    · rw [e]; exact po_P q
    · rw [e, take_P]; exact po_P q
theorem let_S (y : YT) (k j q i : Nat) : yS (y_let y k j q) i = if i = k then (c_poS (yZ y) (yS y k) (yH y j) q).1 else yS y i := by
  show yS (ySetS y k _) i = _
  by_cases p : i = k
  · subst p; rw [if_pos rfl, yS_set]
  · rw [if_neg p, yS_ne p]
theorem let_H (y : YT) (k j q i : Nat) : yH (y_let y k j q) i = if i = j then (c_poS (yZ y) (yS y k) (yH y j) q).2 else yH y i := by
  show yH (y_let1 y k j q) i = _
  unfold y_let1
  by_cases p : i = j
  · subst p; rw [if_pos rfl, yH_set]
  · rw [if_neg p, yH_ne p]; rfl
theorem let_C (y : YT) (k j q : Nat) : yC (y_let y k j q) = upd (yC y) 1 (yC y 1 + (s_total (yS y k) - s_total (c_poS (yZ y) (yS y k) (yH y j) q).1 - c_poR (yZ y) (yS y k) (yH y j) q)) := by
  have e1 : yS (y_let1 y k j q) k = (c_poS (yZ y) (yS y k) (yH y j) q).1 := by
    unfold y_let1
    show yS (ySetS y k _) k = _
    exact yS_set
  show upd (yC y) 1 (yC y 1 + (s_total (yS y k) - s_total (yS (y_let1 y k j q) k) - y_letR y k j q)) = _
  rw [e1]
  rfl
theorem let_p {m : Nat} {y : YT} {k j q : Nat} (h : IY m y) (hk : k < 4) (hj : j < 6) (hq : q ≤ 1000) : 0 ≤ (y_letR y k j q).toInt ∧ IY m (y_let y k j q) := by
  obtain ⟨ho, hc, hn, hs, ha, hp⟩ := h
  obtain ⟨b1, b2, b3, b4, b5⟩ := po_p (ho.1 k hk) (ho.2.1 j hj) ho.2.2 q hq
  refine ⟨b4, ⟨fun i hi => ?_, fun i hi => ?_, ho.2.2⟩, ?_, ?_, fun p i hi => ?_, ?_, ?_⟩
  · rw [let_S]
    split
    · exact b1
    · exact ho.1 i hi
  · rw [let_H]
    split
    · exact b2
    · exact ho.2.1 i hi
  · refine cnY_S (y := y) (k := k) hc hk (fun i hi => by rw [let_S, if_neg hi]) ?_ (fun i hi => by rw [let_H, if_neg (by omega)]) (fun i hi => rfl) (fun i hi => by rw [let_C, pk_un (by omega)])
    rw [let_S, if_pos rfl]
    exact po_c (ho.1 k hk).1 (hc.2.1 k hk) q
  · rw [let_C, pk_un (by omega)]
    exact hn
  · rw [let_C, pk_un (by omega)] at p
    rw [let_S]
    split
    · exact po_s (hs p k hk) q
    · exact hs p i hi
  · have e := ships_set (y := y) (y2 := y_let y k j q) hj (fun i hi hne => by rw [let_H, if_neg hne])
    rw [let_H, if_pos rfl, b3] at e
    have f := silos_set (y := y) (y2 := y_let y k j q) hk (fun i hi hne => by rw [let_S, if_neg hne])
    rw [let_S, if_pos rfl] at f
    rw [e, f, let_C, pk_us, pk_un (by omega), pk_un (by omega)]
    generalize y_silos y 4 = a1 at *
    generalize y_ships y 6 = a2 at *
    generalize hT (yH y j) = a3 at *
    generalize yC y 1 = a4 at *
    generalize yC y 3 = a5 at *
    generalize yC y 2 = a6 at *
    generalize s_total (yS y k) = a7 at *
    generalize s_total (c_poS (yZ y) (yS y k) (yH y j) q).1 = a8 at *
    generalize c_poR (yZ y) (yS y k) (yH y j) q = a9 at *
    grind
  · have e := pads_set (y := y) (y2 := y_let y k j q) hk (fun i hi hne => by rw [let_S, if_neg hne])
    have e1 : sP (yS (y_let y k j q) k) = sP (yS y k) := by rw [let_S, if_pos rfl, po_P]
    have e2 : y_pads y 4 - sP (yS y k) + sP (yS y k) = y_pads y 4 := by grind
    rw [e, e1, e2]
    exact hp
/-! pads -/
theorem pads_S (y : YT) (k : Nat) (u : Int32) (i : Nat) : yS (y_padsS y k u) i = if i = k then (sT (yS y k), sA (yS y k), sN (yS y k), u, sC (yS y k), sK (yS y k)) else yS y i := by
  unfold y_padsS
  by_cases q : i = k
  · subst q; rw [if_pos rfl, yS_set]
  · rw [if_neg q, yS_ne q]
theorem pads_p {m : Nat} {y : YT} {k : Nat} {u : Int32} (h : IY m y) (hk : k < 4) (hu : iB 0 4 u) (hb : y_pads y 4 - sP (yS y k) + u ≤ yZ y 0) : 0 ≤ (sP (yS y k)).toInt ∧ IY m (y_padsS y k u) := by
  obtain ⟨ho, hc, hn, hs, ha, hp⟩ := h
  obtain ⟨a1, a2, a3, a4, a5, a6, a7⟩ := id (ho.1 k hk)
  refine ⟨a4.1, ⟨fun i hi => ?_, ho.2.1, ho.2.2⟩, ?_, hn, fun p i hi => ?_, ?_, ?_⟩
  · rw [pads_S]
    split
    · exact ⟨a1, a2, a3, hu, a5, a6, a7⟩
    · exact ho.1 i hi
  · refine cnY_S (y := y) (k := k) hc hk (fun i hi => by rw [pads_S, if_neg hi]) ?_ (fun i hi => rfl) (fun i hi => rfl) (fun i hi => rfl)
    rw [pads_S, if_pos rfl]
    exact hc.2.1 k hk
  · rw [pads_S]
    split
    · exact hs p k hk
    · exact hs p i hi
  · have f := silos_set (y := y) (y2 := y_padsS y k u) hk (fun i hi hne => by rw [pads_S, if_neg hne])
    have e1 : s_total (yS (y_padsS y k u) k) = s_total (yS y k) := by rw [pads_S, if_pos rfl]; rfl
    have e2 : y_silos y 4 - s_total (yS y k) + s_total (yS y k) = y_silos y 4 := by grind
    rw [e1, e2] at f
    rw [f]
    exact ha
  · have e := pads_set (y := y) (y2 := y_padsS y k u) hk (fun i hi hne => by rw [pads_S, if_neg hne])
    have e1 : sP (yS (y_padsS y k u) k) = u := by rw [pads_S, if_pos rfl]
    rw [e, e1]
    exact hb
/-! a setting -/
theorem setZ_p {m : Nat} {y : YT} {i : Nat} {u : Int32} (h : IY m y) (hi : i < 4) (hi0 : i ≠ 0) (hu1 : ¬ u < z_least i) (hu2 : u ≤ z_most i) : 0 ≤ (yZ y i).toInt ∧ IY m (y_setZ y i u) := by
  obtain ⟨ho, hc, hn, hs, ha, hp⟩ := h
  obtain ⟨b0, b1, b2, b3⟩ := id ho.2.2
  unfold iB at b0 b1 b2 b3
  refine ⟨?_, ⟨ho.1, ho.2.1, ?_⟩, ⟨hc.1, hc.2.1, hc.2.2.1, fun q hq => ?_, hc.2.2.2.2⟩, hn, hs, ha, ?_⟩
  · rcases (show i = 1 ∨ i = 2 ∨ i = 3 by omega) with rfl | rfl | rfl <;> omega
  · rw [i_lt] at hu1
    rw [i_le] at hu2
    show okZ (upd (yZ y) i u)
    rcases (show i = 1 ∨ i = 2 ∨ i = 3 by omega) with rfl | rfl | rfl
    · refine ⟨b0, ?_, b2, b3⟩
      rw [pk_us]
      exact ⟨by have : (z_least 1).toInt = 1 := by decide
                omega, by have : (z_most 1).toInt = 20 := by decide
                          omega⟩
    · refine ⟨b0, b1, ?_, b3⟩
      rw [pk_us]
      exact ⟨by have : (z_least 2).toInt = 5 := by decide
                omega, by have : (z_most 2).toInt = 100 := by decide
                          omega⟩
    · refine ⟨b0, b1, b2, ?_⟩
      rw [pk_us]
      exact ⟨by have : (z_least 3).toInt = 0 := by decide
                omega, by have : (z_most 3).toInt = 900 := by decide
                          omega⟩
  · show upd (yZ y) i u q = _
    rw [pk_un (by omega)]
    exact hc.2.2.2.1 q hq
  · show y_pads y 4 ≤ upd (yZ y) i u 0
    rw [pk_un (by omega)]
    exact hp
