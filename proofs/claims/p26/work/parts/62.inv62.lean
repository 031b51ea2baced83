/-! PURE: what the property's law keeps. First: beyond their ten layers, four silos, six ships the rows hold nothing, so that a copy of a yard is that yard -/
def cnS (v : ST) : Prop := ∀ i, 10 ≤ i → sT v i = 0 ∧ sA v i = 0
def cnY (y : YT) : Prop := (∀ k, 4 ≤ k → yS y k = s0) ∧ (∀ k, k < 4 → cnS (yS y k)) ∧ (∀ j, 6 ≤ j → yH y j = h0s) ∧ (∀ i, 4 ≤ i → yZ y i = z_first i) ∧ ∀ i, 6 ≤ i → yC y i = 0
theorem cpN_all {f g : Nat → Int32} {n : Nat} (h : ∀ i, n ≤ i → f i = g i) : cpN f g 0 0 n = g := by
  funext j
  unfold cpN
  by_cases q : j < n
  · rw [if_pos (by omega)]
    rfl
  · rw [if_neg (by omega)]
    exact h j (by omega)
theorem s_like_eq {v v2 : ST} (h : cnS v) (h2 : cnS v2) : s_like v v2 = v2 := by
  have e1 : cpN (sT v) (sT v2) 0 0 10 = sT v2 := cpN_all (fun i hi => by rw [(h i hi).1, (h2 i hi).1])
  have e2 : cpN (sA v) (sA v2) 0 0 10 = sA v2 := cpN_all (fun i hi => by rw [(h i hi).2, (h2 i hi).2])
  exact congr (congrArg (fun a b => ((a, b, sN v2, sP v2, sC v2, sK v2) : ST)) e1) e2
theorem lS_S (y y2 : YT) : ∀ n i, yS (y_lS y y2 n) i = if i < n then s_like (yS y i) (yS y2 i) else yS y i
  | 0, i => by rw [if_neg (by omega)]; rfl
  | n + 1, i => by
    show yS (ySetS (y_lS y y2 n) n (s_like (yS (y_lS y y2 n) n) (yS y2 n))) i = _
    by_cases h : i = n
    · rw [h, yS_set, lS_S y y2 n n, if_neg (Nat.lt_irrefl n), if_pos (Nat.lt_succ_self n)]
    · rw [yS_ne h, lS_S y y2 n i]
      by_cases h2 : i < n
      · rw [if_pos h2, if_pos (by omega)]
      · rw [if_neg h2, if_neg (by omega)]
theorem lS_R (y y2 : YT) : ∀ n, (y_lS y y2 n).2 = y.2
  | 0 => rfl
  | n + 1 => lS_R y y2 n
theorem lH_H (y y2 : YT) : ∀ n i, yH (y_lH y y2 n) i = if i < n then yH y2 i else yH y i
  | 0, i => by rw [if_neg (by omega)]; rfl
  | n + 1, i => by
    show yH (ySetH (y_lH y y2 n) n (hT (yH y2 n), hH (yH y2 n))) i = _
    by_cases h : i = n
    · rw [h, yH_set, if_pos (Nat.lt_succ_self n)]
    · rw [yH_ne h, lH_H y y2 n i]
      by_cases h2 : i < n
      · rw [if_pos h2, if_pos (by omega)]
      · rw [if_neg h2, if_neg (by omega)]
theorem lH_S (y y2 : YT) : ∀ n, yS (y_lH y y2 n) = yS y
  | 0 => rfl
  | n + 1 => lH_S y y2 n
theorem lH_R (y y2 : YT) : ∀ n, (y_lH y y2 n).2.2 = y.2.2
  | 0 => rfl
  | n + 1 => lH_R y y2 n
theorem like_eq {y y2 : YT} (h : cnY y) (h2 : cnY y2) : y_like y y2 = y2 := by
  have eS : yS (y_like y y2) = yS y2 := by
    funext i
    show yS (y_lH (y_lS y y2 4) y2 6) i = _
    rw [lH_S, lS_S]
    by_cases q : i < 4
    · rw [if_pos q]
      exact s_like_eq (h.2.1 i q) (h2.2.1 i q)
    · rw [if_neg q, h.1 i (by omega), h2.1 i (by omega)]
  have eH : yH (y_like y y2) = yH y2 := by
    funext i
    show yH (y_lH (y_lS y y2 4) y2 6) i = _
    rw [lH_H]
    by_cases q : i < 6
    · rw [if_pos q]
    · rw [if_neg q, show yH (y_lS y y2 4) = yH y from congrArg Prod.fst (lS_R y y2 4), h.2.2.1 i (by omega), h2.2.2.1 i (by omega)]
  have eZ : yZ (y_like y y2) = yZ y2 := by
    show cpN (yZ (y_lH (y_lS y y2 4) y2 6)) (yZ y2) 0 0 4 = yZ y2
    refine cpN_all (fun i hi => ?_)
    rw [show yZ (y_lH (y_lS y y2 4) y2 6) = yZ (y_lS y y2 4) from congrArg Prod.fst (lH_R (y_lS y y2 4) y2 6), show yZ (y_lS y y2 4) = yZ y from congrArg (fun q => q.2.1) (lS_R y y2 4), h.2.2.2.1 i hi, h2.2.2.2.1 i hi]
  have eC : yC (y_like y y2) = yC y2 := by
    have e0 : yC (y_lZ (y_lH (y_lS y y2 4) y2 6) y2 4) = yC y := by
      show yC (y_lH (y_lS y y2 4) y2 6) = yC y
      rw [show yC (y_lH (y_lS y y2 4) y2 6) = yC (y_lS y y2 4) from congrArg Prod.snd (lH_R (y_lS y y2 4) y2 6)]
      exact congrArg (fun q => q.2.2) (lS_R y y2 4)
    show upd (upd (upd (upd (upd (upd (yC (y_lZ (y_lH (y_lS y y2 4) y2 6) y2 4)) 0 (yC y2 0)) 1 (yC y2 1)) 2 (yC y2 2)) 3 (yC y2 3)) 4 (yC y2 4)) 5 (yC y2 5) = yC y2
    rw [e0]
    funext i
    by_cases q5 : i = 5
    · rw [q5, pk_us]
    · rw [pk_un q5]
      by_cases q4 : i = 4
      · rw [q4, pk_us]
      · rw [pk_un q4]
        by_cases q3 : i = 3
        · rw [q3, pk_us]
        · rw [pk_un q3]
          by_cases q2 : i = 2
          · rw [q2, pk_us]
          · rw [pk_un q2]
            by_cases q1 : i = 1
            · rw [q1, pk_us]
            · rw [pk_un q1]
              by_cases q0 : i = 0
              · rw [q0, pk_us]
              · rw [pk_un q0, h.2.2.2.2 i (by omega), h2.2.2.2.2 i (by omega)]
  exact Prod.ext eS (Prod.ext eH (Prod.ext eZ eC))
/-! a silo's steps -/
def srS (v : ST) : Prop := ∀ j, j + 1 < sN v → (sA v (j + 1)).toInt ≤ (sA v j).toInt
theorem cn_fill {v : ST} {a : Int32} (h : cnS v) (hn : sN v ≤ 10) : cnS (s_fill v a) := by
  intro i hi
  have e1 : s_fillT v a i = sT v i := fillT_at (by omega)
  unfold s_fill
  split
  · exact ⟨e1.trans (h i hi).1, (h i hi).2⟩
  · split
    · exact ⟨e1.trans (h i hi).1, (h i hi).2⟩
    · refine ⟨?_, ?_⟩
      · show upd (s_fillT v a) (sN v) (s_rest v a) i = 0
        rw [pk_un (by omega), e1]
        exact (h i hi).1
      · show upd (sA v) (sN v) 0 i = 0
        rw [pk_un (by omega)]
        exact (h i hi).2
theorem sr_fill {m : Int} {v : ST} {a : Int32} (ho : okS m v) (h : srS v) : srS (s_fill v a) := by
  unfold s_fill
  split
  · exact h
  · split
    · exact h
    · intro j hj
      have hj : j + 1 < sN v + 1 := hj
      show (upd (sA v) (sN v) 0 (j + 1)).toInt ≤ (upd (sA v) (sN v) 0 j).toInt
      by_cases q : j + 1 = sN v
      · rw [q, pk_us, pk_un (by omega), i_0]
        have b := (ho.2.1 j (by omega)).2
        unfold iB at b
        omega
      · rw [pk_un q, pk_un (by omega)]
        exact h j (by omega)
theorem cn_take {v : ST} {o : Int32} (h : cnS v) (hn : sN v ≤ 10) : cnS (s_take v o) := by
  intro i hi
  have e1 : upd (sT v) 0 (sT v 0 - o) i = sT v i := pk_un (by omega)
  unfold s_take
  split
  · refine ⟨?_, ?_⟩
    · show cpN (upd (sT v) 0 (sT v 0 - o)) (upd (sT v) 0 (sT v 0 - o)) 0 1 (sN v - 1) i = 0
      rw [cpN_own (by omega), e1]
      exact (h i hi).1
    · show cpN (sA v) (sA v) 0 1 (sN v - 1) i = 0
      rw [cpN_own (by omega)]
      exact (h i hi).2
  · exact ⟨e1.trans (h i hi).1, (h i hi).2⟩
theorem sr_take {v : ST} {o : Int32} (h : srS v) : srS (s_take v o) := by
  unfold s_take
  split
  · intro j hj
    have hj : j + 1 < sN v - 1 := hj
    rw [s_gone_A (by omega), s_gone_A (by omega)]
    exact h (j + 1) (by omega)
  · exact h
theorem hour_p {m : Int} {z : Nat → Int32} {v : ST} {h : HT} (ho : okS m v) (hh : okH h) (hz : okZ z) : okS m (c_hourV z v h) ∧ okH (c_hourH z v h) ∧ hT (c_hourH z v h) = hT h + c_hourR z v h ∧ 0 ≤ (c_hourR z v h).toInt ∧ (c_hourR z v h).toInt ≤ 160 := by
  by_cases hc : sN v = 0 ∨ sC v = 2
  · have e1 : c_hourR z v h = 0 := by
      unfold c_hourR
      rcases hc with hc | hc
      · rw [if_pos hc]
      · rw [if_pos hc]; split <;> rfl
    have e2 : c_hourV z v h = v := by
      unfold c_hourV
      rcases hc with hc | hc
      · rw [if_pos hc]
      · rw [if_pos hc]; split <;> rfl
    have e3 : c_hourH z v h = h := by
      unfold c_hourH
      rcases hc with hc | hc
      · rw [if_pos hc]
      · rw [if_pos hc]; split <;> rfl
    rw [e1, e2, e3]
    exact ⟨ho, hh, by rw [Int32.add_zero], by decide, by decide⟩
  · have h0 : ¬ sN v = 0 := fun q => hc (Or.inl q)
    have h2 : ¬ sC v = 2 := fun q => hc (Or.inr q)
    have hB := out_B (z := z) ho hh h0
    have hd := dust_B (o := c_out z v h) hz hB.1
    have e1 : c_hourR z v h = c_out z v h - c_out z v h / z 2 := by
      unfold c_hourR
      rw [if_neg h0, if_neg h2, hd.1]
    have e2 : c_hourV z v h = s_take v (c_out z v h) := by
      unfold c_hourV
      rw [if_neg h0, if_neg h2]
    have e3 : c_hourH z v h = (hT h + (c_out z v h - c_out z v h / z 2), hH h) := by
      unfold c_hourH
      rw [if_neg h0, if_neg h2, hd.1]
    rw [e1, e2, e3]
    generalize c_out z v h = o at *
    have q1 : (o - o / z 2).toInt = o.toInt - (o / z 2).toInt := i_sub (by omega) (by omega)
    refine ⟨okS_take ho (by omega) hB.2.2.1 hB.1, ?_, rfl, by omega, by omega⟩
    unfold okH at hh ⊢
    show 0 ≤ (hT h + (o - o / z 2)).toInt ∧ (hT h + (o - o / z 2)).toInt ≤ (hH h).toInt ∧ (hH h).toInt ≤ 900
    rw [i_add (by omega) (by omega), q1]
    omega
theorem hour_c {z : Nat → Int32} {v : ST} {h : HT} : (c_hourV z v h = v ∨ c_hourV z v h = s_take v (c_out z v h)) := by
  unfold c_hourV
  split
  · exact Or.inl rfl
  · split
    · exact Or.inl rfl
    · exact Or.inr rfl
theorem po_p {m : Int} {z : Nat → Int32} {v : ST} {h : HT} (ho : okS m v) (hh : okH h) (hz : okZ z) : ∀ q : Nat, q ≤ 1000 → okS m (c_poS z v h q).1 ∧ okH (c_poS z v h q).2 ∧ hT (c_poS z v h q).2 = hT h + c_poR z v h q ∧ 0 ≤ (c_poR z v h q).toInt ∧ (c_poR z v h q).toInt ≤ 160 * q
  | 0, _ => ⟨ho, hh, by show hT h = hT h + 0; rw [Int32.add_zero], by show (0 : Int) ≤ (0 : Int32).toInt; decide, by show (0 : Int32).toInt ≤ _; decide⟩
  | q + 1, hq => by
    obtain ⟨a, b, c, d, e⟩ := po_p ho hh hz q (by omega)
    obtain ⟨a1, b1, c1, d1, e1⟩ := hour_p (z := z) a b hz
    refine ⟨a1, b1, ?_, ?_⟩
    · show hT (c_hourH z (c_poS z v h q).1 (c_poS z v h q).2) = hT h + (c_poR z v h q + c_hourR z (c_poS z v h q).1 (c_poS z v h q).2)
      rw [c1, c, Int32.add_assoc]
    · show 0 ≤ (c_poR z v h q + c_hourR z (c_poS z v h q).1 (c_poS z v h q).2).toInt ∧ (c_poR z v h q + c_hourR z (c_poS z v h q).1 (c_poS z v h q).2).toInt ≤ _
      rw [i_add (by omega) (by omega)]
      omega
theorem po_c {z : Nat → Int32} {v : ST} {h : HT} (hn : sN v ≤ 10) (h1 : cnS v) : ∀ q, cnS (c_poS z v h q).1
  | 0 => h1
  | q + 1 => by
    show cnS (c_hourV z (c_poS z v h q).1 (c_poS z v h q).2)
    rcases hour_c (z := z) (v := (c_poS z v h q).1) (h := (c_poS z v h q).2) with e | e
    · rw [e]; exact po_c hn h1 q
    · rw [e]; exact cn_take (po_c hn h1 q) (c_po_N hn q)
theorem po_s {z : Nat → Int32} {v : ST} {h : HT} (h1 : srS v) : ∀ q, srS (c_poS z v h q).1
  | 0 => h1
  | q + 1 => by
    show srS (c_hourV z (c_poS z v h q).1 (c_poS z v h q).2)
    rcases hour_c (z := z) (v := (c_poS z v h q).1) (h := (c_poS z v h q).2) with e | e
    · rw [e]; exact po_s h1 q
    · rw [e]; exact sr_take (po_s h1 q)
theorem cn_old {v : ST} (h : cnS v) (hn : sN v ≤ 10) : cnS (c_old v) := by
  intro i hi
  refine ⟨(h i hi).1, ?_⟩
  show s_old (sA v) (sN v) i = 0
  rw [s_old_at, if_neg (by omega)]
  exact (h i hi).2
theorem sr_old {m : Int} {v : ST} (ho : okS m v) (hm : m < 2147483647) (h : srS v) : srS (c_old v) := by
  intro j hj
  have hj : j + 1 < sN v := hj
  show (s_old (sA v) (sN v) (j + 1)).toInt ≤ (s_old (sA v) (sN v) j).toInt
  have b1 := (ho.2.1 j (by omega)).2
  have b2 := (ho.2.1 (j + 1) (by omega)).2
  unfold iB at b1 b2
  have q := h j hj
  rw [s_old_at, s_old_at, if_pos hj, if_pos (by omega), i_add (by rw [i_1]; omega) (by rw [i_1]; omega), i_add (by rw [i_1]; omega) (by rw [i_1]; omega)]
  omega
theorem day_f {z : Nat → Int32} {v : ST} : sT (c_dayV z v) = sT v ∧ sA (c_dayV z v) = sA (c_old v) ∧ sN (c_dayV z v) = sN v ∧ sP (c_dayV z v) = sP v := by
  rw [c_dayV_arch]
  unfold v_arch
  split
  · exact ⟨rfl, rfl, rfl, rfl⟩
  · split
    · exact ⟨rfl, rfl, rfl, rfl⟩
    · exact ⟨rfl, rfl, rfl, rfl⟩
theorem day_total {z : Nat → Int32} {v : ST} : s_total (c_dayV z v) = s_total v := by
  unfold s_total
  rw [day_f.1, day_f.2.2.1]
theorem cn_day {z : Nat → Int32} {v : ST} (h : cnS v) (hn : sN v ≤ 10) : cnS (c_dayV z v) := by
  intro i hi
  rw [day_f.1, day_f.2.1]
  exact cn_old h hn i hi
theorem sr_day {m : Int} {z : Nat → Int32} {v : ST} (ho : okS m v) (hm : m < 2147483647) (h : srS v) : srS (c_dayV z v) := by
  intro j hj
  rw [day_f.2.2.1] at hj
  rw [day_f.2.1]
  exact sr_old ho hm h j hj
/-! sums over rows -/
def sm (f : Nat → Int32) : Nat → Int32
  | 0 => 0
  | n + 1 => sm f n + f n
theorem sm_silos (y : YT) : ∀ n, y_silos y n = sm (fun k => s_total (yS y k)) n
  | 0 => rfl
  | n + 1 => by show y_silos y n + _ = sm _ n + _; rw [sm_silos y n]
theorem sm_ships (y : YT) : ∀ n, y_ships y n = sm (fun k => hT (yH y k)) n
  | 0 => rfl
  | n + 1 => by show y_ships y n + _ = sm _ n + _; rw [sm_ships y n]
theorem sm_pads (y : YT) : ∀ n, y_pads y n = sm (fun k => sP (yS y k)) n
  | 0 => rfl
  | n + 1 => by show y_pads y n + _ = sm _ n + _; rw [sm_pads y n]
theorem sm_cong {f g : Nat → Int32} : ∀ n, (∀ i, i < n → g i = f i) → sm g n = sm f n
  | 0, _ => rfl
  | n + 1, h => by show sm g n + g n = sm f n + f n; rw [sm_cong n (fun i hi => h i (by omega)), h n (by omega)]
theorem sm_upd {f g : Nat → Int32} {k : Nat} : ∀ n, (∀ i, i < n → i ≠ k → g i = f i) → sm g n = if k < n then sm f n - f k + g k else sm f n
  | 0, _ => by rw [if_neg (by omega)]; rfl
  | n + 1, h => by
    show sm g n + g n = _
    rw [sm_upd n (fun i hi hk => h i (by omega) hk)]
    by_cases q : k = n
    · rw [q, if_neg (Nat.lt_irrefl n), if_pos (Nat.lt_succ_self n)]
      show sm f n + g n = sm f n + f n - f n + g n
      grind
    · rw [h n (by omega) (fun e => q e.symm)]
      by_cases q2 : k < n
      · rw [if_pos q2, if_pos (by omega)]
        show sm f n - f k + g k + f n = sm f n + f n - f k + g k
        grind
      · rw [if_neg q2, if_neg (by omega)]
        rfl
theorem silos_set {y y2 : YT} {k : Nat} (hk : k < 4) (h : ∀ i, i < 4 → i ≠ k → yS y2 i = yS y i) : y_silos y2 4 = y_silos y 4 - s_total (yS y k) + s_total (yS y2 k) := by
  rw [sm_silos, sm_silos, sm_upd (f := fun k => s_total (yS y k)) (k := k) 4 (fun i hi hne => by show s_total (yS y2 i) = s_total (yS y i); rw [h i hi hne]), if_pos hk]
theorem pads_set {y y2 : YT} {k : Nat} (hk : k < 4) (h : ∀ i, i < 4 → i ≠ k → yS y2 i = yS y i) : y_pads y2 4 = y_pads y 4 - sP (yS y k) + sP (yS y2 k) := by
  rw [sm_pads, sm_pads, sm_upd (f := fun k => sP (yS y k)) (k := k) 4 (fun i hi hne => by show sP (yS y2 i) = sP (yS y i); rw [h i hi hne]), if_pos hk]
theorem ships_set {y y2 : YT} {j : Nat} (hj : j < 6) (h : ∀ i, i < 6 → i ≠ j → yH y2 i = yH y i) : y_ships y2 6 = y_ships y 6 - hT (yH y j) + hT (yH y2 j) := by
  rw [sm_ships, sm_ships, sm_upd (f := fun k => hT (yH y k)) (k := j) 6 (fun i hi hne => by show hT (yH y2 i) = hT (yH y i); rw [h i hi hne]), if_pos hj]
