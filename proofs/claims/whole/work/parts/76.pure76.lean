/-! LOADS AND FLOWS OF A YARD -/
theorem unlY_ok {m : Int} {s : Nat → Int32} {y : YT} {k j : Nat} {t : Int32} (h : Rel s y) (ho : okY m y) (hk : k < 4) (hj : j < 6) (ht1 : 1 ≤ t.toInt) (ht2 : t.toInt ≤ 500) (hm : 0 ≤ m) :
    g_unlR s k j (sN (yS y k)) t = c_brR (yS y k) (yH y j) t ∧ Rel (g_unlS s k j (sN (yS y k)) t) (y_br y k j t) ∧ okY m (y_br y k j t) := by
  obtain ⟨e, b1, b2, b3, b4, b5⟩ := unl_ok (h.1 k hk) (h.2.1 j hj) (ho.1 k hk) (ho.2.1 j hj) ht1 ht2 hm hk hj
  have eS : ∀ i, yS (y_br y k j t) i = if i = k then s_fill (yS y k) (c_brR (yS y k) (yH y j) t) else yS y i := fun i => by
    show yS (ySetS y k _) i = _
    by_cases q : i = k
    · subst q; rw [if_pos rfl, yS_set]
    · rw [if_neg q, yS_ne q]
  have eH : ∀ i, yH (y_br y k j t) i = if i = j then (hT (yH y j) - c_brR (yS y k) (yH y j) t, hH (yH y j)) else yH y i := fun i => by
    unfold y_br
    by_cases q : i = j
    · subst q; rw [if_pos rfl, yH_set]
    · rw [if_neg q, yH_ne q]; rfl
  refine ⟨e, ⟨fun k' hk' => ?_, fun i hi => ?_, fun i hi => ?_, fun i hi => ?_⟩, fun k' hk' => ?_, fun i hi => ?_, ho.2.2⟩
  · rw [eS]
    by_cases q : k' = k
    · subst q; rw [if_pos rfl]; exact b1
    · rw [if_neg q]
      exact (h.1 k' hk').cong (ho.1 k' hk').1 (fun i _ _ => b5 i (by omega) (by omega))
  · rw [eH]
    by_cases q : i = j
    · subst q; rw [if_pos rfl]; exact b2
    · rw [if_neg q]
      exact (h.2.1 i hi).cong (fun p _ _ => b5 p (by omega) (by omega))
  · rw [b5 _ (by omega) (by omega)]; exact h.2.2.1 i hi
  · rw [b5 _ (by omega) (by omega)]; exact h.2.2.2 i hi
  · rw [eS]
    split
    · exact b3
    · exact ho.1 k' hk'
  · rw [eH]
    split
    · exact b4
    · exact ho.2.1 i hi
theorem letY_ok {m : Int} {s : Nat → Int32} {y : YT} {k j : Nat} (h : Rel s y) (ho : okY m y) (hk : k < 4) (hj : j < 6) (q : Nat) :
    g_hoursR s k j q = y_letR y k j q ∧ Rel (g_hoursS s k j q) (y_let y k j q) ∧ okY m (y_let y k j q) := by
  obtain ⟨e, b1, b2, b3, b4, b5, b6⟩ := hours_ok (h.1 k hk) (h.2.1 j hj) (ho.1 k hk) (ho.2.1 j hj) ho.2.2 (h.2.2.1 1 (by omega)) (h.2.2.1 2 (by omega)) hk hj q
  have eS : ∀ i, yS (y_let y k j q) i = if i = k then (c_poS (yZ y) (yS y k) (yH y j) q).1 else yS y i := fun i => by
    show yS (ySetS y k _) i = _
    by_cases p : i = k
    · subst p; rw [if_pos rfl, yS_set]
    · rw [if_neg p, yS_ne p]
  have eH : ∀ i, yH (y_let y k j q) i = if i = j then (c_poS (yZ y) (yS y k) (yH y j) q).2 else yH y i := fun i => by
    show yH (y_let1 y k j q) i = _
    unfold y_let1
    by_cases p : i = j
    · subst p; rw [if_pos rfl, yH_set]
    · rw [if_neg p, yH_ne p]; rfl
  have eC : yC (y_let y k j q) = upd (yC y) 1 (yC y 1 + (s_total (yS y k) - s_total (c_poS (yZ y) (yS y k) (yH y j) q).1 - c_poR (yZ y) (yS y k) (yH y j) q)) := by
    have e1 : yS (y_let1 y k j q) k = (c_poS (yZ y) (yS y k) (yH y j) q).1 := by
      unfold y_let1
      show yS (ySetS y k _) k = _
      exact yS_set
    show upd (yC y) 1 (yC y 1 + (s_total (yS y k) - s_total (yS (y_let1 y k j q) k) - y_letR y k j q)) = _
    rw [e1]
    rfl
  refine ⟨e, ⟨fun k' hk' => ?_, fun i hi => ?_, fun i hi => ?_, fun i hi => ?_⟩, fun k' hk' => ?_, fun i hi => ?_, ho.2.2⟩
  · rw [eS]
    by_cases p : k' = k
    · subst p; rw [if_pos rfl]; exact b1
    · rw [if_neg p]
      exact (h.1 k' hk').cong (ho.1 k' hk').1 (fun i _ _ => b6 i (by omega) (by omega) (by omega))
  · rw [eH]
    by_cases p : i = j
    · subst p; rw [if_pos rfl]; exact b2
    · rw [if_neg p]
      exact (h.2.1 i hi).cong (fun x _ _ => b6 x (by omega) (by omega) (by omega))
  · rw [b6 _ (by omega) (by omega) (by omega)]; exact h.2.2.1 i hi
  · rw [eC]
    by_cases p : i = 1
    · subst p; rw [pk_us, b5, h.2.2.2 1 (by omega)]
    · rw [pk_un p, b6 _ p (by omega) (by omega)]; exact h.2.2.2 i hi
  · rw [eS]
    split
    · exact b3
    · exact ho.1 k' hk'
  · rw [eH]
    split
    · exact b4
    · exact ho.2.1 i hi
/-! LOOKS -/
theorem inSilos_eq {m : Int} {s : Nat → Int32} {y : YT} (h : Rel s y) (ho : okY m y) : ∀ k, k ≤ 4 → g_inSilos s k = y_silos y k
  | 0, _ => rfl
  | k + 1, hk => by
    show g_inSilos s k + g_sum s k 0 (Nn s k - 0) = y_silos y k + s_total (yS y k)
    rw [inSilos_eq h ho k (by omega), (h.1 k (by omega)).Nn (ho.1 k (by omega)).1, total_eq (h.1 k (by omega))]
theorem inShips_eq {s : Nat → Int32} {y : YT} (h : Rel s y) : ∀ j, j ≤ 6 → g_inShips s j = y_ships y j
  | 0, _ => rfl
  | j + 1, hj => by
    show g_inShips s j + s (106 + 2 * j) = y_ships y j + hT (yH y j)
    rw [inShips_eq h j (by omega), (h.2.1 j (by omega)).1]
theorem arch_eq {m : Int} {s : Nat → Int32} {y : YT} (h : Rel s y) (ho : okY m y) {k : Nat} (hk : k < 4) : (if s (10 + 24 * k + 1) ≤ 0 then (0 : Int32) else 1) = if sC (yS y k) = 0 then 0 else 1 := by
  rw [(h.1 k hk).2.2.1]
  rcases (ho.1 k hk).2.2.2.2.1 with e | e | e <;> rw [e] <;> rfl
theorem arches_eq {m : Int} {s : Nat → Int32} {y : YT} (h : Rel s y) (ho : okY m y) : ∀ k, k ≤ 4 → g_arches s k = y_arches y k
  | 0, _ => rfl
  | k + 1, hk => by
    show g_arches s k + (if s (10 + 24 * k + 1) ≤ 0 then 0 else 1) = y_arches y k + (if sC (yS y k) = 0 then 0 else 1)
    rw [arches_eq h ho k (by omega), arch_eq h ho (by omega)]
theorem tellS_eq {m : Int} {s : Nat → Int32} {y : YT} (h : Rel s y) (ho : okY m y) {k : Nat} (hk : k < 4) (v : Int32) : g_tellS s k (sN (yS y k)) v = y_tellS y k v := by
  have hr := h.1 k hk
  unfold g_tellS y_tellS
  rw [total_eq hr, hr.1, hr.2.1, arch_eq h ho hk, hr.2.2.2.1, flows_eq hr (ho.1 k hk).1 (h.2.2.1 1 (by omega))]
theorem tellL_eq {s : Nat → Int32} {y : YT} (h : Rel s y) {k j : Nat} (hk : k < 4) (hj : j < sN (yS y k)) (v : Int32) : g_tellL s k j v = y_tellL y k j v := by
  have hr := (h.1 k hk).2.2.2.2 j hj
  unfold g_tellL y_tellL
  rw [hr.1, hr.2, show s 7 = yZ y 1 from h.2.2.1 1 (by omega)]
theorem tellH_eq {s : Nat → Int32} {y : YT} (h : Rel s y) {j i : Nat} (hj : j < 6) (hi : i < 2) : s (106 + 2 * j + i) = y_tellH y j (nI i) := by
  have hr := h.2.1 j hj
  unfold y_tellH
  rcases (show i = 0 ∨ i = 1 by omega) with rfl | rfl
  · rw [if_pos (show nI 0 = 0 from rfl)]; exact hr.1
  · rw [if_neg (show ¬ nI 1 = 0 by decide)]; exact hr.2
theorem reason_eq {m : Int} {s : Nat → Int32} {y : YT} (h : Rel s y) (ho : okY m y) {k j : Nat} (hk : k < 4) (hj : j < 6) : g_reason s k j = y_why y k j := by
  have hr := h.1 k hk
  have hn := (ho.1 k hk).1
  unfold g_reason y_why
  rw [hr.1, hr.2.2.1, (h.2.1 j hj).1, (h.2.1 j hj).2, flows_eq hr hn (h.2.2.1 1 (by omega))]
  by_cases q : sN (yS y k) = 0
  · rw [if_pos q, if_pos (by rw [q]; rfl)]
  · rw [if_neg q, if_neg (fun e => q ((nI_z (by omega)).mp e))]
theorem more_eq {m : Int} {s : Nat → Int32} {y : YT} (h : Rel s y) (ho : okY m y) (hm : m < 1073741824) {k q : Nat} (hk : k < 4) (hq : q < 4) (h1 : 1 ≤ sN (yS y k)) (h2 : 1 ≤ sN (yS y q)) : g_more s k q = c_more (yS y k) (yS y q) := by
  have a1 := ((h.1 k hk).2.2.2.2 0 (by omega)).2
  have a2 := ((h.1 q hq).2.2.2.2 0 (by omega)).2
  have b1 := ((ho.1 k hk).2.1 0 (by omega)).2
  have b2 := ((ho.1 q hq).2.1 0 (by omega)).2
  unfold iB at b1 b2
  unfold g_more c_more
  rw [a1, a2, (h.1 k hk).Nn (ho.1 k hk).1, (h.1 q hq).Nn (ho.1 q hq).1, total_eq (h.1 k hk), total_eq (h.1 q hq)]
  have e : (sA (yS y k) 0 - sA (yS y q) 0).toInt = (sA (yS y k) 0).toInt - (sA (yS y q) 0).toInt := i_sub (by omega) (by omega)
  by_cases c : sA (yS y k) 0 = sA (yS y q) 0
  · rw [if_pos c, if_pos (by rw [c, i_subs])]
  · rw [if_neg c, if_neg (by rw [i_eq, e, i_0]; rw [i_eq] at c; omega)]
    by_cases c2 : sA (yS y k) 0 ≤ sA (yS y q) 0
    · rw [if_pos c2, if_pos (by rw [i_le, e, i_0]; rw [i_le] at c2; omega)]
    · rw [if_neg c2, if_neg (by rw [i_le, e, i_0]; rw [i_le] at c2; omega)]
theorem best_eq {m : Int} {s : Nat → Int32} {y : YT} (h : Rel s y) (ho : okY m y) (hm : m < 1073741824) : ∀ k, k ≤ 4 → g_best s k = y_best y k ∧ (y_best y k = 4 ∨ 1 ≤ sN (yS y (y_best y k)))
  | 0, _ => ⟨rfl, Or.inl rfl⟩
  | k + 1, hk => by
    obtain ⟨e, b⟩ := best_eq h ho hm k (by omega)
    have hn := (ho.1 k (by omega)).1
    have hlt := y_best_lt (y := y) k
    unfold g_best y_best
    rw [(h.1 k (by omega)).1, e]
    by_cases q : sN (yS y k) ≤ 0
    · rw [if_pos q, if_pos ((nI_le0 (by omega)).mpr (by omega))]
      exact ⟨rfl, b⟩
    · rw [if_neg q, if_neg (fun f => q (by have := (nI_le0 (by omega)).mp f; omega))]
      by_cases q4 : y_best y k = 4
      · rw [if_pos q4, if_pos q4]
        exact ⟨rfl, Or.inr (by omega)⟩
      · rw [if_neg q4, more_eq h ho hm (by omega) (by omega) (by omega) (by rcases b with b | b; exact absurd b q4; exact b)]
        split
        · exact ⟨rfl, b⟩
        · exact ⟨rfl, Or.inr (by omega)⟩
theorem urgent_eq {m : Int} {s : Nat → Int32} {y : YT} (h : Rel s y) (ho : okY m y) (hm : m < 1073741824) : g_bestI (g_best s 4) = g_bestI (y_best y 4) := by rw [(best_eq h ho hm 4 (by omega)).1]
theorem count_eq {m : Int} {s : Nat → Int32} {C : CT} (h : Rel s (cY C)) (ho : okY m (cY C)) (v : Int32) : g_count s (nI (cQ C)) v = c_count C v := by
  unfold g_count c_count
  rw [inSilos_eq h ho 4 (by omega), inShips_eq h 6 (by omega), pads_eq h 4 (by omega), arches_eq h ho 4 (by omega), h.2.2.2 0 (by omega), h.2.2.2 1 (by omega), h.2.2.2 2 (by omega), h.2.2.2 3 (by omega), h.2.2.2 4 (by omega), h.2.2.2 5 (by omega), show s 6 = yZ (cY C) 0 from h.2.2.1 0 (by omega), show s 7 = yZ (cY C) 1 from h.2.2.1 1 (by omega), show s 8 = yZ (cY C) 2 from h.2.2.1 2 (by omega), show s 9 = yZ (cY C) 3 from h.2.2.1 3 (by omega)]
/-! WHAT WOULD FLOW -/
theorem RS_tr {s : Nat → Int32} {k : Nat} {C : CT} {u : Int32} (h : RS s k (yS (cY C) k)) (hn : sN (yS (cY C) k) ≤ 10) : RS (upd s (10 + 24 * k + 0) u) k (c_tr C k u) := by
  obtain ⟨a1, a2, a3, a4, a5⟩ := h
  refine ⟨?_, ?_, ?_, ?_, fun j hj => ?_⟩
  · rw [pk_un (by omega)]; exact a1
  · rw [pk_us]; rfl
  · rw [pk_un (by omega)]; exact a3
  · rw [pk_un (by omega)]; exact a4
  · have hj : j < sN (yS (cY C) k) := hj
    rw [pk_un (by omega), pk_un (by omega)]
    have b := a5 j hj
    refine ⟨b.1.trans ?_, b.2.trans ?_⟩
    · show _ = cpN _ _ (0) (0) 10 j
      unfold cpN; rw [if_pos (by omega)]; rfl
    · show _ = cpN _ _ (0) (0) 10 j
      unfold cpN; rw [if_pos (by omega)]; rfl
theorem okS_tr {m : Int} {C : CT} {k : Nat} {u : Int32} (h : okS m (yS (cY C) k)) (hu : iB 0 4 u) : okS m (c_tr C k u) := by
  have e : ∀ i, i < sN (yS (cY C) k) → sT (c_tr C k u) i = sT (yS (cY C) k) i ∧ sA (c_tr C k u) i = sA (yS (cY C) k) i := fun i hi => by
    have := h.1
    refine ⟨?_, ?_⟩
    · show cpN _ _ (0) (0) 10 i = _
      unfold cpN; rw [if_pos (by omega)]; rfl
    · show cpN _ _ (0) (0) 10 i = _
      unfold cpN; rw [if_pos (by omega)]; rfl
  have et : s_total (c_tr C k u) = s_total (yS (cY C) k) := sum_cong (t := sT (yS (cY C) k)) (t2 := sT (c_tr C k u)) (sN (yS (cY C) k) - 0) (fun i _ hi => (e i (by omega)).1)
  obtain ⟨a1, a2, a3, a4, a5, a6, a7⟩ := h
  refine ⟨a1, fun j hj => ?_, by rw [et]; exact a3, hu, a5, a6, a7⟩
  rw [(e j hj).1, (e j hj).2]
  exact a2 j hj
theorem would_eq {m : Int} {s : Nat → Int32} {C : CT} (h : Rel s (cY C)) (ho : okY m (cY C)) {k j : Nat} (hk : k < 4) (hj : j < 6) {u : Int32} (hu : iB 0 4 u) (q : Nat) : g_hoursR (upd s (10 + 24 * k + 0) u) k j q = c_ifR C k j q u :=
  (hours_ok (h := c_tu C j) (RS_tr (h.1 k hk) (ho.1 k hk).1) ((h.2.1 j hj).cong (fun i _ _ => pk_un (by omega))) (okS_tr (ho.1 k hk) hu) (ho.2.1 j hj) ho.2.2 (by rw [pk_un (by omega)]; exact h.2.2.1 1 (by omega)) (by rw [pk_un (by omega)]; exact h.2.2.1 2 (by omega)) hk hj q).1
/-! SOFTNESS -/
theorem softL_eq {s z : Nat → Int32} {k : Nat} {v : ST} (h : RS s k v) (h7 : s 7 = z 1) (a : Int32) : ∀ n, n ≤ sN v → g_softL a s k n = a + c_soft z v n
  | 0, _ => by show a = a + 0; rw [Int32.add_zero]
  | n + 1, hn => by
    show g_softL a s k n + (if g_set (s (10 + 24 * k + (4 + 2 * n + 1))) (s 7) = 0 then s (10 + 24 * k + (4 + 2 * n)) else 0) = a + (if g_set (sA v n) (z 1) = 0 then c_soft z v n + sT v n else c_soft z v n)
    have b := h.2.2.2.2 n (by omega)
    rw [softL_eq h h7 a n (by omega), b.1, b.2, h7]
    split
    · rw [Int32.add_assoc]
    · rw [Int32.add_zero]
theorem softS_eq {m : Int} {s : Nat → Int32} {y : YT} (h : Rel s y) (ho : okY m y) : ∀ k, k ≤ 4 → g_softS s k = y_soft y k
  | 0, _ => rfl
  | k + 1, hk => by
    show g_softL (g_softS s k) s k (Nn s k) = y_soft y k + c_soft (yZ y) (yS y k) (sN (yS y k))
    rw [(h.1 k (by omega)).Nn (ho.1 k (by omega)).1, softL_eq (h.1 k (by omega)) (h.2.2.1 1 (by omega)) _ _ (Nat.le_refl _), softS_eq h ho k (by omega)]
theorem softD_eq {m : Int} {s : Nat → Int32} {y : YT} (h : Rel s y) (ho : okY m y) : g_softD s = y_softD y := by
  unfold g_softD y_softD
  rw [softS_eq h ho 4 (by omega), inSilos_eq h ho 4 (by omega)]
