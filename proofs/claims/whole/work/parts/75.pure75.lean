/-! SHAKES, PADS, SETTINGS, SHIPS -/
theorem heavy_eq {s : Nat → Int32} {k : Nat} {v : ST} {z : Nat → Int32} (h : RS s k v) (h9 : s 9 = z 3) (h1 : 1 ≤ sN v ∨ sC v = 2) : g_heavy s k (sN v) = if s_held v < z 3 then 0 else 1 := by
  unfold g_heavy s_held
  rw [h.2.2.1, h9]
  split
  · rw [sum_eq h 0 (sN v - 0) (by omega)]
  · rename_i q
    rw [sum_eq h 1 (sN v - 1) (by rcases h1 with h1 | h1; omega; exact absurd h1 q)]
theorem brk_eq {m : Int} {s : Nat → Int32} {k : Nat} {v : ST} {z : Nat → Int32} (h : RS s k v) (ho : okS m v) (h9 : s 9 = z 3) : g_need s k (sN v) = c_brk z v := by
  obtain ⟨a1, a2, a3, a4, a5, a6, a7⟩ := ho
  unfold g_need c_brk
  by_cases q : sC v = 0
  · rw [if_pos (h.2.2.1.trans q), if_pos q]
  · have h1 : 1 ≤ sN v ∨ sC v = 2 := by
      rcases a5 with e | e | e
      · exact absurd e q
      · exact Or.inl (a6 e)
      · exact Or.inr e
    rw [if_neg (by rw [h.2.2.1]; exact q), if_neg q, heavy_eq h h9 h1, h.2.2.2.1]
    have b : iB 0 2 (sK v) := by
      rcases a7 with e | e
      · exact absurd e q
      · exact e
    unfold iB at b
    by_cases q2 : s_held v < z 3
    · rw [if_pos q2, if_pos q2, if_pos rfl]
      have e : (3 - sK v).toInt = 3 - (sK v).toInt := by rw [i_sub (by rw [i_3]; omega) (by rw [i_3]; omega), i_3]
      split
      · rfl
      · rename_i q3
        rw [i_lt, i_1, e] at q3
        rw [i_eq, e, i_1]
        omega
    · rw [if_neg q2, if_neg q2, if_neg (by decide)]
theorem brk_1 {m : Int} {v : ST} {z : Nat → Int32} (ho : okS m v) : c_brk z v = 1 ↔ ¬ sC v = 0 ∧ (s_held v < z 3 → ¬ sK v + 1 < 3) := by
  obtain ⟨a1, a2, a3, a4, a5, a6, a7⟩ := ho
  unfold c_brk
  by_cases q : sC v = 0
  · rw [if_pos q]
    exact ⟨fun e => absurd e (by decide), fun e => absurd q e.1⟩
  · rw [if_neg q]
    have b : iB 0 2 (sK v) := by
      rcases a7 with e | e
      · exact absurd e q
      · exact e
    unfold iB at b
    have e : (3 - sK v).toInt = 3 - (sK v).toInt := by rw [i_sub (by rw [i_3]; omega) (by rw [i_3]; omega), i_3]
    have e2 : (sK v + 1).toInt = (sK v).toInt + 1 := by rw [i_add (by rw [i_1]; omega) (by rw [i_1]; omega), i_1]
    by_cases q2 : s_held v < z 3
    · rw [if_pos q2]
      have e3 : sK v + 1 < 3 ↔ (sK v).toInt + 1 < 3 := by rw [i_lt, e2, i_3]
      rw [e3]
      split
      · rename_i q3
        rw [i_lt, i_1, e] at q3
        rw [i_eq, e, i_1]
        exact ⟨fun _ => ⟨q, fun _ => by omega⟩, fun h => by have := h.2 q2; omega⟩
      · rename_i q3
        rw [i_lt, i_1, e] at q3
        exact ⟨fun _ => ⟨q, fun _ => by omega⟩, fun _ => rfl⟩
    · rw [if_neg q2]
      exact ⟨fun _ => ⟨q, fun h => absurd h q2⟩, fun _ => rfl⟩
theorem shR_eq {m : Int} {s : Nat → Int32} {k : Nat} {v : ST} {z : Nat → Int32} (h : RS s k v) (ho : okS m v) (h9 : s 9 = z 3) : g_shR s k (sN v) = if c_brk z v = 1 then 1 else 0 := by
  have a5 := ho.2.2.2.2.1
  have a6 := ho.2.2.2.2.2.1
  unfold g_shR
  rw [h.2.2.1, h.2.2.2.1]
  by_cases q : sC v = 0
  · rw [if_pos (by rw [q]; decide), if_neg (fun e => ((brk_1 ho).mp e).1 q)]
  · have h1 : 1 ≤ sN v ∨ sC v = 2 := by
      rcases a5 with e | e | e
      · exact absurd e q
      · exact Or.inl (a6 e)
      · exact Or.inr e
    rw [if_neg (by rcases a5 with e | e | e; exact absurd e q; rw [e]; decide; rw [e]; decide), heavy_eq h h9 h1]
    by_cases q2 : s_held v < z 3
    · rw [if_pos q2, if_pos rfl]
      by_cases q3 : sK v + 1 < 3
      · rw [if_pos q3, if_neg (fun e => ((brk_1 ho).mp e).2 q2 q3)]
      · rw [if_neg q3, if_pos ((brk_1 ho).mpr ⟨q, fun _ => q3⟩)]
    · rw [if_neg q2, if_neg (by decide), if_pos ((brk_1 ho).mpr ⟨q, fun e => absurd e q2⟩)]
/-- the shaken silo -/
def v_shake (z : Nat → Int32) (v : ST) : ST := (sT v, s_young (sA v), sN v, sP v, (if c_brk z v = 1 then 0 else sC v), sK v + 1)
theorem ySetS_two {y : YT} {k : Nat} {v w : ST} : ySetS (ySetS y k v) k w = ySetS y k w := by
  unfold ySetS
  have e : (fun i => if i = k then w else (fun i => if i = k then v else y.1 i) i) = fun i => if i = k then w else y.1 i := by
    funext i
    by_cases hi : i = k <;> simp [hi]
  exact congrArg (fun q => ((q, y.2) : YT)) e
theorem y_shake_eq (y : YT) (k : Nat) : (∀ i, yS (y_shake y k) i = if i = k then v_shake (yZ y) (yS y k) else yS y i) ∧ yH (y_shake y k) = yH y ∧ yZ (y_shake y k) = yZ y ∧ yC (y_shake y k) = upd (yC y) 4 (yC y 4 + 1) := by
  have e : yS (y_sh1 y k) k = (sT (yS y k), sA (yS y k), sN (yS y k), sP (yS y k), sC (yS y k), sK (yS y k) + 1) := by
    show yS (y_sh0 y k) k = _
    exact yS_set
  have e1 : ∀ i, yS (y_shake1 y k) i = if i = k then (sT (yS y k), s_young (sA (yS y k)), sN (yS y k), sP (yS y k), sC (yS y k), sK (yS y k) + 1) else yS y i := fun i => by
    unfold y_shake1
    by_cases q : i = k
    · subst q; rw [if_pos rfl, yS_set, e]
    · rw [if_neg q, yS_ne q]
      show yS (y_sh0 y k) i = _
      exact yS_ne q
  refine ⟨fun i => ?_, ?_, ?_, ?_⟩
  · unfold y_shake v_shake
    by_cases c : c_brk (yZ y) (yS y k) = 1
    · rw [if_pos c, if_pos c]
      by_cases q : i = k
      · subst q; rw [yS_set, if_pos rfl, e1 i, if_pos rfl]
      · rw [yS_ne q, if_neg q, e1 i, if_neg q]
    · rw [if_neg c, if_neg c]
      exact e1 i
  · unfold y_shake; split <;> rfl
  · unfold y_shake; split <;> rfl
  · unfold y_shake; split <;> rfl
theorem s_young_at {m : Int} {a : Nat → Int32} (h : iB 0 m (a 0)) : s_young a = upd a 0 (if a 0 ≤ 0 then 0 else a 0 - 1) ∧ (m < 2147483648 → iB 0 m (if a 0 ≤ 0 then 0 else a 0 - 1)) := by
  unfold iB at h
  have h9 := Int32.toInt_lt (a 0)
  have e : (a 0 - 1).toInt = (a 0).toInt - 1 := by rw [i_sub (by rw [i_1]; omega) (by rw [i_1]; omega), i_1]
  refine ⟨?_, fun _ => ?_⟩
  · unfold s_young
    congr 1
    by_cases q : a 0 ≤ 0
    · rw [if_pos q, if_neg]
      rw [i_lt, e, i_0]
      rw [i_le, i_0] at q
      omega
    · rw [if_neg q]
      split
      · rfl
      · rename_i q2
        rw [i_lt, e, i_0] at q2
        rw [i_le, i_0] at q
        rw [i_eq, e, i_0]
        omega
  · unfold iB
    split
    · rw [i_0]; omega
    · rename_i q
      rw [i_le, i_0] at q
      rw [e]
      omega
theorem shake_ok {m : Int} {s : Nat → Int32} {y : YT} {k : Nat} (h : Rel s y) (ho : okY m y) (hk : k < 4) (h1 : 1 ≤ sN (yS y k)) : g_shR s k (sN (yS y k)) = y_shakeR y k ∧ Rel (g_shS s k (sN (yS y k))) (y_shake y k) ∧ okY m (y_shake y k) := by
  have hs := ho.1 k hk
  have hr := h.1 k hk
  have h9 : s 9 = yZ y 3 := h.2.2.1 3 (by omega)
  have eR := shR_eq hr hs h9
  obtain ⟨q1, q2, q3, q4⟩ := y_shake_eq y k
  have hy := s_young_at (hs.2.1 0 (by omega)).2
  generalize hn : sN (yS y k) = n at *
  -- the row, place by place
  have p1 : ∀ i, i ≠ 10 + 24 * k + 2 → i ≠ 10 + 24 * k + 1 → i ≠ 10 + 24 * k + 5 → i ≠ 4 → g_shS s k n i = s i := fun i a b c d => by
    unfold g_shS g_sh3 g_sh2 g_sh1
    rw [pk_un d, pk_un c, pk_un b, pk_un a]
  have p2 : g_shS s k n (10 + 24 * k + 2) = s (10 + 24 * k + 2) + 1 := by
    unfold g_shS g_sh3 g_sh2 g_sh1
    rw [pk_un (by omega), pk_un (by omega), pk_un (by omega), pk_us]
  have p3 : g_shS s k n (10 + 24 * k + 1) = if g_shR s k n = 0 then s (10 + 24 * k + 1) else 0 := by
    unfold g_shS g_sh3
    rw [pk_un (by omega), pk_un (by omega)]
    unfold g_sh2
    rw [pk_us]
    unfold g_sh1
    rw [pk_un (by omega)]
  have p4 : g_shS s k n (10 + 24 * k + 5) = if s (10 + 24 * k + 5) ≤ 0 then 0 else s (10 + 24 * k + 5) - 1 := by
    unfold g_shS
    rw [pk_un (by omega)]
    unfold g_sh3
    rw [pk_us]
    have e : g_sh2 s k n (10 + 24 * k + (4 + 2 * 0 + 1)) = s (10 + 24 * k + 5) := by
      unfold g_sh2 g_sh1
      rw [pk_un (by omega), pk_un (by omega)]
    rw [e]
  have p5 : g_shS s k n 4 = s 4 + 1 := by
    unfold g_shS
    rw [pk_us]
    unfold g_sh3 g_sh2 g_sh1
    rw [pk_un (by omega), pk_un (by omega), pk_un (by omega)]
  refine ⟨eR, ⟨fun k' hk' => ?_, fun j hj => ?_, fun i hi => ?_, fun i hi => ?_⟩, fun k' hk' => ?_, ?_, ?_⟩
  · rw [q1]
    by_cases e : k' = k
    · subst e
      rw [if_pos rfl]
      obtain ⟨a1, a2, a3, a4, a5⟩ := hr
      refine ⟨?_, ?_, ?_, ?_, fun j hj => ⟨?_, ?_⟩⟩
      · rw [p1 _ (by omega) (by omega) (by omega) (by omega)]; exact a1
      · rw [p1 _ (by omega) (by omega) (by omega) (by omega)]; exact a2
      · rw [p3, a3, eR]
        show _ = if c_brk (yZ y) (yS y k') = 1 then 0 else sC (yS y k')
        by_cases c : c_brk (yZ y) (yS y k') = 1
        · rw [if_pos c, if_pos c, if_neg (by decide)]
        · rw [if_neg c, if_neg c, if_pos rfl]
      · rw [p2, a4]; rfl
      · rw [p1 _ (by omega) (by omega) (by omega) (by omega)]; exact (a5 j hj).1
      · show _ = s_young (sA (yS y k')) j
        rw [hy.1]
        by_cases j0 : j = 0
        · subst j0
          have a50 := (a5 0 (by omega)).2
          rw [pk_us, show 10 + 24 * k' + (4 + 2 * 0 + 1) = 10 + 24 * k' + 5 from rfl, p4]
          rw [show s (10 + 24 * k' + 5) = sA (yS y k') 0 from a50]
        · rw [pk_un j0, p1 _ (by omega) (by omega) (by omega) (by omega)]
          exact (a5 j hj).2
    · rw [if_neg e]
      exact (h.1 k' hk').cong (ho.1 k' hk').1 (fun i _ _ => p1 i (by omega) (by omega) (by omega) (by omega))
  · rw [q2]
    exact (h.2.1 j hj).cong (fun i _ _ => p1 i (by omega) (by omega) (by omega) (by omega))
  · rw [q3, p1 _ (by omega) (by omega) (by omega) (by omega)]; exact h.2.2.1 i hi
  · rw [q4]
    by_cases e : i = 4
    · subst e; rw [pk_us, p5, h.2.2.2 4 (by omega)]
    · rw [pk_un e, p1 _ (by omega) (by omega) (by omega) e]; exact h.2.2.2 i hi
  · rw [q1]
    by_cases e : k' = k
    · subst e
      rw [if_pos rfl]
      obtain ⟨a1, a2, a3, a4, a5, a6, a7⟩ := id hs
      have hm : 0 ≤ m := by have := (a2 0 (by omega)).2; unfold iB at this; omega
      refine ⟨a1, fun j hj => ⟨(a2 j hj).1, ?_⟩, a3, a4, ?_, ?_, ?_⟩
      · show iB 0 m (s_young (sA (yS y k')) j)
        rw [hy.1]
        by_cases j0 : j = 0
        · subst j0
          rw [pk_us]
          have b := (a2 0 (by omega)).2
          unfold iB at b ⊢
          have h9 := Int32.toInt_lt (sA (yS y k') 0)
          have e : (sA (yS y k') 0 - 1).toInt = (sA (yS y k') 0).toInt - 1 := by rw [i_sub (by rw [i_1]; omega) (by rw [i_1]; omega), i_1]
          split
          · rw [i_0]; omega
          · rename_i q
            rw [i_le, i_0] at q
            rw [e]
            omega
        · rw [pk_un j0]; exact (a2 j hj).2
      · show (if c_brk (yZ y) (yS y k') = 1 then (0 : Int32) else sC (yS y k')) = 0 ∨ (if c_brk (yZ y) (yS y k') = 1 then (0 : Int32) else sC (yS y k')) = 1 ∨ (if c_brk (yZ y) (yS y k') = 1 then (0 : Int32) else sC (yS y k')) = 2
        split
        · exact Or.inl rfl
        · exact a5
      · intro _; show 1 ≤ sN (yS y k'); omega
      · show (if c_brk (yZ y) (yS y k') = 1 then (0 : Int32) else sC (yS y k')) = 0 ∨ iB 0 2 (sK (yS y k') + 1)
        split
        · exact Or.inl rfl
        · rename_i c
          rcases a7 with a7 | a7
          · exact Or.inl a7
          · by_cases c0 : sC (yS y k') = 0
            · exact Or.inl c0
            · right
              unfold iB at a7 ⊢
              have e2 : (sK (yS y k') + 1).toInt = (sK (yS y k')).toInt + 1 := by rw [i_add (by rw [i_1]; omega) (by rw [i_1]; omega), i_1]
              rw [e2]
              have c9 : ¬ (s_held (yS y k') < yZ y 3 → ¬ sK (yS y k') + 1 < 3) := fun f => c ((brk_1 hs).mpr ⟨c0, f⟩)
              have c8 : sK (yS y k') + 1 < 3 := by
                rcases Decidable.em (sK (yS y k') + 1 < 3) with f | f
                · exact f
                · exact absurd (fun _ => f) c9
              rw [i_lt, e2, i_3] at c8
              omega
    · rw [if_neg e]; exact ho.1 k' hk'
  · rw [q2]; exact ho.2.1
  · rw [q3]; exact ho.2.2
theorem ship_ok {m : Int} {s : Nat → Int32} {y : YT} {j : Nat} {u t : Int32} (h : Rel s y) (ho : okY m y) (hj : j < 6) (hu1 : ¬ u < 0) (hu2 : ¬ 900 < u) (ht1 : ¬ t < 0) (ht2 : t ≤ u) : s (106 + 2 * j) = hT (yH y j) ∧ Rel (g_shipS s j u t) (y_ship y j u t) ∧ okY m (y_ship y j u t) := by
  rw [i_lt, i_0] at hu1 ht1
  rw [i_lt, i_900] at hu2
  rw [i_le] at ht2
  have p1 : ∀ i, i ≠ 106 + 2 * j → i ≠ 106 + 2 * j + 1 → i ≠ 2 → i ≠ 3 → g_shipS s j u t i = s i := fun i a b c d => by
    unfold g_shipS
    rw [pk_un d, pk_un c, pk_un b, pk_un a]
  have p2 : g_shipS s j u t (106 + 2 * j) = t := by
    unfold g_shipS
    rw [pk_un (by omega), pk_un (by omega), pk_un (by omega), pk_us]
  have p3 : g_shipS s j u t (106 + 2 * j + 1) = u := by
    unfold g_shipS
    rw [pk_un (by omega), pk_un (by omega), pk_us]
  have p4 : g_shipS s j u t 2 = s 2 + t := by
    unfold g_shipS
    rw [pk_un (by omega), pk_us, pk_un (by omega), pk_un (by omega)]
  have p5 : g_shipS s j u t 3 = s 3 + s (106 + 2 * j) := by
    unfold g_shipS
    rw [pk_us, pk_un (by omega), pk_un (by omega), pk_un (by omega)]
  have e1 : ∀ i, yH (y_ship y j u t) i = if i = j then (t, u) else yH y i := fun i => by
    show yH (y_ship1 y j u t) i = _
    unfold y_ship1
    rw [ySetH_two]
    by_cases q : i = j
    · subst q; rw [if_pos rfl, yH_set, yH_set]
    · rw [if_neg q, yH_ne q]
  have e2 : yC (y_ship y j u t) = upd (upd (yC y) 2 (yC y 2 + t)) 3 (upd (yC y) 2 (yC y 2 + t) 3 + hT (yH y j)) := rfl
  refine ⟨(h.2.1 j hj).1, ⟨fun k hk => ?_, fun i hi => ?_, fun i hi => ?_, fun i hi => ?_⟩, fun k hk => ho.1 k hk, fun i hi => ?_, ho.2.2⟩
  · exact (h.1 k hk).cong (ho.1 k hk).1 (fun i _ _ => p1 i (by omega) (by omega) (by omega) (by omega))
  · rw [e1]
    by_cases q : i = j
    · subst q; rw [if_pos rfl]; exact ⟨p2, p3⟩
    · rw [if_neg q]
      exact (h.2.1 i hi).cong (fun i' _ _ => p1 i' (by omega) (by omega) (by omega) (by omega))
  · rw [p1 _ (by omega) (by omega) (by omega) (by omega)]; exact h.2.2.1 i hi
  · rw [e2]
    by_cases q3 : i = 3
    · subst q3; rw [pk_us, p5, pk_un (by omega), h.2.2.2 3 (by omega), (h.2.1 j hj).1]
    · rw [pk_un q3]
      by_cases q2 : i = 2
      · subst q2; rw [pk_us, p4, h.2.2.2 2 (by omega)]
      · rw [pk_un q2, p1 _ (by omega) (by omega) (by omega) (by omega)]; exact h.2.2.2 i hi
  · rw [e1]
    split
    · unfold okH
      show 0 ≤ t.toInt ∧ t.toInt ≤ u.toInt ∧ u.toInt ≤ 900
      omega
    · exact ho.2.1 i hi
theorem pads_eq {s : Nat → Int32} {y : YT} (h : Rel s y) : ∀ k, k ≤ 4 → g_padsOn s k = y_pads y k
  | 0, _ => rfl
  | k + 1, hk => by
    show g_padsOn s k + s (10 + 24 * k + 0) = y_pads y k + sP (yS y k)
    rw [pads_eq h k (by omega), (h.1 k (by omega)).2.1]
theorem padsS_ok {m : Int} {s : Nat → Int32} {y : YT} {k : Nat} {u : Int32} (h : Rel s y) (ho : okY m y) (hk : k < 4) (hu : iB 0 4 u) : Rel (upd s (10 + 24 * k + 0) u) (y_padsS y k u) ∧ okY m (y_padsS y k u) := by
  refine ⟨⟨fun k' hk' => ?_, fun j hj => ?_, fun i hi => ?_, fun i hi => ?_⟩, fun k' hk' => ?_, ho.2.1, ho.2.2⟩
  · unfold y_padsS
    by_cases q : k' = k
    · subst q
      rw [yS_set]
      obtain ⟨a1, a2, a3, a4, a5⟩ := h.1 k' hk'
      refine ⟨?_, ?_, ?_, ?_, fun j hj => ?_⟩
      · rw [pk_un (by omega)]; exact a1
      · rw [pk_us]
      · rw [pk_un (by omega)]; exact a3
      · rw [pk_un (by omega)]; exact a4
      · rw [pk_un (by omega), pk_un (by omega)]; exact a5 j hj
    · rw [yS_ne q]
      exact (h.1 k' hk').cong (ho.1 k' hk').1 (fun i _ _ => pk_un (by omega))
  · exact (h.2.1 j hj).cong (fun i _ _ => pk_un (by omega))
  · rw [pk_un (by omega)]; exact h.2.2.1 i hi
  · rw [pk_un (by omega)]; exact h.2.2.2 i hi
  · unfold y_padsS
    by_cases q : k' = k
    · subst q
      rw [yS_set]
      obtain ⟨a1, a2, a3, a4, a5, a6, a7⟩ := ho.1 k' hk'
      exact ⟨a1, a2, a3, hu, a5, a6, a7⟩
    · rw [yS_ne q]; exact ho.1 k' hk'
theorem setZ_ok {m : Int} {s : Nat → Int32} {y : YT} {i : Nat} {u : Int32} (h : Rel s y) (ho : okY m y) (hi : i < 4) (hu1 : ¬ u < z_least i) (hu2 : u ≤ z_most i) : s (6 + i) = yZ y i ∧ Rel (upd s (6 + i) u) (y_setZ y i u) ∧ okY m (y_setZ y i u) := by
  refine ⟨h.2.2.1 i hi, ⟨fun k hk => ?_, fun j hj => ?_, fun q hq => ?_, fun q hq => ?_⟩, ho.1, ho.2.1, ?_⟩
  · exact (h.1 k hk).cong (ho.1 k hk).1 (fun i _ _ => pk_un (by omega))
  · exact (h.2.1 j hj).cong (fun i _ _ => pk_un (by omega))
  · show _ = upd (yZ y) i u q
    by_cases e : q = i
    · subst e; rw [pk_us, pk_us]
    · rw [pk_un e, pk_un (by omega)]; exact h.2.2.1 q hq
  · rw [pk_un (by omega)]; exact h.2.2.2 q hq
  · obtain ⟨b0, b1, b2, b3⟩ := ho.2.2
    rw [i_lt] at hu1
    rw [i_le] at hu2
    show okZ (upd (yZ y) i u)
    rcases (show i = 0 ∨ i = 1 ∨ i = 2 ∨ i = 3 by omega) with rfl | rfl | rfl | rfl
    · refine ⟨?_, b1, b2, b3⟩
      rw [pk_us]
      exact ⟨by have : (z_least 0).toInt = 0 := by decide
                omega, by have : (z_most 0).toInt = 16 := by decide
                          omega⟩
    · refine ⟨b0, ?_, b2, b3⟩
      rw [pk_us]
      exact ⟨by have : (z_least 1).toInt = 1 := by decide
                omega, by have : (z_most 1).toInt = 20 := by decide
                          omega⟩
    · refine ⟨b0, b1, ?_, b3⟩
      rw [pk_us]
      exact ⟨by have : (z_least 2).toInt = 5 := by decide
                omega, by have : (z_most 2).toInt = 100 := by decide
                          omega⟩
    · refine ⟨b0, b1, b2, ?_⟩
      rw [pk_us]
      exact ⟨by have : (z_least 3).toInt = 0 := by decide
                omega, by have : (z_most 3).toInt = 900 := by decide
                          omega⟩
