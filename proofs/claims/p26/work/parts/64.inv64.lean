/-! PURE: shakes and days keep it too -/
theorem shake_okY {m : Int} {y : YT} {k : Nat} (ho : okY m y) (hk : k < 4) (h1 : 1 ≤ sN (yS y k)) : okY m (y_shake y k) := by
  have hs := ho.1 k hk
  obtain ⟨q1, q2, q3, q4⟩ := y_shake_eq y k
  have hy := s_young_at (hs.2.1 0 (by omega)).2
  refine ⟨fun k' hk' => ?_, ?_, ?_⟩
  · rw [q1]
    by_cases e : k' = k
    · subst e
      rw [if_pos rfl]
      obtain ⟨a1, a2, a3, a4, a5, a6, a7⟩ := id hs
      have hm : 0 ≤ m := by have := (a2 0 (by omega)).2; unfold iB at this; omega
      refine ⟨a1, fun j hj => ⟨(a2 j hj).1, ?_⟩, a3, a4, ?_, ?_, ?_⟩
      · show iB 0 m (s_young (sA (yS y k')) j)
        rw [hy.1]
        by_cases j0 : j = 0
        · subst j0
          rw [pk_us]
          have b := (a2 0 (by omega)).2
          unfold iB at b ⊢
          have h9 := Int32.toInt_lt (sA (yS y k') 0)
          have e : (sA (yS y k') 0 - 1).toInt = (sA (yS y k') 0).toInt - 1 := by rw [i_sub (by rw [i_1]; omega) (by rw [i_1]; omega), i_1]
          split
          · rw [i_0]; omega
          · rename_i q
            rw [i_le, i_0] at q
            rw [e]
            omega
        · rw [pk_un j0]; exact (a2 j hj).2
      · show (if c_brk (yZ y) (yS y k') = 1 then (0 : Int32) else sC (yS y k')) = 0 ∨ (if c_brk (yZ y) (yS y k') = 1 then (0 : Int32) else sC (yS y k')) = 1 ∨ (if c_brk (yZ y) (yS y k') = 1 then (0 : Int32) else sC (yS y k')) = 2
        split
        · exact Or.inl rfl
        · exact a5
      · intro _; show 1 ≤ sN (yS y k'); omega
      · show (if c_brk (yZ y) (yS y k') = 1 then (0 : Int32) else sC (yS y k')) = 0 ∨ iB 0 2 (sK (yS y k') + 1)
        split
        · exact Or.inl rfl
        · rename_i c
          rcases a7 with a7 | a7
          · exact Or.inl a7
          · by_cases c0 : sC (yS y k') = 0
            · exact Or.inl c0
            · right
              unfold iB at a7 ⊢
              have e2 : (sK (yS y k') + 1).toInt = (sK (yS y k')).toInt + 1 := by rw [i_add (by rw [i_1]; omega) (by rw [i_1]; omega), i_1]
              rw [e2]
              have c9 : ¬ (s_held (yS y k') < yZ y 3 → ¬ sK (yS y k') + 1 < 3) := fun f => c ((brk_1 hs).mpr ⟨c0, f⟩)
              have c8 : sK (yS y k') + 1 < 3 := by
                rcases Decidable.em (sK (yS y k') + 1 < 3) with f | f
                · exact f
                · exact absurd (fun _ => f) c9
              rw [i_lt, e2, i_3] at c8
              omega
    · rw [if_neg e]; exact ho.1 k' hk'
  · rw [q2]; exact ho.2.1
  · rw [q3]; exact ho.2.2
theorem shake_p {m : Nat} (hm : m ≤ 100000) {y : YT} {k : Nat} (h : IY m y) (hk : k < 4) (h1 : 1 ≤ sN (yS y k)) : 0 ≤ (y_shakeR y k).toInt ∧ IY (m + 1) (y_shake y k) := by
  obtain ⟨ho, hc, hn, hs, ha, hp⟩ := h
  obtain ⟨q1, q2, q3, q4⟩ := y_shake_eq y k
  have q5 : ∀ i, i ≠ k → yS (y_shake y k) i = yS y i := fun i hi => by rw [q1, if_neg hi]
  have q6 : yS (y_shake y k) k = v_shake (yZ y) (yS y k) := by rw [q1, if_pos rfl]
  unfold iB at hn
  have en : (yC y 4 + 1).toInt = (yC y 4).toInt + 1 := by rw [i_add (by rw [i_1]; omega) (by rw [i_1]; omega), i_1]
  refine ⟨?_, (shake_okY ho hk h1).mono (by omega), ?_, ?_, fun q => ?_, ?_, ?_⟩
  · unfold y_shakeR
    split <;> decide
  · refine cnY_S (y := y) (k := k) hc hk q5 ?_ (fun j _ => by rw [q2]) (fun i _ => by rw [q3]) (fun i hi => by rw [q4, pk_un (by omega)])
    rw [q6]
    intro i hi
    refine ⟨(hc.2.1 k hk i hi).1, ?_⟩
    show upd (sA (yS y k)) 0 _ i = 0
    rw [pk_un (by omega)]
    exact (hc.2.1 k hk i hi).2
  · rw [q4, pk_us]
    unfold iB
    omega
  · exfalso
    rw [q4, pk_us, i_eq, en, i_0] at q
    omega
  · have f := silos_set (y := y) (y2 := y_shake y k) hk (fun i _ hne => q5 i hne)
    have e1 : s_total (yS (y_shake y k) k) = s_total (yS y k) := by rw [q6]; rfl
    have e2 : y_silos y 4 - s_total (yS y k) + s_total (yS y k) = y_silos y 4 := by grind
    rw [e1, e2] at f
    have e3 : y_ships (y_shake y k) 6 = y_ships y 6 := by rw [sm_ships, sm_ships, q2]
    rw [f, e3, q4, pk_un (by omega), pk_un (by omega), pk_un (by omega)]
    exact ha
  · have e := pads_set (y := y) (y2 := y_shake y k) hk (fun i _ hne => q5 i hne)
    have e1 : sP (yS (y_shake y k) k) = sP (yS y k) := by rw [q6]; rfl
    have e2 : y_pads y 4 - sP (yS y k) + sP (yS y k) = y_pads y 4 := by grind
    rw [e, e1, e2, q3]
    exact hp
theorem days_p {m : Int} {y : YT} (hm0 : 0 ≤ m) (ho : okY m y) (hc : cnY y) : ∀ d : Nat, m + d < 2147483647 → d ≤ 1000 → okY (m + d) (y_P y d) ∧ cnY (y_P y d) ∧ yH (y_P y d) = yH y ∧ yZ (y_P y d) = yZ y ∧ (∀ i, i ≠ 0 → yC (y_P y d) i = yC y i) ∧ (∀ k, k < 4 → s_total (yS (y_P y d) k) = s_total (yS y k) ∧ sP (yS (y_P y d) k) = sP (yS y k)) ∧ ((∀ k, k < 4 → srS (yS y k)) → ∀ k, k < 4 → srS (yS (y_P y d) k)) ∧ 0 ≤ (y_PR y d).toInt ∧ (y_PR y d).toInt ≤ 4 * d
  | 0, _, _ => ⟨by rw [show m + ((0 : Nat) : Int) = m by omega]; exact ho, hc, rfl, rfl, fun _ _ => rfl, fun _ _ => ⟨rfl, rfl⟩, fun h => h, by show (0 : Int) ≤ (0 : Int32).toInt; decide, by show (0 : Int32).toInt ≤ _; decide⟩
  | d + 1, hd, hd2 => by
    obtain ⟨a1, a2, a3, a4, a5, a6, a7, a8, a9⟩ := days_p hm0 ho hc d (by omega) (by omega)
    have e1 : ∀ i, yS (y_P y (d + 1)) i = if i < 4 then c_dayV (yZ (y_P y d)) (yS (y_P y d) i) else yS (y_P y d) i := fun i => y_dS_S (y_P y d) (i := i) 4
    obtain ⟨f1, f2, f3⟩ := y_dS_H (y_P y d) 4
    have g1 : yH (y_P y (d + 1)) = yH (y_P y d) := f1
    have g2 : yZ (y_P y (d + 1)) = yZ (y_P y d) := f2
    have g3 : yC (y_P y (d + 1)) = upd (yC (y_P y d)) 0 (yC (y_P y d) 0 + 1) := f3
    refine ⟨⟨fun k hk => ?_, ?_, ?_⟩, ⟨fun k hk => ?_, fun k hk => ?_, ?_, ?_, fun i hi => ?_⟩, g1.trans a3, g2.trans a4, fun i hi => ?_, fun k hk => ?_, fun h k hk => ?_, ?_⟩
    · rw [e1, if_pos hk, c_dayV_arch]
      have := okS_arch (z := yZ (y_P y d)) (okS_old (a1.1 k hk) (by omega))
      exact this.mono (by omega)
    · rw [g1]; exact a1.2.1
    · rw [g2]; exact a1.2.2
    · rw [e1, if_neg (by omega)]; exact a2.1 k hk
    · rw [e1, if_pos hk]; exact cn_day (a2.2.1 k hk) (a1.1 k hk).1
    · rw [g1]; exact a2.2.2.1
    · rw [g2]; exact a2.2.2.2.1
    · rw [g3, pk_un (by omega)]; exact a2.2.2.2.2 i hi
    · rw [g3, pk_un hi]; exact a5 i hi
    · rw [e1, if_pos hk]
      exact ⟨day_total.trans (a6 k hk).1, day_f.2.2.2.trans (a6 k hk).2⟩
    · rw [e1, if_pos hk]
      exact sr_day (a1.1 k hk) (by omega) (a7 h k hk)
    · have r := dR_0 (y_P y d) 4 (by omega)
      show 0 ≤ (y_dR (y_P y d) (y_PR y d) 4).toInt ∧ (y_dR (y_P y d) (y_PR y d) 4).toInt ≤ _
      rw [y_dR_eq, i_add (by omega) (by omega)]
      omega
theorem pass_p {m : Nat} (hm : m ≤ 100000) {y : YT} {d : Nat} (h : IY m y) (hd : d ≤ 30) : 0 ≤ (y_PR y d).toInt ∧ IY (m + 1) (y_pass y d) := by
  obtain ⟨ho, hc, hn, hs, ha, hp⟩ := h
  obtain ⟨a1, a2, a3, a4, a5, a6, a7, a8, a9⟩ := days_p (by omega) ho hc d (by omega) (by omega)
  have e1 : ∀ i, i ≠ 0 → i ≠ 5 → yC (y_pass y d) i = yC y i := fun i h0 h5 => by
    show upd (yC (y_P y d)) 5 _ i = _
    rw [pk_un h5]
    exact a5 i h0
  have eS : yS (y_pass y d) = yS (y_P y d) := rfl
  have eH : yH (y_pass y d) = yH (y_P y d) := rfl
  have eZ : yZ (y_pass y d) = yZ (y_P y d) := rfl
  refine ⟨a8, ?_, ⟨a2.1, a2.2.1, a2.2.2.1, a2.2.2.2.1, fun i hi => ?_⟩, ?_, fun q k hk => ?_, ?_, ?_⟩
  · have b : okY (30 * (m : Int) + d) (y_pass y d) := a1
    exact b.mono (by omega)
  · rw [e1 i (by omega) (by omega)]; exact hc.2.2.2.2 i hi
  · rw [e1 4 (by omega) (by omega)]
    unfold iB at hn ⊢
    omega
  · rw [e1 4 (by omega) (by omega)] at q
    rw [eS]
    exact a7 (hs q) k hk
  · have f1 : y_silos (y_pass y d) 4 = y_silos y 4 := by
      rw [sm_silos, sm_silos]
      exact sm_cong 4 (fun i hi => (a6 i hi).1)
    have f2 : y_ships (y_pass y d) 6 = y_ships y 6 := by rw [sm_ships, sm_ships, eH, a3]
    rw [f1, f2, e1 1 (by omega) (by omega), e1 2 (by omega) (by omega), e1 3 (by omega) (by omega)]
    exact ha
  · have f1 : y_pads (y_pass y d) 4 = y_pads y 4 := by
      rw [sm_pads, sm_pads]
      exact sm_cong 4 (fun i hi => (a6 i hi).2)
    rw [f1, eZ, a4]
    exact hp
/-! WHAT THE LAW ASKS OF A STATE, out of it -/
theorem g_set_2 {a d : Int32} (hd : iB 1 20 d) : g_set a d = 2 ↔ ¬ a ≤ 2 * d := by
  unfold iB at hd
  have e : (2 * d).toInt = 2 * d.toInt := by rw [i_mul (by rw [i_2]; omega) (by rw [i_2]; omega), i_2]
  have l1 : d < a ↔ d.toInt < a.toInt := i_lt
  have l2 : 2 * d < a ↔ 2 * d.toInt < a.toInt := by rw [i_lt, e]
  have l3 : a ≤ 2 * d ↔ a.toInt ≤ 2 * d.toInt := by rw [i_le, e]
  unfold g_set
  rw [l3]
  by_cases h : d < a
  · rw [if_pos h]
    rw [l1] at h
    by_cases h2 : 2 * d < a
    · rw [if_pos h2]
      rw [l2] at h2
      exact ⟨fun _ => by omega, fun _ => rfl⟩
    · rw [if_neg h2]
      rw [l2] at h2
      exact ⟨fun q => absurd q (by decide), fun q => absurd q (by omega)⟩
  · rw [if_neg h]
    rw [l1] at h
    exact ⟨fun q => absurd q (by decide), fun q => absurd q (by omega)⟩
theorem total_0iff {m : Int} {v : ST} (ho : okS m v) : (s_total v).toInt = 0 ↔ sN v = 0 := by
  constructor
  · intro q
    rcases Nat.eq_zero_or_pos (sN v) with h | h
    · exact h
    · exfalso
      have b0 := (ho.2.1 0 (by omega)).1
      unfold iB at b0
      have e : s_total v = sT v 0 + s_sum (sT v) 1 (sN v - 1) := total_0 (by omega)
      have s1 := sum_B (t := sT v) (j := 1) (sN v - 1) (by have := ho.1; omega) (fun i _ hi => ⟨by have := (ho.2.1 i (by omega)).1.1; omega, by have := (ho.2.1 i (by omega)).1.2; omega⟩)
      have := ho.1
      rw [e, i_add (by omega) (by omega)] at q
      omega
  · intro q
    unfold s_total
    rw [q]
    show (0 : Int32).toInt = 0
    decide
theorem silos_0 {m : Int} {y : YT} (ho : okY m y) : ∀ n : Nat, n ≤ 4 → 0 ≤ (y_silos y n).toInt ∧ (y_silos y n).toInt ≤ 1200 * n ∧ ((y_silos y n).toInt = 0 ↔ ∀ k, k < n → sN (yS y k) = 0)
  | 0, _ => ⟨by show (0 : Int) ≤ (0 : Int32).toInt; decide, by show (0 : Int32).toInt ≤ _; decide, fun _ k hk => absurd hk (Nat.not_lt_zero k), fun _ => by show (0 : Int32).toInt = 0; decide⟩
  | n + 1, hn => by
    obtain ⟨a, b, c⟩ := silos_0 ho n (by omega)
    have t := total_B (ho.1 n (by omega))
    have z := total_0iff (ho.1 n (by omega))
    show 0 ≤ (y_silos y n + s_total (yS y n)).toInt ∧ (y_silos y n + s_total (yS y n)).toInt ≤ _ ∧ ((y_silos y n + s_total (yS y n)).toInt = 0 ↔ _)
    rw [i_add (by omega) (by omega)]
    refine ⟨by omega, by omega, fun h k hk => ?_, fun h => ?_⟩
    · by_cases q : k = n
      · rw [q]; exact z.mp (by omega)
      · exact c.mp (by omega) k (by omega)
    · have h1 := c.mpr (fun k hk => h k (by omega))
      have h2 := z.mpr (h n (by omega))
      omega
theorem best_4 {y : YT} : ∀ n : Nat, n ≤ 4 → (y_best y n = 4 ↔ ∀ k, k < n → sN (yS y k) = 0)
  | 0, _ => ⟨fun _ k hk => absurd hk (Nat.not_lt_zero k), fun _ => rfl⟩
  | n + 1, hn => by
    have ih := best_4 (y := y) n (by omega)
    have hl := y_best_lt (y := y) n
    unfold y_best
    by_cases q : sN (yS y n) ≤ 0
    · rw [if_pos q]
      refine ⟨fun h k hk => ?_, fun h => ih.mpr (fun k hk => h k (by omega))⟩
      by_cases e : k = n
      · rw [e]; omega
      · exact ih.mp h k (by omega)
    · rw [if_neg q]
      refine ⟨fun h => ?_, fun h => absurd (h n (by omega)) (by omega)⟩
      exfalso
      split at h
      · omega
      · rename_i q2
        split at h
        · exact q2 h
        · omega
theorem urgent_p {m : Int} {y : YT} (ho : okY m y) : g_bestI (y_best y 4) = -1 ↔ y_silos y 4 = 0 := by
  have a := best_4 (y := y) 4 (by omega)
  have b := (silos_0 ho 4 (by omega)).2.2
  have hl := y_best_lt (y := y) 4
  have e : g_bestI (y_best y 4) = -1 ↔ y_best y 4 = 4 := ⟨fun h => g_bestI_4 hl (by omega) h, fun h => by unfold g_bestI; rw [if_pos h]⟩
  have e2 : y_silos y 4 = 0 ↔ (y_silos y 4).toInt = 0 := by rw [i_eq, i_0]
  rw [e, e2, a, b]
theorem brk_p {m : Int} {z : Nat → Int32} {v : ST} (ho : okS m v) : (c_brk z v = 0 ↔ sC v = 0) ∧ ¬ 3 < c_brk z v := by
  obtain ⟨a1, a2, a3, a4, a5, a6, a7⟩ := ho
  unfold c_brk
  by_cases q : sC v = 0
  · rw [if_pos q]
    exact ⟨⟨fun _ => q, fun _ => rfl⟩, by decide⟩
  · rw [if_neg q]
    have b : iB 0 2 (sK v) := by
      rcases a7 with e | e
      · exact absurd e q
      · exact e
    unfold iB at b
    have e : (3 - sK v).toInt = 3 - (sK v).toInt := by rw [i_sub (by rw [i_3]; omega) (by rw [i_3]; omega), i_3]
    split
    · split
      · rename_i q3
        rw [i_lt, i_1, e] at q3
        refine ⟨⟨fun h => ?_, fun h => absurd h q⟩, ?_⟩
        · rw [i_eq, e, i_0] at h; omega
        · rw [i_lt, e, i_3]; omega
      · exact ⟨⟨fun h => absurd h (by decide), fun h => absurd h q⟩, by decide⟩
    · exact ⟨⟨fun h => absurd h (by decide), fun h => absurd h q⟩, by decide⟩
theorem why_1 {y : YT} {k j : Nat} : y_why y k j = 1 ↔ sN (yS y k) = 0 := by
  unfold y_why
  by_cases h : sN (yS y k) = 0
  · rw [if_pos h]
    exact ⟨fun _ => h, fun _ => rfl⟩
  · rw [if_neg h]
    refine ⟨fun q => ?_, fun q => absurd q h⟩
    exfalso
    revert q
    split
    · decide
    · split
      · decide
      · split <;> decide
theorem lay_p {m : Int} {v : ST} (ho : okS m v) {j : Nat} (hj : j < sN v) : ¬ sT v j < 1 ∧ ¬ 500 < sT v j := by
  have b := (ho.2.1 j hj).1
  unfold iB at b
  rw [i_lt, i_lt, i_1, i_500]
  omega
theorem tot_p {m : Int} {v : ST} (ho : okS m v) : ¬ 1200 < s_total v := by
  have b := total_B ho
  rw [i_lt, i_1200]
  omega
theorem hold_p {h : HT} (ho : okH h) : ¬ hT h < 0 ∧ hT h ≤ hH h := by
  unfold okH at ho
  rw [i_lt, i_le, i_0]
  omega
theorem srt_p {v : ST} (h : srS v) {j : Nat} (h1 : 1 ≤ j) (hj : j < sN v) : sA v j ≤ sA v (j - 1) := by
  have q := h (j - 1) (by omega)
  rw [show j - 1 + 1 = j by omega] at q
  exact i_le.mpr q
theorem ite01 {p : Prop} [Decidable p] (h : (if p then (0 : Int32) else 1) = 0) : p := by
  by_cases q : p
  · exact q
  · rw [if_neg q] at h
    exact absurd h (by decide)
theorem need_p {m : Int} {v : ST} (ho : okS m v) : 1 ≤ sN v ∨ sC v = 2 ∨ sC v = 0 := by
  rcases ho.2.2.2.2.1 with e | e | e
  · exact Or.inr (Or.inr e)
  · exact Or.inl (ho.2.2.2.2.2.1 e)
  · exact Or.inr (Or.inl e)
