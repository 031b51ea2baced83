/-! THE NEXT ARCH -/
def fOf (z : Nat → Int32) (v : ST) (d : Nat) : Prop := ¬ s_can v = 0 ∧ (z 1).toInt < (sA v 0).toInt + d
theorem can_2 {v : ST} (h : ¬ s_can v = 0) : 2 ≤ sN v := by
  unfold s_can at h
  split at h
  · exact absurd rfl h
  · omega
theorem dayR_f {m : Int} {z : Nat → Int32} {v : ST} (ho : okS m v) (hm : m < 1073741824) : c_dayR z v = 0 ↔ ¬ fOf z v 1 := by
  rw [c_dayR_arch]
  unfold v_archN fOf
  rw [show s_can (c_old v) = s_can v from rfl]
  by_cases q : s_can v = 0
  · rw [if_pos q]
    exact ⟨fun _ h => h.1 q, fun _ => rfl⟩
  · rw [if_neg q]
    have h2 := can_2 q
    have b := (ho.2.1 0 (by omega)).2
    unfold iB at b
    have e : (sA (c_old v) 0).toInt = (sA v 0).toInt + 1 := by
      show (s_old (sA v) (sN v) 0).toInt = _
      rw [s_old_at, if_pos (by omega), i_add (by rw [i_1]; omega) (by rw [i_1]; omega), i_1]
    by_cases g : g_set (sA (c_old v) 0) (z 1) = 0
    · rw [if_pos g]
      rw [g_set_0, i_lt, e] at g
      exact ⟨fun _ h => g (by omega), fun _ => rfl⟩
    · rw [if_neg g]
      rw [g_set_0, i_lt, e] at g
      exact ⟨fun h => absurd h (by decide), fun h => absurd ⟨q, by omega⟩ h⟩
theorem dR_0 (y : YT) : ∀ k : Nat, k ≤ 4 → 0 ≤ (y_dR y 0 k).toInt ∧ (y_dR y 0 k).toInt ≤ k ∧ ((y_dR y 0 k).toInt = 0 ↔ ∀ i, i < k → c_dayR (yZ y) (yS y i) = 0)
  | 0, _ => ⟨by show (0 : Int) ≤ (0 : Int32).toInt; decide, by show (0 : Int32).toInt ≤ _; decide, fun _ i hi => absurd hi (by omega), fun _ => by show (0 : Int32).toInt = 0; decide⟩
  | k + 1, hk => by
    obtain ⟨a, b, c⟩ := dR_0 y k (by omega)
    show 0 ≤ (y_dR y 0 k + c_dayR (yZ (y_dS y k)) (yS (y_dS y k) k)).toInt ∧ (y_dR y 0 k + c_dayR (yZ (y_dS y k)) (yS (y_dS y k) k)).toInt ≤ _ ∧ ((y_dR y 0 k + c_dayR (yZ (y_dS y k)) (yS (y_dS y k) k)).toInt = 0 ↔ _)
    rw [(y_dS_H y k).2.1, y_dS_S y k, if_neg (show ¬ k < k by omega)]
    rcases v_archN_01 (yZ y) (c_old (yS y k)) with e | e
    · rw [c_dayR_arch, e, Int32.add_zero]
      refine ⟨a, by omega, fun h i hi => ?_, fun h => c.mpr (fun i hi => h i (by omega))⟩
      by_cases q : i = k
      · subst q; rw [c_dayR_arch]; exact e
      · exact c.mp h i (by omega)
    · rw [c_dayR_arch, e, i_add (by rw [i_1]; omega) (by rw [i_1]; omega), i_1]
      refine ⟨by omega, by omega, fun h => by omega, fun h => ?_⟩
      have := h k (by omega)
      rw [c_dayR_arch, e] at this
      exact absurd this (by decide)
theorem y_P_Z (y : YT) : ∀ d, yZ (y_P y d) = yZ y
  | 0 => rfl
  | d + 1 => by
    show yZ (y_dS (y_P y d) 4) = _
    rw [(y_dS_H _ 4).2.1, y_P_Z y d]
theorem still_ok {m : Int} {y : YT} (ho : okY m y) {d : Nat} (hm : m + d < 1073741824) (h : ∀ d', d' < d → (y_dR (y_P y d') 0 4).toInt = 0) : okY (m + d) (y_P y d) ∧ ∀ k, k < 4 → s_can (yS (y_P y d) k) = s_can (yS y k) ∧ (¬ s_can (yS y k) = 0 → (sA (yS (y_P y d) k) 0).toInt = (sA (yS y k) 0).toInt + d) := by
  induction d with
  | zero => exact ⟨by rw [show m + ((0 : Nat) : Int) = m by omega]; exact ho, fun k hk => ⟨rfl, fun _ => by show (sA (yS y k) 0).toInt = _; omega⟩⟩
  | succ d ih =>
    obtain ⟨i1, i2⟩ := ih (by omega) (fun d' hd' => h d' (by omega))
    have h0 := (dR_0 (y_P y d) 4 (by omega)).2.2.mp (h d (by omega))
    refine ⟨?_, fun k hk => ?_⟩
    · rw [show m + ((d + 1 : Nat) : Int) = m + d + 1 by omega]
      refine ⟨fun k hk => ?_, ?_, ?_⟩
      · show okS _ (yS (y_dS (y_P y d) 4) k)
        rw [y_dS_S, if_pos hk, c_dayV_arch]
        exact okS_arch (okS_old (i1.1 k hk) (by omega))
      · show ∀ j, j < 6 → okH (yH (y_dS (y_P y d) 4) j)
        rw [(y_dS_H _ 4).1]; exact i1.2.1
      · show okZ (yZ (y_dS (y_P y d) 4))
        rw [(y_dS_H _ 4).2.1]; exact i1.2.2
    · obtain ⟨j1, j2⟩ := i2 k hk
      have e : yS (y_P y (d + 1)) k = c_old (yS (y_P y d) k) := by
        show yS (y_dS (y_P y d) 4) k = _
        rw [y_dS_S, if_pos hk, c_dayV_arch]
        exact v_arch_0 (h0 k hk)
      rw [e]
      refine ⟨j1, fun q => ?_⟩
      have q2 : ¬ s_can (yS (y_P y d) k) = 0 := by rw [j1]; exact q
      have h2 := can_2 q2
      have b := ((i1.1 k hk).2.1 0 (by omega)).2
      unfold iB at b
      show (s_old (sA (yS (y_P y d) k)) (sN (yS (y_P y d) k)) 0).toInt = _
      rw [s_old_at, if_pos (by omega), i_add (by rw [i_1]; omega) (by rw [i_1]; omega), i_1, j2 q]
      omega
theorem first_f {m : Int} {y : YT} (ho : okY m y) {d : Nat} (hm : m + d < 1073741823) (h : ∀ d', d' < d → (y_dR (y_P y d') 0 4).toInt = 0) : (y_dR (y_P y d) 0 4).toInt = 0 ↔ ∀ k, k < 4 → ¬ fOf (yZ y) (yS y k) (d + 1) := by
  obtain ⟨i1, i2⟩ := still_ok ho (d := d) (by omega) h
  rw [(dR_0 (y_P y d) 4 (by omega)).2.2, y_P_Z]
  have e : ∀ k, k < 4 → (c_dayR (yZ y) (yS (y_P y d) k) = 0 ↔ ¬ fOf (yZ y) (yS y k) (d + 1)) := fun k hk => by
    rw [dayR_f (i1.1 k hk) (by omega)]
    obtain ⟨j1, j2⟩ := i2 k hk
    unfold fOf
    rw [j1]
    refine ⟨fun h9 q => h9 ⟨q.1, ?_⟩, fun h9 q => h9 ⟨q.1, ?_⟩⟩
    · have := j2 q.1
      have := q.2
      omega
    · have := j2 q.1
      have := q.2
      omega
  exact ⟨fun f k hk => (e k hk).mp (f k hk), fun f k hk => (e k hk).mpr (f k hk)⟩
theorem none_f {m : Int} {y : YT} (ho : okY m y) : ∀ d : Nat, m + d < 1073741823 → (∀ k, k < 4 → ¬ fOf (yZ y) (yS y k) d) → ∀ d', d' < d → (y_dR (y_P y d') 0 4).toInt = 0
  | 0, _, _ => fun d' hd' => absurd hd' (by omega)
  | d + 1, hm, h => by
    have ih := none_f ho d (by omega) (fun k hk q => h k hk ⟨q.1, by have := q.2; omega⟩)
    intro d' hd'
    by_cases q : d' = d
    · subst q
      exact (first_f ho (by omega) ih).mpr h
    · exact ih d' (by omega)
theorem ah_eq {m : Int} {s : Nat → Int32} {y : YT} (h : Rel s y) (ho : okY m y) {d : Nat} (hm : m + d < 1073741823) : g_ah s (d + 1) = if (y_dR (y_P y d) 0 4).toInt = 0 then -1 else nI (d + 1) := by
  obtain ⟨e, b1, b2⟩ := days_ok h ho d (by omega)
  have f := (day_ok b1 b2 (by omega)).1
  have q := (dR_0 (y_P y d) 4 (by omega)).1
  show (if g_dayR (g_daysS s d) ≤ 0 then -1 else nI (d + 1)) = _
  rw [f]
  by_cases c : (y_dR (y_P y d) 0 4).toInt = 0
  · rw [if_pos c, if_pos (by rw [i_le, i_0]; omega)]
  · rw [if_neg c, if_neg (by rw [i_le, i_0]; omega)]
theorem until_I {m : Int} {z : Nat → Int32} {a : Int32} (hz : okZ z) (ha : iB 0 m a) (hm : m < 1073741824) : 1 ≤ (c_until z a).toInt ∧ (c_until z a).toInt ≤ 21 ∧ ∀ d : Nat, 1 ≤ d → ((z 1).toInt < a.toInt + d ↔ (c_until z a).toInt ≤ d) := by
  have h1 := hz.2.1
  unfold iB at h1 ha
  have e1 : (z 1 + 1).toInt = (z 1).toInt + 1 := by rw [i_add (by rw [i_1]; omega) (by rw [i_1]; omega), i_1]
  have e2 : (z 1 + 1 - a).toInt = (z 1).toInt + 1 - a.toInt := by rw [i_sub (by omega) (by omega), e1]
  unfold c_until
  split
  · rename_i q
    rw [i_lt, i_1, e2] at q
    rw [e2]
    exact ⟨by omega, by omega, fun d hd => by omega⟩
  · rename_i q
    rw [i_lt, i_1, e2] at q
    rw [i_1]
    exact ⟨by omega, by omega, fun d hd => by omega⟩
theorem y_next_s (y : YT) (k : Nat) : y_next y (k + 1) = if s_can (yS y k) = 0 then y_next y k else if y_next y k = -1 then c_until (yZ y) (sA (yS y k) 0) else if c_until (yZ y) (sA (yS y k) 0) < y_next y k then c_until (yZ y) (sA (yS y k) 0) else y_next y k := rfl
theorem next_I {m : Int} {y : YT} (ho : okY m y) (hm : m < 1073741824) : ∀ k, k ≤ 4 → (y_next y k = -1 ∧ ∀ i, i < k → s_can (yS y i) = 0) ∨ (1 ≤ (y_next y k).toInt ∧ (y_next y k).toInt ≤ 21 ∧ ∀ d : Nat, 1 ≤ d → ((∃ i, i < k ∧ fOf (yZ y) (yS y i) d) ↔ (y_next y k).toInt ≤ d))
  | 0, _ => Or.inl ⟨rfl, fun i hi => absurd hi (by omega)⟩
  | k + 1, hk => by
    have ih := next_I ho hm k (by omega)
    by_cases q : s_can (yS y k) = 0
    · have e : y_next y (k + 1) = y_next y k := by rw [y_next_s, if_pos q]
      rw [e]
      rcases ih with ⟨a, b⟩ | ⟨a, b, c⟩
      · refine Or.inl ⟨a, fun i hi => ?_⟩
        by_cases p : i = k
        · rw [p]; exact q
        · exact b i (by omega)
      · refine Or.inr ⟨a, b, fun d hd => ?_⟩
        rw [← c d hd]
        refine ⟨fun ⟨i, hi, hf⟩ => ⟨i, ?_, hf⟩, fun ⟨i, hi, hf⟩ => ⟨i, by omega, hf⟩⟩
        by_cases p : i = k
        · subst p; exact absurd q hf.1
        · omega
    · have h2 := can_2 q
      obtain ⟨u1, u2, u3⟩ := until_I (m := m) ho.2.2 ((ho.1 k (by omega)).2.1 0 (by omega)).2 hm
      have hu : ∀ d : Nat, 1 ≤ d → (fOf (yZ y) (yS y k) d ↔ (c_until (yZ y) (sA (yS y k) 0)).toInt ≤ d) := fun d hd => by
        rw [← u3 d hd]
        exact ⟨fun f => f.2, fun f => ⟨q, f⟩⟩
      right
      rcases ih with ⟨a, b⟩ | ⟨a, b, c⟩
      · have e : y_next y (k + 1) = c_until (yZ y) (sA (yS y k) 0) := by rw [y_next_s, if_neg q, if_pos a]
        rw [e]
        refine ⟨u1, u2, fun d hd => ?_⟩
        rw [← hu d hd]
        refine ⟨fun ⟨i, hi, hf⟩ => ?_, fun f => ⟨k, by omega, f⟩⟩
        by_cases p : i = k
        · subst p; exact hf
        · exact absurd (b i (by omega)) hf.1
      · have hne : ¬ y_next y k = -1 := fun e => by rw [e] at a; exact absurd a (by decide)
        have both : ∀ (x : Int32), (x = c_until (yZ y) (sA (yS y k) 0) ∧ (c_until (yZ y) (sA (yS y k) 0)).toInt ≤ (y_next y k).toInt ∨ x = y_next y k ∧ (y_next y k).toInt ≤ (c_until (yZ y) (sA (yS y k) 0)).toInt) → 1 ≤ x.toInt ∧ x.toInt ≤ 21 ∧ ∀ d : Nat, 1 ≤ d → ((∃ i, i < k + 1 ∧ fOf (yZ y) (yS y i) d) ↔ x.toInt ≤ d) := fun x hx => by
          have hex : ∀ d : Nat, 1 ≤ d → ((∃ i, i < k + 1 ∧ fOf (yZ y) (yS y i) d) ↔ ((y_next y k).toInt ≤ d ∨ (c_until (yZ y) (sA (yS y k) 0)).toInt ≤ d)) := fun d hd => by
            rw [← c d hd, ← hu d hd]
            refine ⟨fun ⟨i, hi, hf⟩ => ?_, fun f => ?_⟩
            · by_cases p : i = k
              · subst p; exact Or.inr hf
              · exact Or.inl ⟨i, by omega, hf⟩
            · rcases f with ⟨i, hi, hf⟩ | f
              · exact ⟨i, by omega, hf⟩
              · exact ⟨k, by omega, f⟩
          rcases hx with ⟨e, l⟩ | ⟨e, l⟩
          · rw [e]
            exact ⟨u1, u2, fun d hd => by rw [hex d hd]; omega⟩
          · rw [e]
            exact ⟨a, b, fun d hd => by rw [hex d hd]; omega⟩
        refine both _ ?_
        rw [y_next_s, if_neg q, if_neg hne]
        split
        · rename_i l
          rw [i_lt] at l
          exact Or.inl ⟨rfl, by omega⟩
        · rename_i l
          rw [i_lt] at l
          exact Or.inr ⟨rfl, by omega⟩
theorem stop_none {s : Nat → Int32} : ∀ f d, (∀ d', d ≤ d' → d' ≤ d + f → g_ah s d' = -1) → g_ah s (g_stop s f d) = -1
  | 0, d, h => h d (by omega) (by omega)
  | f + 1, d, h => by
    unfold g_stop
    rw [if_pos (h d (by omega) (by omega))]
    exact stop_none f (d + 1) (fun d' h1 h2 => h d' (by omega) (by omega))
theorem stop_at {s : Nat → Int32} {n : Nat} (hn : ¬ g_ah s n = -1) : ∀ f d, d ≤ n → n ≤ d + f → (∀ d', d ≤ d' → d' < n → g_ah s d' = -1) → g_stop s f d = n
  | 0, d, h1, h2, _ => by show d = n; omega
  | f + 1, d, h1, h2, h => by
    unfold g_stop
    by_cases q : d = n
    · subst q
      rw [if_neg hn]
    · rw [if_pos (h d (by omega) (by omega))]
      exact stop_at hn f (d + 1) (by omega) (by omega) (fun d' a b => h d' (by omega) b)
theorem nextArch_eq {m : Int} {s : Nat → Int32} {y : YT} (h : Rel s y) (ho : okY m y) (hm : m < 1073741000) : g_ah s (g_stop s 60 0) = y_next y 4 := by
  have quiet : ∀ d : Nat, d ≤ 60 → (∀ k, k < 4 → ¬ fOf (yZ y) (yS y k) d) → g_ah s d = -1 := fun d hd hq => by
    cases d with
    | zero => rfl
    | succ d =>
      rw [ah_eq h ho (by omega), if_pos (none_f ho (d + 1) (by omega) hq d (by omega))]
  rcases next_I ho (by omega) 4 (by omega) with ⟨a, b⟩ | ⟨a, b, c⟩
  · rw [a]
    exact stop_none 60 0 (fun d _ hd => quiet d (by omega) (fun k hk f => f.1 (b k hk)))
  · obtain ⟨n, hn⟩ : ∃ n : Nat, (y_next y 4).toInt = n := ⟨(y_next y 4).toInt.toNat, by omega⟩
    have e : y_next y 4 = nI n := by rw [i_eq, hn, nI_toInt (by omega)]
    have q : ∀ d, d < n → g_ah s d = -1 := fun d hd => by
      by_cases d0 : d = 0
      · rw [d0]; rfl
      · refine quiet d (by omega) (fun k hk f => ?_)
        have := (c d (by omega)).mp ⟨k, hk, f⟩
        omega
    have hat : g_ah s n = nI n := by
      obtain ⟨p, rfl⟩ : ∃ p, n = p + 1 := ⟨n - 1, by omega⟩
      rw [ah_eq h ho (by omega), if_neg]
      have hz : ∀ d', d' < p → (y_dR (y_P y d') 0 4).toInt = 0 := fun d' hd' => by
        have := q (d' + 1) (by omega)
        rw [ah_eq h ho (by omega)] at this
        by_cases g : (y_dR (y_P y d') 0 4).toInt = 0
        · exact g
        · rw [if_neg g] at this
          have t := congrArg Int32.toInt this
          rw [nI_toInt (by omega)] at t
          have : (-1 : Int32).toInt = -1 := by decide
          omega
      rw [first_f ho (by omega) hz]
      intro f
      obtain ⟨k, hk, g⟩ := (c (p + 1) (by omega)).mpr (by omega)
      exact f k hk g
    have hne : ¬ g_ah s n = -1 := by
      rw [hat]
      intro t
      have t := congrArg Int32.toInt t
      rw [nI_toInt (by omega)] at t
      have : (-1 : Int32).toInt = -1 := by decide
      omega
    rw [stop_at hne 60 0 (by omega) (by omega) (fun d' _ hd => q d' hd), hat, e]
