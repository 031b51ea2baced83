/-! DAYS -/
theorem g_set_3 (a d : Int32) : g_set a d = 0 ∨ g_set a d = 1 ∨ g_set a d = 2 := by
  unfold g_set
  split
  · split
    · exact Or.inr (Or.inr rfl)
    · exact Or.inr (Or.inl rfl)
  · exact Or.inl rfl
theorem g_set_0 {a d : Int32} : g_set a d = 0 ↔ ¬ d < a := by
  unfold g_set
  split
  · rename_i h
    refine ⟨fun e => ?_, fun e => absurd h e⟩
    split at e
    · exact absurd e (by decide)
    · exact absurd e (by decide)
  · rename_i h
    exact ⟨fun _ => h, fun _ => rfl⟩
theorem s_old_at {a : Nat → Int32} {j : Nat} : ∀ n, s_old a n j = if j < n then a j + 1 else a j
  | 0 => by rw [if_neg (by omega)]; rfl
  | n + 1 => by
    show upd (s_old a n) n (s_old a n n + 1) j = _
    by_cases h : j = n
    · subst h
      rw [pk_us, s_old_at j, if_neg (by omega), if_pos (by omega)]
    · rw [pk_un h, s_old_at n]
      by_cases h2 : j < n
      · rw [if_pos h2, if_pos (by omega)]
      · rw [if_neg h2, if_neg (by omega)]
theorem g_ageL_a {s : Nat → Int32} {k j : Nat} : ∀ n, g_ageL s k n (10 + 24 * k + (4 + 2 * j + 1)) = if j < n then s (10 + 24 * k + (4 + 2 * j + 1)) + 1 else s (10 + 24 * k + (4 + 2 * j + 1))
  | 0 => by rw [if_neg (by omega)]; rfl
  | n + 1 => by
    show upd (g_ageL s k n) (10 + 24 * k + (4 + 2 * n + 1)) (g_ageL s k n (10 + 24 * k + (4 + 2 * n + 1)) + 1) (10 + 24 * k + (4 + 2 * j + 1)) = _
    by_cases h : j = n
    · subst h
      rw [pk_us, g_ageL_a j, if_neg (by omega), if_pos (by omega)]
    · rw [pk_un (by omega), g_ageL_a n]
      by_cases h2 : j < n
      · rw [if_pos h2, if_pos (by omega)]
      · rw [if_neg h2, if_neg (by omega)]
theorem RS_old {s : Nat → Int32} {k : Nat} {v : ST} (h : RS s k v) : RS (g_ageL s k (sN v)) k (c_old v) := by
  obtain ⟨a1, a2, a3, a4, a5⟩ := h
  refine ⟨?_, ?_, ?_, ?_, fun j hj => ⟨?_, ?_⟩⟩
  · rw [g_ageL_at _ (fun i hi => by omega)]; exact a1
  · rw [g_ageL_at _ (fun i hi => by omega)]; exact a2
  · rw [g_ageL_at _ (fun i hi => by omega)]; exact a3
  · rw [g_ageL_at _ (fun i hi => by omega)]; exact a4
  · rw [g_ageL_at _ (fun i hi => by omega)]; exact (a5 j hj).1
  · have hj : j < sN v := hj
    rw [g_ageL_a, if_pos hj, (a5 j hj).2]
    show _ = s_old (sA v) (sN v) j
    rw [s_old_at, if_pos hj]
theorem g_ageS_step {s : Nat → Int32} {k i : Nat} (h : wfM s) (hk : k < 4) (hi : ∀ q, q < 10 → i ≠ 10 + 24 * k + (4 + 2 * q + 1)) : g_ageS s (k + 1) i = g_ageS s k i := by
  have hn := ((wfM_ageS h k (by omega)).1 k hk).2
  show g_ageL (g_ageS s k) k (Nn (g_ageS s k) k) i = _
  exact g_ageL_at _ (fun q hq => hi q (by omega))
theorem g_ageS_low {s : Nat → Int32} {i : Nat} (h : wfM s) : ∀ k, k ≤ 4 → (i < 10 ∨ 10 + 24 * k ≤ i) → g_ageS s k i = s i
  | 0, _, _ => rfl
  | k + 1, hk, hi => by
    rw [g_ageS_step h (by omega) (fun q hq => by omega)]
    exact g_ageS_low h k (by omega) (by omega)
theorem g_ageS_keep {s : Nat → Int32} {i k : Nat} (h : wfM s) (hi : i < 10 + 24 * (k + 1)) : ∀ q, k + 1 + q ≤ 4 → g_ageS s (k + 1 + q) i = g_ageS s (k + 1) i
  | 0, _ => rfl
  | q + 1, hq => by
    rw [show k + 1 + (q + 1) = (k + 1 + q) + 1 by omega, g_ageS_step h (by omega) (fun p hp => by omega)]
    exact g_ageS_keep h hi q (by omega)
theorem RS_ageS {s : Nat → Int32} {k : Nat} {v : ST} (hw : wfM s) (h : RS s k v) (hn : sN v ≤ 10) (hk : k < 4) : RS (g_ageS s 4) k (c_old v) := by
  have h1 : RS (g_ageS s k) k v := h.cong hn (fun i q1 q2 => g_ageS_low hw k (by omega) (by omega))
  have h2 : RS (g_ageS s (k + 1)) k (c_old v) := by
    show RS (g_ageL (g_ageS s k) k (Nn (g_ageS s k) k)) k (c_old v)
    rw [h1.Nn hn]
    exact RS_old h1
  refine h2.cong hn (fun i q1 q2 => ?_)
  have := g_ageS_keep (i := i) hw (k := k) (by omega) (3 - k) (by omega)
  rw [show k + 1 + (3 - k) = 4 by omega] at this
  exact this
def v_arch (z : Nat → Int32) (v : ST) : ST := if s_can v = 0 then v else if g_set (sA v 0) (z 1) = 0 then v else (sT v, sA v, sN v, sP v, 1, 0)
def v_archN (z : Nat → Int32) (v : ST) : Int32 := if s_can v = 0 then 0 else if g_set (sA v 0) (z 1) = 0 then 0 else 1
theorem c_dayV_arch {z : Nat → Int32} {v : ST} : c_dayV z v = v_arch z (c_old v) := rfl
theorem c_dayR_arch {z : Nat → Int32} {v : ST} : c_dayR z v = v_archN z (c_old v) := rfl
theorem forms_eq {s z : Nat → Int32} {k : Nat} {v : ST} (h : RS s k v) (hn : sN v ≤ 10) (h012 : sC v = 0 ∨ sC v = 1 ∨ sC v = 2) (h7 : s 7 = z 1) : g_forms s k = v_archN z v := by
  unfold g_forms v_archN s_can
  rw [h.1, h.2.2.1, h7]
  by_cases q : sN v < 2
  · rw [if_pos q, if_pos rfl, if_pos]
    rw [show (1 : Int32) = nI 1 from rfl, nI_leI (by omega) (by omega)]
    omega
  · rw [if_neg q, if_neg]
    · rw [(h.2.2.2.2 0 (by omega)).2]
      by_cases qc : sC v = 0
      · rw [if_pos qc, if_neg (show ¬ (1 : Int32) = 0 by decide)]
        rcases g_set_3 (sA v 0) (z 1) with e | e | e <;> rw [e] <;> rfl
      · rw [if_neg qc, if_pos rfl]
        split <;> rfl
    · rw [show (1 : Int32) = nI 1 from rfl, nI_leI (by omega) (by omega)]
      omega
theorem v_archN_01 (z : Nat → Int32) (v : ST) : v_archN z v = 0 ∨ v_archN z v = 1 := by
  unfold v_archN
  split
  · exact Or.inl rfl
  · split
    · exact Or.inl rfl
    · exact Or.inr rfl
theorem v_arch_0 {z : Nat → Int32} {v : ST} (h : v_archN z v = 0) : v_arch z v = v := by
  unfold v_archN at h
  unfold v_arch
  split
  · rfl
  · split
    · rfl
    · rename_i a b
      rw [if_neg a, if_neg b] at h
      exact absurd h (by decide)
theorem v_arch_1 {z : Nat → Int32} {v : ST} (h : ¬ v_archN z v = 0) : v_arch z v = (sT v, sA v, sN v, sP v, 1, 0) ∧ 2 ≤ sN v ∧ sC v = 0 := by
  unfold v_archN at h
  unfold v_arch
  split
  · rename_i a; rw [if_pos a] at h; exact absurd rfl h
  · rename_i a
    split
    · rename_i b; rw [if_neg a, if_pos b] at h; exact absurd rfl h
    · refine ⟨rfl, ?_⟩
      unfold s_can at a
      split at a
      · exact absurd rfl a
      · split at a
        · rename_i p q; exact ⟨by omega, q⟩
        · exact absurd rfl a
theorem RS_arch1 {s z : Nat → Int32} {k : Nat} {v : ST} (h : RS s k v) (hn : sN v ≤ 10) (h012 : sC v = 0 ∨ sC v = 1 ∨ sC v = 2) (h7 : s 7 = z 1) : RS (g_arch1 s k) k (v_arch z v) := by
  unfold g_arch1
  rw [forms_eq h hn h012 h7]
  split
  · rename_i e; rw [v_arch_0 e]; exact h
  · rename_i e
    rw [(v_arch_1 e).1]
    obtain ⟨a1, a2, a3, a4, a5⟩ := h
    refine ⟨?_, ?_, ?_, ?_, fun j hj => ⟨?_, ?_⟩⟩
    · rw [pk_un (by omega), pk_un (by omega)]; exact a1
    · rw [pk_un (by omega), pk_un (by omega)]; exact a2
    · rw [pk_un (by omega), pk_us]
    · rw [pk_us]
    · rw [pk_un (by omega), pk_un (by omega)]; exact (a5 j hj).1
    · rw [pk_un (by omega), pk_un (by omega)]; exact (a5 j hj).2
theorem g_arch1_at {s : Nat → Int32} {k i : Nat} (h1 : i ≠ 10 + 24 * k + 1) (h2 : i ≠ 10 + 24 * k + 2) : g_arch1 s k i = s i := by
  unfold g_arch1
  split
  · rfl
  · rw [pk_un h2, pk_un h1]
theorem g_archS_out {s : Nat → Int32} {i : Nat} : ∀ k, (i < 10 ∨ 10 + 24 * k ≤ i) → g_archS s k i = s i
  | 0, _ => rfl
  | k + 1, h => by
    show g_arch1 (g_archS s k) k i = _
    rw [g_arch1_at (by omega) (by omega)]
    exact g_archS_out k (by omega)
theorem g_archS_keep {s : Nat → Int32} {i k : Nat} (hi : i < 10 + 24 * (k + 1)) : ∀ q, g_archS s (k + 1 + q) i = g_archS s (k + 1) i
  | 0 => rfl
  | q + 1 => by
    show g_arch1 (g_archS s (k + 1 + q)) (k + 1 + q) i = _
    rw [g_arch1_at (by omega) (by omega)]
    exact g_archS_keep hi q
theorem RS_archS {s z : Nat → Int32} {k : Nat} {v : ST} (h : RS s k v) (hn : sN v ≤ 10) (h012 : sC v = 0 ∨ sC v = 1 ∨ sC v = 2) (h7 : s 7 = z 1) (hk : k < 4) : RS (g_archS s 4) k (v_arch z v) ∧ g_forms (g_archS s k) k = v_archN z v := by
  have h1 : RS (g_archS s k) k v := h.cong hn (fun i q1 q2 => g_archS_out k (by omega))
  have h17 : g_archS s k 7 = z 1 := by rw [g_archS_out k (by omega)]; exact h7
  have h2 : RS (g_archS s (k + 1)) k (v_arch z v) := RS_arch1 h1 hn h012 h17
  refine ⟨h2.cong (by unfold v_arch; split; exact hn; split; exact hn; exact hn) (fun i q1 q2 => ?_), forms_eq h1 hn h012 h17⟩
  have := g_archS_keep (s := s) (i := i) (k := k) (by omega) (3 - k)
  rw [show k + 1 + (3 - k) = 4 by omega] at this
  exact this
theorem okS_old {m : Int} {v : ST} (h : okS m v) (hm : m < 2147483647) : okS (m + 1) (c_old v) := by
  obtain ⟨a1, a2, a3, a4, a5, a6, a7⟩ := h
  refine ⟨a1, fun j hj => ⟨(a2 j hj).1, ?_⟩, a3, a4, a5, a6, a7⟩
  have hj : j < sN v := hj
  show iB 0 (m + 1) (s_old (sA v) (sN v) j)
  rw [s_old_at, if_pos hj]
  have b := (a2 j hj).2
  unfold iB at b ⊢
  rw [i_add (by rw [i_1]; omega) (by rw [i_1]; omega), i_1]
  omega
theorem okS_arch {m : Int} {z : Nat → Int32} {v : ST} (h : okS m v) : okS m (v_arch z v) := by
  by_cases e : v_archN z v = 0
  · rw [v_arch_0 e]; exact h
  · have q := v_arch_1 e
    rw [q.1]
    obtain ⟨a1, a2, a3, a4, a5, a6, a7⟩ := h
    exact ⟨a1, a2, a3, a4, Or.inr (Or.inl rfl), fun _ => by show 1 ≤ sN v; omega, Or.inr (by show iB 0 2 (0 : Int32); unfold iB; decide)⟩
/-- the row beside a yard whose count of arches is still to be put in -/
def RelD (s : Nat → Int32) (y : YT) (r : Int32) : Prop := (∀ k, k < 4 → RS s k (yS y k)) ∧ (∀ j, j < 6 → RH s j (yH y j)) ∧ (∀ i, i < 4 → s (6 + i) = yZ y i) ∧ (∀ i, i < 5 → s i = yC y i) ∧ s 5 = yC y 5 + r
theorem y_dS_H (y : YT) : ∀ k, yH (y_dS y k) = yH y ∧ yZ (y_dS y k) = yZ y ∧ yC (y_dS y k) = upd (yC y) 0 (yC y 0 + 1)
  | 0 => ⟨rfl, rfl, rfl⟩
  | k + 1 => y_dS_H y k
theorem y_dS_S (y : YT) {i : Nat} : ∀ k, yS (y_dS y k) i = if i < k then c_dayV (yZ y) (yS y i) else yS y i
  | 0 => by rw [if_neg (by omega)]; rfl
  | k + 1 => by
    show yS (ySetS (y_dS y k) k (c_dayV (yZ (y_dS y k)) (yS (y_dS y k) k))) i = _
    by_cases h : i = k
    · subst h
      rw [yS_set, (y_dS_H y i).2.1, y_dS_S y i, if_neg (by omega), if_pos (by omega)]
    · rw [yS_ne h, y_dS_S y k]
      by_cases h2 : i < k
      · rw [if_pos h2, if_pos (by omega)]
      · rw [if_neg h2, if_neg (by omega)]
theorem y_dR_eq (y : YT) (a : Int32) : ∀ k, y_dR y a k = a + y_dR y 0 k
  | 0 => by show a = a + 0; rw [Int32.add_zero]
  | k + 1 => by
    show y_dR y a k + _ = a + (y_dR y 0 k + _)
    rw [y_dR_eq y a k, Int32.add_assoc]
theorem archN_eq {s : Nat → Int32} {y : YT} (h : ∀ k, k < 4 → g_forms (g_archS s k) k = c_dayR (yZ y) (yS y k)) : ∀ k, k ≤ 4 → g_archN s k = y_dR y 0 k
  | 0, _ => rfl
  | k + 1, hk => by
    show (if g_forms (g_archS s k) k = 0 then g_archN s k else g_archN s k + 1) = y_dR y 0 k + c_dayR (yZ (y_dS y k)) (yS (y_dS y k) k)
    rw [h k (by omega), archN_eq h k (by omega), (y_dS_H y k).2.1, y_dS_S y k, if_neg (show ¬ k < k by omega)]
    rcases v_archN_01 (yZ y) (c_old (yS y k)) with e | e
    · rw [c_dayR_arch, e, if_pos rfl, Int32.add_zero]
    · rw [c_dayR_arch, e, if_neg (by decide)]
theorem day_ok {m : Int} {s : Nat → Int32} {y : YT} {r : Int32} (h : RelD s y r) (ho : okY m y) (hm : m < 2147483647) : g_dayR s = y_dR y 0 4 ∧ RelD (g_dayS s) (y_dS y 4) (r + g_dayR s) ∧ okY (m + 1) (y_dS y 4) := by
  obtain ⟨h1, h2, h3, h4, h5⟩ := h
  have hw : wfM s := wfM_of (fun k hk => ⟨sN (yS y k), (ho.1 k hk).1, (h1 k hk).1⟩) (by
    have h8 := h3 2 (by omega)
    rw [show s 8 = yZ y 2 from h8, i_eq, i_0]
    have := ho.2.2.2.2.1.1
    omega)
  have hw1 : wfM (upd s 0 (s 0 + 1)) := wfM_upd hw (by omega) (fun k hk => by omega)
  have a1 : ∀ k, k < 4 → RS (g_day0 s) k (c_old (yS y k)) := fun k hk => RS_ageS hw1 ((h1 k hk).cong (ho.1 k hk).1 (fun i _ _ => pk_un (by omega))) (ho.1 k hk).1 hk
  have low : ∀ i, i < 10 → g_day0 s i = upd s 0 (s 0 + 1) i := fun i hi => g_ageS_low hw1 4 (by omega) (Or.inl hi)
  have hi9 : ∀ i, 106 ≤ i → g_day0 s i = s i := fun i hi => by
    rw [show g_day0 s i = upd s 0 (s 0 + 1) i from g_ageS_low hw1 4 (by omega) (Or.inr (by omega)), pk_un (by omega)]
  have h7 : g_day0 s 7 = yZ y 1 := by rw [low 7 (by omega), pk_un (by omega)]; exact h3 1 (by omega)
  have a2 : ∀ k, k < 4 → RS (g_archS (g_day0 s) 4) k (c_dayV (yZ y) (yS y k)) ∧ g_forms (g_archS (g_day0 s) k) k = c_dayR (yZ y) (yS y k) := fun k hk => RS_archS (v := c_old (yS y k)) (a1 k hk) (ho.1 k hk).1 (ho.1 k hk).2.2.2.2.1 h7 hk
  have eR : g_dayR s = y_dR y 0 4 := archN_eq (fun k hk => (a2 k hk).2) 4 (by omega)
  refine ⟨eR, ⟨fun k hk => ?_, fun j hj => ?_, fun i hi => ?_, fun i hi => ?_, ?_⟩, fun k hk => ?_, ?_, ?_⟩
  · rw [y_dS_S, if_pos hk]
    refine (a2 k hk).1.cong (by rw [c_dayV_N]; exact (ho.1 k hk).1) (fun i _ _ => ?_)
    exact pk_un (by omega)
  · rw [(y_dS_H y 4).1]
    refine (h2 j hj).cong (fun i q1 q2 => ?_)
    show upd _ 5 _ i = _
    rw [pk_un (by omega), g_archS_out 4 (by omega), hi9 i (by omega)]
  · rw [(y_dS_H y 4).2.1, ← h3 i hi]
    show upd _ 5 _ (6 + i) = _
    rw [pk_un (by omega), g_archS_out 4 (by omega), low _ (by omega), pk_un (by omega)]
  · rw [(y_dS_H y 4).2.2]
    show upd _ 5 _ i = _
    rw [pk_un (by omega), g_archS_out 4 (by omega), low _ (by omega)]
    by_cases q : i = 0
    · subst q
      rw [pk_us, pk_us, h4 0 (by omega)]
    · rw [pk_un q, pk_un q]; exact h4 i hi
  · rw [(y_dS_H y 4).2.2, pk_un (by omega)]
    show upd _ 5 _ 5 = _
    rw [pk_us, g_archS_out 4 (by omega), low 5 (by omega), pk_un (by omega), h5, Int32.add_assoc]
  · rw [y_dS_S, if_pos hk, c_dayV_arch]
    exact okS_arch (okS_old (ho.1 k hk) hm)
  · rw [(y_dS_H y 4).1]; exact ho.2.1
  · rw [(y_dS_H y 4).2.1]; exact ho.2.2
theorem days_ok {m : Int} {s : Nat → Int32} {y : YT} (h : Rel s y) (ho : okY m y) : ∀ d : Nat, m + d < 2147483647 → g_daysR s d = y_PR y d ∧ RelD (g_daysS s d) (y_P y d) (g_daysR s d) ∧ okY (m + d) (y_P y d)
  | 0, _ => ⟨rfl, ⟨h.1, h.2.1, h.2.2.1, fun i hi => h.2.2.2 i (by omega), by show s 5 = yC y 5 + 0; rw [Int32.add_zero]; exact h.2.2.2 5 (by omega)⟩, by rw [show m + ((0 : Nat) : Int) = m by omega]; exact ho⟩
  | d + 1, hd => by
    obtain ⟨e, b1, b2⟩ := days_ok h ho d (by omega)
    obtain ⟨f, c1, c2⟩ := day_ok b1 b2 (by omega)
    refine ⟨?_, c1, ?_⟩
    · show g_daysR s d + g_dayR (g_daysS s d) = y_dR (y_P y d) (y_PR y d) 4
      rw [y_dR_eq, e, f]
    · rw [show m + ((d + 1 : Nat) : Int) = m + d + 1 by omega]
      exact c2
theorem pass_ok {m : Int} {s : Nat → Int32} {y : YT} (h : Rel s y) (ho : okY m y) {d : Nat} (hd : m + d < 2147483647) : g_daysR s d = y_PR y d ∧ Rel (g_daysS s d) (y_pass y d) ∧ okY (m + d) (y_pass y d) := by
  obtain ⟨e, b1, b2⟩ := days_ok h ho d hd
  refine ⟨e, ⟨b1.1, b1.2.1, b1.2.2.1, fun i hi => ?_⟩, b2⟩
  show _ = upd (yC (y_P y d)) 5 (yC (y_P y d) 5 + y_PR y d) i
  by_cases q : i = 5
  · subst q
    rw [pk_us, ← e]; exact b1.2.2.2.2
  · rw [pk_un q]; exact b1.2.2.2.1 i (by omega)
