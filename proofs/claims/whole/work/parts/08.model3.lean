/-! days, shakes, looks, hashes of the reference -/
theorem sw_ne {x : Int32} {n : Nat} (hn : n < 2 ^ 31) (h : ¬ x = nI n) : x.toInt ≠ (n : Int) := fun q => h (Int32.toInt_inj.mp (by rw [q, nI_toInt hn]))
theorem wfM_upd {s : Nat → Int32} {i : Nat} {v : Int32} (hw : wfM s) (h8 : i ≠ 8) (h : ∀ k, k < 4 → i ≠ 10 + 24 * k + 3) : wfM (upd s i v) :=
  wfM_of (fun k hk => ⟨Nn s k, (hw.1 k hk).2, by rw [pk_un (fun q => h k hk q.symm)]; exact (hw.1 k hk).1⟩) (by rw [pk_un (fun q => h8 q.symm)]; exact hw.2)
theorem Nn_upd {s : Nat → Int32} {i k : Nat} {v : Int32} (h : i ≠ 10 + 24 * k + 3) : Nn (upd s i v) k = Nn s k := by
  unfold Nn
  rw [pk_un (fun q => h q.symm)]
def g_shR (s : Nat → Int32) (k n : Nat) : Int32 :=
  if s (10 + 24 * k + 1) ≤ 0 then 0 else if g_heavy s k n = 0 then (if s (10 + 24 * k + 2) + 1 < 3 then 0 else 1) else 1
theorem g_shR_01 (s : Nat → Int32) (k n : Nat) : g_shR s k n = 0 ∨ g_shR s k n = 1 := by
  unfold g_shR
  split
  · exact Or.inl rfl
  · split
    · split
      · exact Or.inl rfl
      · exact Or.inr rfl
    · exact Or.inr rfl
def g_sh1 (s : Nat → Int32) (k : Nat) : Nat → Int32 := upd s (10 + 24 * k + 2) (s (10 + 24 * k + 2) + 1)
def g_sh2 (s : Nat → Int32) (k n : Nat) : Nat → Int32 := upd (g_sh1 s k) (10 + 24 * k + 1) (if g_shR s k n = 0 then g_sh1 s k (10 + 24 * k + 1) else 0)
def g_sh3 (s : Nat → Int32) (k n : Nat) : Nat → Int32 := upd (g_sh2 s k n) (10 + 24 * k + 5) (if g_sh2 s k n (10 + 24 * k + (4 + 2 * 0 + 1)) ≤ 0 then 0 else g_sh2 s k n (10 + 24 * k + (4 + 2 * 0 + 1)) - 1)
def g_shS (s : Nat → Int32) (k n : Nat) : Nat → Int32 := upd (g_sh3 s k n) 4 (g_sh3 s k n 4 + 1)
def g_need (s : Nat → Int32) (k n : Nat) : Int32 := if s (10 + 24 * k + 1) = 0 then 0 else if g_heavy s k n = 0 then 3 - s (10 + 24 * k + 2) else 1
def g_ageL (s : Nat → Int32) (k : Nat) : Nat → Nat → Int32
  | 0 => s
  | i + 1 => upd (g_ageL s k i) (10 + 24 * k + (4 + 2 * i + 1)) (g_ageL s k i (10 + 24 * k + (4 + 2 * i + 1)) + 1)
theorem g_ageL_at {s : Nat → Int32} {k j : Nat} (n : Nat) (h : ∀ i, i < n → j ≠ 10 + 24 * k + (4 + 2 * i + 1)) : g_ageL s k n j = s j := by
  induction n with
  | zero => rfl
  | succ n ih =>
    show upd (g_ageL s k n) _ _ j = s j
    rw [pk_un (h n (by omega))]
    exact ih (fun i hi => h i (by omega))
def g_ageS (s : Nat → Int32) : Nat → Nat → Int32
  | 0 => s
  | k + 1 => g_ageL (g_ageS s k) k (Nn (g_ageS s k) k)
theorem wfM_ageS {s : Nat → Int32} (hw : wfM s) : ∀ k, k ≤ 4 → wfM (g_ageS s k)
  | 0, _ => hw
  | k + 1, hk => by
    have h := wfM_ageS hw k (by omega)
    have hn := (h.1 k (by omega)).2
    show wfM (g_ageL (g_ageS s k) k (Nn (g_ageS s k) k))
    refine wfM_of (fun k' hk' => ⟨Nn (g_ageS s k) k', (h.1 k' hk').2, ?_⟩) ?_
    · rw [g_ageL_at _ (fun i hi => by omega)]
      exact (h.1 k' hk').1
    · rw [g_ageL_at _ (fun i hi => by omega)]
      exact h.2
def g_arch1 (s : Nat → Int32) (k : Nat) : Nat → Int32 := if g_forms s k = 0 then s else upd (upd s (10 + 24 * k + 1) 1) (10 + 24 * k + 2) 0
def g_archS (s : Nat → Int32) : Nat → Nat → Int32
  | 0 => s
  | k + 1 => g_arch1 (g_archS s k) k
def g_archN (s : Nat → Int32) : Nat → Int32
  | 0 => 0
  | k + 1 => if g_forms (g_archS s k) k = 0 then g_archN s k else g_archN s k + 1
theorem wfM_archS {s : Nat → Int32} (hw : wfM s) : ∀ k, k ≤ 4 → wfM (g_archS s k)
  | 0, _ => hw
  | k + 1, hk => by
    have h := wfM_archS hw k (by omega)
    show wfM (g_arch1 (g_archS s k) k)
    unfold g_arch1
    split
    · exact h
    · exact wfM_upd (wfM_upd h (by omega) (fun k' hk' => by omega)) (by omega) (fun k' hk' => by omega)
def g_day0 (s : Nat → Int32) : Nat → Int32 := g_ageS (upd s 0 (s 0 + 1)) 4
def g_dayR (s : Nat → Int32) : Int32 := g_archN (g_day0 s) 4
def g_dayS (s : Nat → Int32) : Nat → Int32 := upd (g_archS (g_day0 s) 4) 5 (g_archS (g_day0 s) 4 5 + g_dayR s)
theorem wfM_day0 {s : Nat → Int32} (hw : wfM s) : wfM (g_day0 s) := wfM_ageS (wfM_upd hw (by omega) (fun k hk => by omega)) 4 (by omega)
theorem wfM_day {s : Nat → Int32} (hw : wfM s) : wfM (g_dayS s) := wfM_upd (wfM_archS (wfM_day0 hw) 4 (by omega)) (by omega) (fun k hk => by omega)
def g_daysS (s : Nat → Int32) : Nat → Nat → Int32
  | 0 => s
  | d + 1 => g_dayS (g_daysS s d)
def g_daysR (s : Nat → Int32) : Nat → Int32
  | 0 => 0
  | d + 1 => g_daysR s d + g_dayR (g_daysS s d)
theorem wfM_days {s : Nat → Int32} (hw : wfM s) : ∀ d, wfM (g_daysS s d)
  | 0 => hw
  | d + 1 => wfM_day (wfM_days hw d)
def g_tellS (s : Nat → Int32) (k n : Nat) (v : Int32) : Int32 :=
  if v = 0 then g_sum s k 0 (n - 0) else if v = 1 then s (10 + 24 * k + 3) else if v = 2 then s (10 + 24 * k + 0) else if v = 3 then (if s (10 + 24 * k + 1) ≤ 0 then 0 else 1) else if v = 4 then s (10 + 24 * k + 2) else g_flows s k
def g_more (s : Nat → Int32) (k q : Nat) : Int32 :=
  if s (10 + 24 * k + (4 + 2 * 0 + 1)) - s (10 + 24 * q + (4 + 2 * 0 + 1)) = 0 then (if g_sum s k 0 (Nn s k - 0) ≤ g_sum s q 0 (Nn s q - 0) then 0 else 1)
  else if s (10 + 24 * k + (4 + 2 * 0 + 1)) - s (10 + 24 * q + (4 + 2 * 0 + 1)) ≤ 0 then 0 else 1
theorem g_more_nar {s : Nat → Int32} {k q : Nat} : narrow .boolean (.int (g_more s k q)) = .int (g_more s k q) := by
  unfold g_more
  split
  · split <;> rfl
  · split <;> rfl
/-- the best of the first silos: 4 for none -/
def g_best (s : Nat → Int32) : Nat → Nat
  | 0 => 4
  | k + 1 => if s (10 + 24 * k + 3) ≤ 0 then g_best s k else if g_best s k = 4 then k else if g_more s k (g_best s k) = 0 then g_best s k else k
theorem g_best_lt {s : Nat → Int32} : ∀ k, g_best s k = 4 ∨ g_best s k < k
  | 0 => Or.inl rfl
  | k + 1 => by
    have h := g_best_lt (s := s) k
    unfold g_best
    split
    · omega
    · split
      · omega
      · split <;> omega
def g_bestI (b : Nat) : Int32 := if b = 4 then -1 else nI b
def g_saveM (n : Nat) : Nat := if n = 6 then 5 else n
def g_saveU (v : Nat → Int32) (n : Nat) : Nat → Int32 := if n = 6 then cpN v v (0) (118) 590 else v
def g_saveV (v s : Nat → Int32) (n : Nat) : Nat → Int32 := cpN (g_saveU v n) s (118 * g_saveM n) (0) 118
def g_saveN (n : Nat) : Nat := g_saveM n + 1
theorem g_saveM_le {n : Nat} (h : n ≤ 6) : g_saveM n ≤ 5 := by
  unfold g_saveM
  split <;> omega
