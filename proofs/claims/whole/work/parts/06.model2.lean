/-! the reference's methods that change the row s -/
def Nn (s : Nat → Int32) (k : Nat) : Nat := (s (10 + 24 * k + 3)).toNatClampNeg
def wfM (s : Nat → Int32) : Prop := (∀ k, k < 4 → s (10 + 24 * k + 3) = nI (Nn s k) ∧ Nn s k ≤ 10) ∧ ¬ s 8 = 0
theorem wfM_of {s : Nat → Int32} (h : ∀ k, k < 4 → ∃ n, n ≤ 10 ∧ s (10 + 24 * k + 3) = nI n) (h8 : ¬ s 8 = 0) : wfM s := by
  refine ⟨fun k hk => ?_, h8⟩
  obtain ⟨n, hn, e⟩ := h k hk
  have hN : Nn s k = n := by
    unfold Nn
    rw [e]
    exact nI_clamp (by omega)
  rw [hN]
  exact ⟨e, hn⟩
def g_drop1 (s : Nat → Int32) (k n : Nat) : Nat → Int32 := upd s (10 + 24 * k + 3) (nI (n - 1))
def g_drop2 (s : Nat → Int32) (k n : Nat) : Nat → Int32 := cpN (g_drop1 s k n) (g_drop1 s k n) (10 + 24 * k + 4) (10 + 24 * k + 6) (2 * (n - 1))
def g_drop3 (s : Nat → Int32) (k n : Nat) : Nat → Int32 := upd (upd (g_drop2 s k n) (10 + 24 * k + (4 + 2 * (n - 1))) 0) (10 + 24 * k + (4 + 2 * (n - 1) + 1)) 0
def g_drops (s : Nat → Int32) (k n : Nat) : Nat → Int32 := upd (g_drop3 s k n) (10 + 24 * k + 1) (if g_drop3 s k n (10 + 24 * k + 1) = 1 then 2 else g_drop3 s k n (10 + 24 * k + 1))
theorem g_drops_out {s : Nat → Int32} {k n i : Nat} (hn : n ≤ 10) (hi : i < 10 + 24 * k ∨ 10 + 24 * k + 24 ≤ i) (h1 : 1 ≤ n) : g_drops s k n i = s i := by
  unfold g_drops g_drop3 g_drop2
  rw [pk_un (by omega), pk_un (by omega), pk_un (by omega)]
  unfold cpN
  rw [if_neg (by omega)]
  unfold g_drop1
  rw [pk_un (by omega)]
theorem g_drops_many {s : Nat → Int32} {k n : Nat} (h1 : 1 ≤ n) : g_drops s k n (10 + 24 * k + 3) = nI (n - 1) := by
  unfold g_drops g_drop3 g_drop2
  rw [pk_un (by omega), pk_un (by omega), pk_un (by omega)]
  unfold cpN
  rw [if_neg (by omega)]
  unfold g_drop1
  rw [pk_us]
def g_out (s : Nat → Int32) (k j : Nat) : Int32 :=
  if s (10 + 24 * k + 3) ≤ 0 then 0 else if 2 ≤ s (10 + 24 * k + 1) then 0
  else g_min (g_min (g_flows s k) (s (10 + 24 * k + (4 + 2 * 0)))) (s (106 + 2 * j + 1) - s (106 + 2 * j))
theorem g_out_pos {s : Nat → Int32} {k j n : Nat} (hn : s (10 + 24 * k + 3) = nI n) (h : ¬ g_out s k j ≤ 0) : 1 ≤ n := by
  rcases Nat.eq_zero_or_pos n with h0 | h0
  · exfalso
    apply h
    unfold g_out
    rw [if_pos (by rw [hn, h0]; decide)]
    decide
  · exact h0
def g_hourR (s : Nat → Int32) (k j : Nat) : Int32 := g_out s k j - g_out s k j / s 8
def g_hour1 (s : Nat → Int32) (k j : Nat) : Nat → Int32 :=
  upd (upd (upd s (10 + 24 * k + 4) (s (10 + 24 * k + (4 + 2 * 0)) - g_out s k j)) 1 ((upd s (10 + 24 * k + 4) (s (10 + 24 * k + (4 + 2 * 0)) - g_out s k j)) 1 + g_out s k j / s 8)) (106 + 2 * j)
    ((upd (upd s (10 + 24 * k + 4) (s (10 + 24 * k + (4 + 2 * 0)) - g_out s k j)) 1 ((upd s (10 + 24 * k + 4) (s (10 + 24 * k + (4 + 2 * 0)) - g_out s k j)) 1 + g_out s k j / s 8)) (106 + 2 * j) + (g_out s k j - g_out s k j / s 8))
def g_hourS (s : Nat → Int32) (k j n : Nat) : Nat → Int32 :=
  if g_out s k j ≤ 0 then s else if g_hour1 s k j (10 + 24 * k + (4 + 2 * 0)) = 0 then g_drops (g_hour1 s k j) k n else g_hour1 s k j
theorem g_hour1_at {s : Nat → Int32} {k j i : Nat} (h1 : i ≠ 10 + 24 * k + 4) (h2 : i ≠ 1) (h3 : i ≠ 106 + 2 * j) : g_hour1 s k j i = s i := by
  unfold g_hour1
  rw [pk_un h3, pk_un h2, pk_un h1]
theorem wfM_hour {s : Nat → Int32} {k j : Nat} (hk : k < 4) (hj : j < 6) (hw : wfM s) : wfM (g_hourS s k j (Nn s k)) := by
  unfold g_hourS
  split
  · exact hw
  · rename_i h0
    have hn1 : 1 ≤ Nn s k := g_out_pos (hw.1 k hk).1 h0
    have hn10 := (hw.1 k hk).2
    split
    · refine wfM_of (fun k' hk' => ?_) ?_
      · by_cases hkk : k' = k
        · subst hkk
          exact ⟨Nn s k' - 1, by omega, g_drops_many hn1⟩
        · refine ⟨Nn s k', (hw.1 k' hk').2, ?_⟩
          rw [g_drops_out hn10 (by omega) hn1, g_hour1_at (by omega) (by omega) (by omega)]
          exact (hw.1 k' hk').1
      · rw [g_drops_out hn10 (by omega) hn1, g_hour1_at (by omega) (by omega) (by omega)]
        exact hw.2
    · refine wfM_of (fun k' hk' => ⟨Nn s k', (hw.1 k' hk').2, ?_⟩) ?_
      · rw [g_hour1_at (by omega) (by omega) (by omega)]
        exact (hw.1 k' hk').1
      · rw [g_hour1_at (by omega) (by omega) (by omega)]
        exact hw.2
def g_hoursS (s : Nat → Int32) (k j : Nat) : Nat → Nat → Int32
  | 0 => s
  | h + 1 => g_hourS (g_hoursS s k j h) k j (Nn (g_hoursS s k j h) k)
def g_hoursR (s : Nat → Int32) (k j : Nat) : Nat → Int32
  | 0 => 0
  | h + 1 => g_hoursR s k j h + g_hourR (g_hoursS s k j h) k j
theorem wfM_hours {s : Nat → Int32} {k j : Nat} (hk : k < 4) (hj : j < 6) (hw : wfM s) : ∀ h, wfM (g_hoursS s k j h)
  | 0 => hw
  | h + 1 => wfM_hour hk hj (wfM_hours hk hj hw h)
def g_left (s : Nat → Int32) (k n : Nat) (t : Int32) : Int32 := g_min t (1200 - g_sum s k 0 (n - 0))
def g_top (s : Nat → Int32) (k n : Nat) (t : Int32) : Int32 :=
  if n ≤ 0 then 0 else if ¬ s (10 + 24 * k + (4 + 2 * (n - 1) + 1)) = 0 then 0 else g_min (g_left s k n t) (500 - s (10 + 24 * k + (4 + 2 * (n - 1))))
def g_cs1 (s : Nat → Int32) (k n : Nat) (t : Int32) : Nat → Int32 :=
  if n ≤ 0 then s else if ¬ s (10 + 24 * k + (4 + 2 * (n - 1) + 1)) = 0 then s else upd s (10 + 24 * k + (4 + 2 * (n - 1))) (s (10 + 24 * k + (4 + 2 * (n - 1))) + g_top s k n t)
def g_cs2 (s : Nat → Int32) (k n : Nat) (x : Int32) : Nat → Int32 :=
  upd (upd (upd (upd s (10 + 24 * k + (4 + 2 * n)) x) (10 + 24 * k + (4 + 2 * n + 1)) 0) (10 + 24 * k + 3) (nI (n + 1))) (10 + 24 * k + 2) 0
def g_comesR (s : Nat → Int32) (k n : Nat) (t : Int32) : Int32 :=
  if g_left s k n t - g_top s k n t = 0 then g_top s k n t else if n = 10 then g_top s k n t else g_top s k n t + (g_left s k n t - g_top s k n t)
def g_comesS (s : Nat → Int32) (k n : Nat) (t : Int32) : Nat → Int32 :=
  if g_left s k n t - g_top s k n t = 0 then g_cs1 s k n t else if n = 10 then g_cs1 s k n t else g_cs2 (g_cs1 s k n t) k n (g_left s k n t - g_top s k n t)
def g_unlR (s : Nat → Int32) (k j n : Nat) (t : Int32) : Int32 := g_comesR s k n (g_min t (s (106 + 2 * j)))
def g_unlS (s : Nat → Int32) (k j n : Nat) (t : Int32) : Nat → Int32 :=
  upd (g_comesS s k n (g_min t (s (106 + 2 * j)))) (106 + 2 * j) (g_comesS s k n (g_min t (s (106 + 2 * j))) (106 + 2 * j) - g_unlR s k j n t)
def g_forms (s : Nat → Int32) (k : Nat) : Int32 :=
  if s (10 + 24 * k + 3) ≤ 1 then 0 else if g_set (s (10 + 24 * k + (4 + 2 * 0 + 1))) (s 7) ≤ 0 then 0 else if s (10 + 24 * k + 1) = 0 then 1 else 0
def g_heavy (s : Nat → Int32) (k n : Nat) : Int32 :=
  if s (10 + 24 * k + 1) = 2 then (if g_sum s k 0 (n - 0) < s 9 then 0 else 1) else (if g_sum s k 1 (n - 1) < s 9 then 0 else 1)
def g_padsOn (s : Nat → Int32) : Nat → Int32
  | 0 => 0
  | k + 1 => g_padsOn s k + s (10 + 24 * k + 0)
def g_arches (s : Nat → Int32) : Nat → Int32
  | 0 => 0
  | k + 1 => g_arches s k + (if s (10 + 24 * k + 1) ≤ 0 then 0 else 1)
def g_inSilos (s : Nat → Int32) : Nat → Int32
  | 0 => 0
  | k + 1 => g_inSilos s k + g_sum s k 0 (Nn s k - 0)
def g_inShips (s : Nat → Int32) : Nat → Int32
  | 0 => 0
  | k + 1 => g_inShips s k + s (106 + 2 * k)
def g_reason (s : Nat → Int32) (k j : Nat) : Int32 :=
  if s (10 + 24 * k + 3) = 0 then 1 else if s (10 + 24 * k + 1) = 2 then 2 else if s (106 + 2 * j + 1) - s (106 + 2 * j) = 0 then 3 else if g_flows s k = 0 then 4 else 0
def g_tellL (s : Nat → Int32) (k j : Nat) (v : Int32) : Int32 :=
  if v = 0 then s (10 + 24 * k + (4 + 2 * j)) else if v = 1 then s (10 + 24 * k + (4 + 2 * j + 1)) else g_set (s (10 + 24 * k + (4 + 2 * j + 1))) (s 7)
