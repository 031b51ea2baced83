/-! looks and hashes of the reference -/
theorem g_bestI_of9 {b : Nat} (h : b < 4) : g_bestI b = nI b := by
  unfold g_bestI
  rw [if_neg (by omega)]
theorem g_bestI_49 {b k : Nat} (h : b = 4 ∨ b < k) (hk : k ≤ 4) (e : g_bestI b = -1) : b = 4 := by
  rcases h with h | h
  · exact h
  · exfalso
    rw [g_bestI_of9 (by omega)] at e
    rcases (show b = 0 ∨ b = 1 ∨ b = 2 ∨ b = 3 by omega) with rfl | rfl | rfl | rfl <;> exact absurd e (by decide)
def g_count (s : Nat → Int32) (mn v : Int32) : Int32 :=
  if v = 0 then s 0 else if v = 1 then g_inSilos s 4 else if v = 2 then g_inShips s 6 else if v = 3 then s 1 else if v = 4 then s 2 else if v = 5 then s 3
  else if v = 6 then g_padsOn s 4 else if v = 7 then g_arches s 4 else if v = 8 then s 4 else if v = 9 then s 5 else if v = 10 then s 6 else if v = 11 then s 7 else if v = 12 then s 8 else if v = 13 then s 9 else mn
def g_ah (s : Nat → Int32) : Nat → Int32
  | 0 => -1
  | d + 1 => if g_dayR (g_daysS s d) ≤ 0 then -1 else nI (d + 1)
/-- the first of the days from d on, f at most, behind which an arch has formed -/
def g_stop (s : Nat → Int32) : Nat → Nat → Nat
  | 0, d => d
  | f + 1, d => if g_ah s d = -1 then g_stop s f (d + 1) else d
theorem g_stop_s {s : Nat → Int32} {d x : Nat} (h : g_stop s (60 - d) d = x) (hd : d < 60) (e : g_ah s d = -1) : g_stop s (60 - (d + 1)) (d + 1) = x := by
  rw [show 60 - d = (60 - (d + 1)) + 1 by omega] at h
  unfold g_stop at h
  rw [if_pos e] at h
  exact h
theorem g_stop_60 {s : Nat → Int32} {d x : Nat} (h : g_stop s (60 - d) d = x) (hd : 60 ≤ d) : x = d := by
  rw [show 60 - d = 0 by omega] at h
  exact h.symm
theorem g_stop_x {s : Nat → Int32} {d x : Nat} (h : g_stop s (60 - d) d = x) (e : ¬ g_ah s d = -1) : x = d := by
  cases hf : 60 - d with
  | zero =>
    rw [hf] at h
    exact h.symm
  | succ f =>
    rw [hf] at h
    unfold g_stop at h
    rw [if_neg e] at h
    exact h.symm
def g_softL (a : Int32) (s : Nat → Int32) (k : Nat) : Nat → Int32
  | 0 => a
  | i + 1 => g_softL a s k i + (if g_set (s (10 + 24 * k + (4 + 2 * i + 1))) (s 7) = 0 then s (10 + 24 * k + (4 + 2 * i)) else 0)
def g_softS (s : Nat → Int32) : Nat → Int32
  | 0 => 0
  | k + 1 => g_softL (g_softS s k) s k (Nn s k)
def g_softD (s : Nat → Int32) : UInt64 := if g_inSilos s 4 = 0 then FP.dconst1 else FP.ddiv (FP.i2d (g_softS s 4)) (FP.i2d (g_inSilos s 4))
def g_hs6 (h : Int64) (s : Nat → Int32) (k n : Nat) : Nat → Int64
  | 0 => h
  | i + 1 => 31 * g_hs6 h s k n i + (g_tellS s k n (nI i)).toInt64
def g_hs3 (h : Int64) (s : Nat → Int32) (k : Nat) : Nat → Int64
  | 0 => h
  | i + 1 => 31 * g_hs3 h s k i + (g_tellL s k (i / 3) (nI (i % 3))).toInt64
def g_hsh (h : Int64) (s : Nat → Int32) (k n : Nat) : Int64 :=
  31 * (31 * (31 * g_hs3 (g_hs6 h s k n 6) s k (3 * n) + (g_need s k n).toInt64) + (g_reason s k 0).toInt64) + (g_hoursR (upd s (10 + 24 * k + 0) 4) k 0 4).toInt64
