/-! the best silo as an answer, how soft -/
def g_bestI (b : Nat) : Int32 := if b = 4 then -1 else nI b
theorem g_bestI_of {b : Nat} (h : b < 4) : g_bestI b = nI b := by
  unfold g_bestI
  rw [if_neg (by omega)]
theorem g_bestI_4 {b k : Nat} (h : b = 4 ∨ b < k) (hk : k ≤ 4) (e : g_bestI b = -1) : b = 4 := by
  rcases h with h | h
  · exact h
  · exfalso
    rw [g_bestI_of (by omega)] at e
    rcases (show b = 0 ∨ b = 1 ∨ b = 2 ∨ b = 3 by omega) with rfl | rfl | rfl | rfl <;> exact absurd e (by decide)
def y_softD (y : YT) : UInt64 := if y_silos y 4 = 0 then FP.dconst1 else FP.ddiv (FP.i2d (y_soft y 4)) (FP.i2d (y_silos y 4))

