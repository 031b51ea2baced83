/-! what the reader answers -/
def r_done (r : RT) : Int32 := if rP r = 5 then 1 else 0
def r_move (r : RT) (q n : Int32) : RT := if q = 0 then r else (n, rS r, rH r, rK r, rN r)
def r_psR (a : Int32) : Int32 := if a = 43 then 1 else if c_noSilo (a - 48) = 0 then 1 else 0
def r_psS (r : RT) (a : Int32) : RT :=
  if a = 43 then r_move (rP r, rS r, rH r, a, rN r) 1 4 else if c_noSilo (a - 48) = 0 then r_move (rP r, a - 48, rH r, rK r, rN r) 1 1 else r
def r_sgR (a : Int32) : Int32 := if a = 60 then 1 else if a = 62 then 1 else 0
def r_sgS (r : RT) (a : Int32) : RT :=
  if a = 60 then r_move (rP r, rS r, rH r, a, rN r) 1 2 else if a = 62 then r_move (rP r, rS r, rH r, a, rN r) 1 2 else r
def r_shR (a : Int32) : Int32 := if c_noShip a = 0 then 1 else 0
def r_shS (r : RT) (a : Int32) : RT := if c_noShip a = 0 then r_move (rP r, rS r, a, rK r, rN r) 1 3 else r
def r_fdR (a : Int32) : Int32 := if a < 1 then 0 else if a ≤ 9 then 1 else 0
def r_fdS (r : RT) (a : Int32) : RT := if a < 1 then r else if a ≤ 9 then r_move (rP r, rS r, rH r, rK r, a) 1 5 else r
def r_most (r : RT) : Int32 := if rK r = 60 then 500 else if rK r = 62 then 24 else 30
def r_ndR (r : RT) (a : Int32) : Int32 := if a < 0 then 0 else if 9 < a then 0 else if 10 * rN r + a ≤ r_most r then 1 else 0
def r_ndS (r : RT) (a : Int32) : RT :=
  if a < 0 then r else if 9 < a then r else if 10 * rN r + a ≤ r_most r then (rP r, rS r, rH r, rK r, 10 * rN r + a) else r
theorem r_psR_nar {a : Int32} : narrow .boolean (.int (r_psR a)) = .int (r_psR a) := by
  unfold r_psR
  split
  · rfl
  · split <;> rfl
theorem r_sgR_nar {a : Int32} : narrow .boolean (.int (r_sgR a)) = .int (r_sgR a) := by
  unfold r_sgR
  split
  · rfl
  · split <;> rfl
theorem r_shR_nar {a : Int32} : narrow .boolean (.int (r_shR a)) = .int (r_shR a) := by
  unfold r_shR
  split <;> rfl
theorem r_fdR_nar {a : Int32} : narrow .boolean (.int (r_fdR a)) = .int (r_fdR a) := by
  unfold r_fdR
  split
  · rfl
  · split <;> rfl
theorem r_ndR_nar {r : RT} {a : Int32} : narrow .boolean (.int (r_ndR r a)) = .int (r_ndR r a) := by
  unfold r_ndR
  split
  · rfl
  · split
    · rfl
    · split <;> rfl
def r_takeR (r : RT) (a : Int32) : Int32 :=
  if rP r = 0 then r_psR a else if rP r = 1 then r_sgR a else if rP r = 2 then r_shR (a - 48) else if rP r = 3 then (if a = 58 then 1 else 0)
  else if rP r = 4 then r_fdR (a - 48) else if a = 59 then 1 else r_ndR r (a - 48)
def r_takeS (r : RT) (a : Int32) : RT :=
  if rP r = 0 then r_psS r a else if rP r = 1 then r_sgS r a else if rP r = 2 then r_shS r (a - 48) else if rP r = 3 then (if a = 58 then r_move r 1 4 else r_move r 0 4)
  else if rP r = 4 then r_fdS r (a - 48) else if a = 59 then r_move r 1 0 else r_ndS r (a - 48)
theorem g_bestI_of {b : Nat} (h : b < 4) : g_bestI b = nI b := by
  unfold g_bestI
  rw [if_neg (by omega)]
theorem g_bestI_4 {b k : Nat} (h : b = 4 ∨ b < k) (hk : k ≤ 4) (e : g_bestI b = -1) : b = 4 := by
  rcases h with h | h
  · exact h
  · exfalso
    rw [g_bestI_of (by omega)] at e
    rcases (show b = 0 ∨ b = 1 ∨ b = 2 ∨ b = 3 by omega) with rfl | rfl | rfl | rfl <;> exact absurd e (by decide)
def y_softD (y : YT) : UInt64 := if y_silos y 4 = 0 then FP.dconst1 else FP.ddiv (FP.i2d (y_soft y 4)) (FP.i2d (y_silos y 4))
