/-! rows copied over rows, how hard -/
def g_min (a b : Int32) : Int32 := if b ≤ a then b else a
/-- n of g's rows from a on, put over f from d on -/
def cpN (f g : Nat → Int32) (d a n : Nat) : Nat → Int32 := fun j => if d ≤ j ∧ j < d + n then g (j - d + a) else f j
theorem cpN_0 {f g : Nat → Int32} {d a : Nat} : cpN f g d a 0 = f := by
  funext j
  simp only [cpN]
  rw [if_neg (by omega)]
theorem cpN_s {f g : Nat → Int32} {d a k : Nat} : upd (cpN f g d a k) (d + k) (g (k + a)) = cpN f g d a (k + 1) := by
  funext j
  by_cases h : j = d + k
  · subst h
    simp only [cpN, pk_us]
    rw [if_pos (by omega), show d + k - d + a = k + a by omega]
  · rw [pk_un h]
    simp only [cpN]
    by_cases h2 : d ≤ j ∧ j < d + k
    · rw [if_pos h2, if_pos (by omega)]
    · rw [if_neg h2, if_neg (by omega)]
theorem cpN_own {f g : Nat → Int32} {d a k j : Nat} (h : d + k ≤ j) : cpN f g d a k j = f j := by
  simp only [cpN]
  rw [if_neg (by omega)]
def g_set (a d : Int32) : Int32 := if d < a then (if 2 * d < a then 2 else 1) else 0
theorem sw_ne {x : Int32} {n : Nat} (hn : n < 2 ^ 31) (h : ¬ x = nI n) : x.toInt ≠ (n : Int) := fun q => h (Int32.toInt_inj.mp (by rw [q, nI_toInt hn]))
