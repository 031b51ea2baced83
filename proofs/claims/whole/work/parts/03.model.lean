/-! THE REFERENCE'S STATE: six cells, at the places 162 to 167 (the object, s, aside, saved, buffer, read) -/
def mW (cy : Nat → ClassId) (L : Nat → Nat) (F : Nat → va_E) (mt : Int32) (ms ma mv : Nat → Int32) (mn : Int32) (mb : Nat → Int32) (ml mp mw : Int32) (mr : Nat → Int32) (mq : Int32) (mh : Int64) : Nat → va_E := fun i =>
  if i = 162 then .inr (5, [.int mt, .ref (L 163), .ref (L 164), .ref (L 165), .int mn, .ref (L 166), .int ml, .int mp, .int mw, .ref (L 167), .int mq, .long mh])
  else if i = 163 then .inl (cy 0, 118, .inl ms) else if i = 164 then .inl (cy 0, 118, .inl ma) else if i = 165 then .inl (cy 0, 708, .inl mv) else if i = 166 then .inl (cy 0, 60, .inl mb) else if i = 167 then .inl (cy 0, 88, .inl mr) else F i
section MWL
variable {cy : Nat → ClassId} {L : Nat → Nat} {F : Nat → va_E} {mt : Int32} {ms ma mv : Nat → Int32} {mn : Int32} {mb : Nat → Int32} {ml mp mw : Int32} {mr : Nat → Int32} {mq : Int32} {mh : Int64}
theorem mW_o : mW cy L F mt ms ma mv mn mb ml mp mw mr mq mh 162 = .inr (5, [.int mt, .ref (L 163), .ref (L 164), .ref (L 165), .int mn, .ref (L 166), .int ml, .int mp, .int mw, .ref (L 167), .int mq, .long mh]) := by simp [mW]
theorem mW_a163 : mW cy L F mt ms ma mv mn mb ml mp mw mr mq mh 163 = .inl (cy 0, 118, .inl ms) := by simp [mW]
theorem mW_a164 : mW cy L F mt ms ma mv mn mb ml mp mw mr mq mh 164 = .inl (cy 0, 118, .inl ma) := by simp [mW]
theorem mW_a165 : mW cy L F mt ms ma mv mn mb ml mp mw mr mq mh 165 = .inl (cy 0, 708, .inl mv) := by simp [mW]
theorem mW_a166 : mW cy L F mt ms ma mv mn mb ml mp mw mr mq mh 166 = .inl (cy 0, 60, .inl mb) := by simp [mW]
theorem mW_a167 : mW cy L F mt ms ma mv mn mb ml mp mw mr mq mh 167 = .inl (cy 0, 88, .inl mr) := by simp [mW]
theorem mW_uo {mt' mn' ml' mp' mw' mq' : Int32} {mh' : Int64} : gup (mW cy L F mt ms ma mv mn mb ml mp mw mr mq mh) 162 (.inr (5, [.int mt', .ref (L 163), .ref (L 164), .ref (L 165), .int mn', .ref (L 166), .int ml', .int mp', .int mw', .ref (L 167), .int mq', .long mh'])) = mW cy L F mt' ms ma mv mn' mb ml' mp' mw' mr mq' mh' := by
  funext i
  by_cases h : i = 162 <;> simp [gup, mW, h]
theorem mW_us {f : Nat → Int32} : gup (mW cy L F mt ms ma mv mn mb ml mp mw mr mq mh) 163 (.inl (cy 0, 118, .inl f)) = mW cy L F mt f ma mv mn mb ml mp mw mr mq mh := by
  funext i
  by_cases h : i = 163 <;> simp [gup, mW, h]
theorem mW_ua {f : Nat → Int32} : gup (mW cy L F mt ms ma mv mn mb ml mp mw mr mq mh) 164 (.inl (cy 0, 118, .inl f)) = mW cy L F mt ms f mv mn mb ml mp mw mr mq mh := by
  funext i
  by_cases h : i = 164 <;> simp [gup, mW, h]
theorem mW_uv {f : Nat → Int32} : gup (mW cy L F mt ms ma mv mn mb ml mp mw mr mq mh) 165 (.inl (cy 0, 708, .inl f)) = mW cy L F mt ms ma f mn mb ml mp mw mr mq mh := by
  funext i
  by_cases h : i = 165 <;> simp [gup, mW, h]
theorem mW_ub {f : Nat → Int32} : gup (mW cy L F mt ms ma mv mn mb ml mp mw mr mq mh) 166 (.inl (cy 0, 60, .inl f)) = mW cy L F mt ms ma mv mn f ml mp mw mr mq mh := by
  funext i
  by_cases h : i = 166 <;> simp [gup, mW, h]
theorem mW_ur {f : Nat → Int32} : gup (mW cy L F mt ms ma mv mn mb ml mp mw mr mq mh) 167 (.inl (cy 0, 88, .inl f)) = mW cy L F mt ms ma mv mn mb ml mp mw f mq mh := by
  funext i
  by_cases h : i = 167 <;> simp [gup, mW, h]
end MWL
/-! WHAT THE REFERENCE'S METHODS ANSWER, on the row s -/
def g_in (v a b : Int32) : Int32 := if v < a then 0 else if b < v then 0 else 1
theorem g_in_nar {v a b : Int32} : narrow .boolean (.int (g_in v a b)) = .int (g_in v a b) := by
  unfold g_in
  split
  · rfl
  · split <;> rfl
def g_min (a b : Int32) : Int32 := if b ≤ a then b else a
/-- n of g's rows from a on, put over f from d on -/
def cpN (f g : Nat → Int32) (d a n : Nat) : Nat → Int32 := fun j => if d ≤ j ∧ j < d + n then g (j - d + a) else f j
theorem cpN_0 {f g : Nat → Int32} {d a : Nat} : cpN f g d a 0 = f := by
  funext j
  simp only [cpN]
  rw [if_neg (by omega)]
theorem cpN_s {f g : Nat → Int32} {d a k : Nat} : upd (cpN f g d a k) (d + k) (g (k + a)) = cpN f g d a (k + 1) := by
  funext j
  by_cases h : j = d + k
  · subst h
    simp only [cpN, pk_us]
    rw [if_pos (by omega), show d + k - d + a = k + a by omega]
  · rw [pk_un h]
    simp only [cpN]
    by_cases h2 : d ≤ j ∧ j < d + k
    · rw [if_pos h2, if_pos (by omega)]
    · rw [if_neg h2, if_neg (by omega)]
theorem cpN_own {f g : Nat → Int32} {d a k j : Nat} (h : d + k ≤ j) : cpN f g d a k j = f j := by
  simp only [cpN]
  rw [if_neg (by omega)]
def g_set (a d : Int32) : Int32 := if d < a then (if 2 * d < a then 2 else 1) else 0
def g_sum (s : Nat → Int32) (k j : Nat) : Nat → Int32
  | 0 => 0
  | n + 1 => g_sum s k j n + s (10 + 24 * k + (4 + 2 * (j + n)))
def g_flows (s : Nat → Int32) (k : Nat) : Int32 :=
  if s (10 + 24 * k + 3) = 0 then 0
  else if g_set (s (10 + 24 * k + (4 + 2 * 0 + 1))) (s 7) = 0 then (if s (10 + 24 * k + 0) = 0 then 5 else 40 * s (10 + 24 * k + 0))
  else if g_set (s (10 + 24 * k + (4 + 2 * 0 + 1))) (s 7) = 1 then (if s (10 + 24 * k + 0) = 0 then 0 else 20 * (s (10 + 24 * k + 0) - 1))
  else if s (10 + 24 * k + 0) = 4 then 10 else 0
