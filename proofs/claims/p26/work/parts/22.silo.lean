/-! WHAT A SILO'S METHODS ANSWER -/
theorem cpN_z {f g : Nat → Int32} {k : Nat} : upd (cpN f g (0) (0) k) k (g k) = cpN f g (0) (0) (k + 1) := by
  simpa using cpN_s (f := f) (g := g) (d := 0) (a := 0) (k := k)
def s_sum (t : Nat → Int32) (j : Nat) : Nat → Int32
  | 0 => 0
  | n + 1 => s_sum t j n + t (j + n)
def s_total (v : ST) : Int32 := s_sum (sT v) 0 (sN v - 0)
def s_held (v : ST) : Int32 := if sC v = 2 then s_sum (sT v) 0 (sN v - 0) else s_sum (sT v) 1 (sN v - 1)
def s_can (v : ST) : Int32 := if sN v < 2 then 0 else if sC v = 0 then 1 else 0
theorem s_can_nar {v : ST} : narrow .boolean (.int (s_can v)) = .int (s_can v) := by
  unfold s_can
  split
  · rfl
  · split <;> rfl
def s_onTop (v : ST) : Int32 := if sN v = 0 then 0 else if sA v (sN v - 1) = 0 then 500 - sT v (sN v - 1) else 0
def s_place (v : ST) : Int32 :=
  if (s_onTop v + (if 10 ≤ sN v then 0 else 500)) < (1200 - s_total v) then (s_onTop v + (if 10 ≤ sN v then 0 else 500)) else (1200 - s_total v)
def s_top (v : ST) (a : Int32) : Int32 := if s_onTop v < a then s_onTop v else a
def s_fillT (v : ST) (a : Int32) : Nat → Int32 := if s_top v a ≤ 0 then sT v else if sN v ≤ 0 then sT v else upd (sT v) (sN v - 1) (sT v (sN v - 1) + s_top v a)
def s_rest (v : ST) (a : Int32) : Int32 := a - s_top v a
def s_fill (v : ST) (a : Int32) : ST :=
  if s_rest v a ≤ 0 then (s_fillT v a, sA v, sN v, sP v, sC v, sK v)
  else if 10 ≤ sN v then (s_fillT v a, sA v, sN v, sP v, sC v, sK v)
  else (upd (s_fillT v a) (sN v) (s_rest v a), upd (sA v) (sN v) 0, sN v + 1, sP v, sC v, 0)
def s_tk (v : ST) (o : Int32) : Nat → Int32 := upd (sT v) 0 (sT v 0 - o)
def s_gone (v : ST) (o : Int32) : ST :=
  (cpN (upd (sT v) 0 (sT v 0 - o)) (upd (sT v) 0 (sT v 0 - o)) (0) (1) (sN v - 1), cpN (sA v) (sA v) (0) (1) (sN v - 1), sN v - 1, sP v, (if sC v = 1 then 2 else sC v), sK v)
def s_take (v : ST) (o : Int32) : ST :=
  if (upd (sT v) 0 (sT v 0 - o)) 0 ≤ 0 then s_gone v o else (upd (sT v) 0 (sT v 0 - o), sA v, sN v, sP v, sC v, sK v)
theorem s_take_step {f : Nat → Int32} {i : Nat} (h : 1 ≤ i) : upd (cpN f f (0) (1) (i - 1)) (i - 1) (f i) = cpN f f (0) (1) (i + 1 - 1) := by
  have h2 := cpN_s (f := f) (g := f) (d := 0) (a := 1) (k := i - 1)
  rw [Nat.zero_add, show i - 1 + 1 = i by omega] at h2
  rw [show i + 1 - 1 = i by omega]
  exact h2
def s_old (a : Nat → Int32) : Nat → Nat → Int32
  | 0 => a
  | i + 1 => upd (s_old a i) i (s_old a i i + 1)
def s_young (a : Nat → Int32) : Nat → Int32 := upd a 0 (if (0 : Int32) < a 0 - 1 then a 0 - 1 else 0)
