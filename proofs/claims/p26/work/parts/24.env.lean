/-! THE CLASS'S METHODS THAT READ THE SETTINGS: what they find at the places 0 (the object), 1 (its yard), 4 (the settings z) -/
def cE (cy : Nat → ClassId) (L : Nat → Nat) (F : Nat → va_E) (z : Nat → Int32) : Prop :=
  (∃ fs, F 0 = .inr (4, .ref (L 1) :: fs)) ∧ (∃ a1 a2 fs, F 1 = .inr (3, a1 :: a2 :: .ref (L 4) :: fs)) ∧ F 4 = .inl (cy 0, 4, .inl z)
theorem cE_s {cy : Nat → ClassId} {L : Nat → Nat} {F : Nat → va_E} {z : Nat → Int32} {b : Nat} {v : ST} (hb : 5 ≤ b) (h : cE cy L F z) : cE cy L (sW cy L F b v) z := by
  unfold cE
  rw [sW_n (by omega), sW_n (by omega), sW_n (by omega)]
  exact h
theorem cE_h {cy : Nat → ClassId} {L : Nat → Nat} {F : Nat → va_E} {z : Nat → Int32} {b : Nat} {h1 : HT} (hb : 5 ≤ b) (h : cE cy L F z) : cE cy L (hW F b h1) z := by
  unfold cE
  rw [hW_n (by omega), hW_n (by omega), hW_n (by omega)]
  exact h
def c_noSilo (v : Int32) : Int32 := if v < 0 then 1 else if v < 4 then 0 else 1
def c_noShip (v : Int32) : Int32 := if v < 0 then 1 else if v < 6 then 0 else 1
def s_min (a b : Int32) : Int32 := if b < a then b else a
def c_dust (z : Nat → Int32) (o : Int32) : Int32 := if z 2 ≤ 0 then 0 else o / z 2
def c_until (z : Nat → Int32) (a : Int32) : Int32 := if 1 < z 1 + 1 - a then z 1 + 1 - a else 1
def c_outH (z : Nat → Int32) (v : ST) (q : Int32) : Int32 :=
  if sN v = 0 then 0
  else if g_set (sA v 0) (z 1) = 0 then (if q = 0 then 5 else 40 * q)
  else if g_set (sA v 0) (z 1) = 1 then (if q = 0 then 0 else 20 * (q - 1))
  else if q = 4 then 10 * (q - 3) else 0
def c_out (z : Nat → Int32) (v : ST) (h : HT) : Int32 := s_min (c_outH z v (sP v)) (s_min (sT v 0) (hH h - hT h))
def c_hourR (z : Nat → Int32) (v : ST) (h : HT) : Int32 := if sN v = 0 then 0 else if sC v = 2 then 0 else c_out z v h - c_dust z (c_out z v h)
def c_hourV (z : Nat → Int32) (v : ST) (h : HT) : ST := if sN v = 0 then v else if sC v = 2 then v else s_take v (c_out z v h)
def c_hourH (z : Nat → Int32) (v : ST) (h : HT) : HT := if sN v = 0 then h else if sC v = 2 then h else (hT h + (c_out z v h - c_dust z (c_out z v h)), hH h)
def c_poS (z : Nat → Int32) (v : ST) (h : HT) : Nat → ST × HT
  | 0 => (v, h)
  | q + 1 => (c_hourV z (c_poS z v h q).1 (c_poS z v h q).2, c_hourH z (c_poS z v h q).1 (c_poS z v h q).2)
def c_poR (z : Nat → Int32) (v : ST) (h : HT) : Nat → Int32
  | 0 => 0
  | q + 1 => c_poR z v h q + c_hourR z (c_poS z v h q).1 (c_poS z v h q).2
theorem s_take_N {v : ST} {o : Int32} : sN (s_take v o) ≤ sN v := by
  unfold s_take
  split
  · exact Nat.sub_le _ _
  · exact Nat.le_refl _
theorem c_po_N {z : Nat → Int32} {v : ST} {h : HT} (hn : sN v ≤ 10) : ∀ q, sN (c_poS z v h q).1 ≤ 10
  | 0 => hn
  | q + 1 => by
    have ih := c_po_N (z := z) (h := h) hn q
    show sN (c_hourV z (c_poS z v h q).1 (c_poS z v h q).2) ≤ 10
    unfold c_hourV
    split
    · exact ih
    · split
      · exact ih
      · exact Nat.le_trans s_take_N ih
def c_brR (v : ST) (h : HT) (t : Int32) : Int32 := s_min t (s_min (hT h) (s_place v))
def c_brk (z : Nat → Int32) (v : ST) : Int32 := if sC v = 0 then 0 else if s_held v < z 3 then (if 1 < 3 - sK v then 3 - sK v else 1) else 1
def c_soft (z : Nat → Int32) (v : ST) : Nat → Int32
  | 0 => 0
  | i + 1 => if g_set (sA v i) (z 1) = 0 then c_soft z v i + sT v i else c_soft z v i
def c_old (v : ST) : ST := (sT v, s_old (sA v) (sN v), sN v, sP v, sC v, sK v)
def c_dayR (z : Nat → Int32) (v : ST) : Int32 := if s_can (c_old v) = 0 then 0 else if g_set (s_old (sA v) (sN v) 0) (z 1) = 0 then 0 else 1
def c_dayV (z : Nat → Int32) (v : ST) : ST :=
  if s_can (c_old v) = 0 then c_old v else if g_set (s_old (sA v) (sN v) 0) (z 1) = 0 then c_old v else (sT v, s_old (sA v) (sN v), sN v, sP v, 1, 0)
def c_more (v w : ST) : Int32 :=
  if sA v 0 = sA w 0 then (if s_total v ≤ s_total w then 0 else 1) else if sA v 0 ≤ sA w 0 then 0 else 1
