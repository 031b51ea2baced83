/-! THE CLASS'S OBJECTS, one at a place: a silo (object, tonnes, ages: three places), a ship, a reader -/
abbrev ST : Type := (Nat → Int32) × (Nat → Int32) × Nat × Int32 × Int32 × Int32
abbrev sT (v : ST) : Nat → Int32 := v.1
abbrev sA (v : ST) : Nat → Int32 := v.2.1
abbrev sN (v : ST) : Nat := v.2.2.1
abbrev sP (v : ST) : Int32 := v.2.2.2.1
abbrev sC (v : ST) : Int32 := v.2.2.2.2.1
abbrev sK (v : ST) : Int32 := v.2.2.2.2.2
abbrev HT : Type := Int32 × Int32
abbrev hT (h : HT) : Int32 := h.1
abbrev hH (h : HT) : Int32 := h.2
abbrev RT : Type := Int32 × Int32 × Int32 × Int32 × Int32
abbrev rP (r : RT) : Int32 := r.1
abbrev rS (r : RT) : Int32 := r.2.1
abbrev rH (r : RT) : Int32 := r.2.2.1
abbrev rK (r : RT) : Int32 := r.2.2.2.1
abbrev rN (r : RT) : Int32 := r.2.2.2.2
def sW (cy : Nat → ClassId) (L : Nat → Nat) (F : Nat → va_E) (b : Nat) (v : ST) : Nat → va_E := fun i =>
  if i = b then .inr (1, [.ref (L (b + 1)), .ref (L (b + 2)), .int (nI v.2.2.1), .int v.2.2.2.1, .int v.2.2.2.2.1, .int v.2.2.2.2.2])
  else if i = b + 1 then .inl (cy 0, 10, .inl v.1) else if i = b + 2 then .inl (cy 0, 10, .inl v.2.1) else F i
def hW (F : Nat → va_E) (b : Nat) (h : HT) : Nat → va_E := fun i => if i = b then .inr (0, [.int h.1, .int h.2]) else F i
def rW (F : Nat → va_E) (b : Nat) (r : RT) : Nat → va_E := fun i => if i = b then .inr (2, [.int r.1, .int r.2.1, .int r.2.2.1, .int r.2.2.2.1, .int r.2.2.2.2]) else F i
section CWL
variable {cy : Nat → ClassId} {L : Nat → Nat} {F : Nat → va_E} {b b2 : Nat} {v v2 : ST} {h h2 : HT} {r : RT}
theorem sW_o : sW cy L F b v b = .inr (1, [.ref (L (b + 1)), .ref (L (b + 2)), .int (nI v.2.2.1), .int v.2.2.2.1, .int v.2.2.2.2.1, .int v.2.2.2.2.2]) := by simp [sW]
theorem sW_t : sW cy L F b v (b + 1) = .inl (cy 0, 10, .inl v.1) := by simp [sW]
theorem sW_a : sW cy L F b v (b + 2) = .inl (cy 0, 10, .inl v.2.1) := by simp [sW]
theorem sW_n {i : Nat} (hi : i < b ∨ b + 3 ≤ i) : sW cy L F b v i = F i := by
  unfold sW
  rw [if_neg (by omega), if_neg (by omega), if_neg (by omega)]
theorem sW_uo {n : Nat} {p c k : Int32} : gup (sW cy L F b v) b (.inr (1, [.ref (L (b + 1)), .ref (L (b + 2)), .int (nI n), .int p, .int c, .int k])) = sW cy L F b (v.1, v.2.1, n, p, c, k) := by
  funext i
  by_cases h : i = b <;> simp [gup, sW, h]
theorem sW_ut {f : Nat → Int32} : gup (sW cy L F b v) (b + 1) (.inl (cy 0, 10, .inl f)) = sW cy L F b (f, v.2) := by
  funext i
  by_cases h : i = b + 1 <;> simp [gup, sW, h]
theorem sW_ua {f : Nat → Int32} : gup (sW cy L F b v) (b + 2) (.inl (cy 0, 10, .inl f)) = sW cy L F b (v.1, f, v.2.2) := by
  funext i
  by_cases h : i = b + 2 <;> simp [gup, sW, h]
theorem sW_c {i : Nat} {e : va_E} (hi : i < b ∨ b + 3 ≤ i) : gup (sW cy L F b v) i e = sW cy L (gup F i e) b v := by
  funext j
  by_cases h : j = i
  · subst h
    rw [gup_s, sW_n hi, gup_s]
  · rw [gup_n h]
    unfold sW
    rw [gup_n h]
theorem hW_o : hW F b h b = .inr (0, [.int h.1, .int h.2]) := by simp [hW]
theorem hW_n {i : Nat} (hi : i ≠ b) : hW F b h i = F i := by
  unfold hW
  rw [if_neg hi]
theorem hW_uo {t q : Int32} : gup (hW F b h) b (.inr (0, [.int t, .int q])) = hW F b (t, q) := by
  funext i
  by_cases h : i = b <;> simp [gup, hW, h]
theorem hW_c {i : Nat} {e : va_E} (hi : i ≠ b) : gup (hW F b h) i e = hW (gup F i e) b h := by
  funext j
  by_cases h : j = i
  · subst h
    rw [gup_s, hW_n hi, gup_s]
  · rw [gup_n h]
    unfold hW
    rw [gup_n h]
theorem rW_o : rW F b r b = .inr (2, [.int r.1, .int r.2.1, .int r.2.2.1, .int r.2.2.2.1, .int r.2.2.2.2]) := by simp [rW]
theorem rW_n {i : Nat} (hi : i ≠ b) : rW F b r i = F i := by
  unfold rW
  rw [if_neg hi]
theorem rW_uo {p s q k n : Int32} : gup (rW F b r) b (.inr (2, [.int p, .int s, .int q, .int k, .int n])) = rW F b (p, s, q, k, n) := by
  funext i
  by_cases h : i = b <;> simp [gup, rW, h]
/-- a silo and a ship, a silo and a silo, a ship and a ship: in any order -/
theorem hs_comm (hd : b2 < b ∨ b + 3 ≤ b2) : hW (sW cy L F b v) b2 h = sW cy L (hW F b2 h) b v := by
  funext i
  by_cases h1 : i = b2
  · subst h1
    rw [hW_o, sW_n hd, hW_o]
  · rw [hW_n h1]
    unfold sW
    rw [hW_n h1]
theorem ss_comm (hd : b2 + 3 ≤ b ∨ b + 3 ≤ b2) : sW cy L (sW cy L F b v) b2 v2 = sW cy L (sW cy L F b2 v2) b v := by
  funext i
  by_cases h1 : i < b2 ∨ b2 + 3 ≤ i
  · rw [sW_n h1]
    unfold sW
    rw [if_neg (show ¬ i = b2 by omega), if_neg (show ¬ i = b2 + 1 by omega), if_neg (show ¬ i = b2 + 2 by omega)]
  · rw [sW_n (b := b) (by omega)]
    unfold sW
    rw [if_neg (show ¬ i = b by omega), if_neg (show ¬ i = b + 1 by omega), if_neg (show ¬ i = b + 2 by omega)]
end CWL
