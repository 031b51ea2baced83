/-! YARDS (22 places each: the object, its two rows of references, the settings, four silos, six ships) AND THE WHOLE OBJECT (places 0 to 161) -/
abbrev YT : Type := (Nat → ST) × (Nat → HT) × (Nat → Int32) × (Nat → Int32)
abbrev yS (y : YT) : Nat → ST := y.1
abbrev yH (y : YT) : Nat → HT := y.2.1
abbrev yZ (y : YT) : Nat → Int32 := y.2.2.1
abbrev yC (y : YT) : Nat → Int32 := y.2.2.2
def ySetS (y : YT) (k : Nat) (v : ST) : YT := (fun i => if i = k then v else y.1 i, y.2)
def ySetH (y : YT) (j : Nat) (h : HT) : YT := (y.1, fun i => if i = j then h else y.2.1 i, y.2.2)
def sCell (cy : Nat → ClassId) (L : Nat → Nat) (p : Nat) (v : ST) (q : Nat) : va_E :=
  if q = 0 then .inr (1, [.ref (L (p + 1)), .ref (L (p + 2)), .int (nI v.2.2.1), .int v.2.2.2.1, .int v.2.2.2.2.1, .int v.2.2.2.2.2])
  else if q = 1 then .inl (cy 0, 10, .inl v.1) else .inl (cy 0, 10, .inl v.2.1)
def yCell (cy : Nat → ClassId) (L : Nat → Nat) (b : Nat) (y : YT) (r : Nat) : va_E :=
  if r = 0 then .inr (3, [.ref (L (b + 1)), .ref (L (b + 2)), .ref (L (b + 3)), .int (y.2.2.2 0), .int (y.2.2.2 1), .int (y.2.2.2 2), .int (y.2.2.2 3), .int (y.2.2.2 4), .int (y.2.2.2 5)])
  else if r = 1 then .inl (cy 1, 4, .inr (.inr (.inr (.inr (fun k => some (L (b + 4 + 3 * k)))))))
  else if r = 2 then .inl (cy 2, 6, .inr (.inr (.inr (.inr (fun j => some (L (b + 16 + j)))))))
  else if r = 3 then .inl (cy 0, 4, .inl y.2.2.1)
  else if r < 16 then sCell cy L (b + 4 + 3 * ((r - 4) / 3)) (y.1 ((r - 4) / 3)) ((r - 4) % 3)
  else .inr (0, [.int (y.2.1 (r - 16)).1, .int (y.2.1 (r - 16)).2])
def yW (cy : Nat → ClassId) (L : Nat → Nat) (F : Nat → va_E) (b : Nat) (y : YT) : Nat → va_E := fun i =>
  if i < b ∨ b + 22 ≤ i then F i else yCell cy L b y (i - b)
section YWL
variable {cy : Nat → ClassId} {L : Nat → Nat} {F : Nat → va_E} {b k j : Nat} {y y2 : YT} {v : ST} {h : HT}
theorem yW_n {i : Nat} (hi : i < b ∨ b + 22 ≤ i) : yW cy L F b y i = F i := by
  unfold yW
  rw [if_pos hi]
theorem yW_i {r : Nat} (hr : r < 22) : yW cy L F b y (b + r) = yCell cy L b y r := by
  unfold yW
  rw [if_neg (by omega), show b + r - b = r by omega]
theorem yW_o : yW cy L F b y b = .inr (3, [.ref (L (b + 1)), .ref (L (b + 2)), .ref (L (b + 3)), .int (y.2.2.2 0), .int (y.2.2.2 1), .int (y.2.2.2 2), .int (y.2.2.2 3), .int (y.2.2.2 4), .int (y.2.2.2 5)]) := yW_i (r := 0) (by omega)
theorem yW_s : yW cy L F b y (b + 1) = .inl (cy 1, 4, .inr (.inr (.inr (.inr (fun k => some (L (b + 4 + 3 * k))))))) := yW_i (r := 1) (by omega)
theorem yW_h : yW cy L F b y (b + 2) = .inl (cy 2, 6, .inr (.inr (.inr (.inr (fun j => some (L (b + 16 + j))))))) := yW_i (r := 2) (by omega)
theorem yW_z : yW cy L F b y (b + 3) = .inl (cy 0, 4, .inl y.2.2.1) := yW_i (r := 3) (by omega)
theorem yW_sc {q : Nat} (hk : k < 4) (hq : q < 3) : yW cy L F b y (b + 4 + 3 * k + q) = sCell cy L (b + 4 + 3 * k) (y.1 k) q := by
  rw [show b + 4 + 3 * k + q = b + (4 + 3 * k + q) by omega, yW_i (by omega)]
  unfold yCell
  rw [if_neg (by omega), if_neg (by omega), if_neg (by omega), if_neg (by omega), if_pos (by omega), show (4 + 3 * k + q - 4) / 3 = k by omega, show (4 + 3 * k + q - 4) % 3 = q by omega]
theorem yW_so (hk : k < 4) : yW cy L F b y (b + 4 + 3 * k) = .inr (1, [.ref (L (b + 4 + 3 * k + 1)), .ref (L (b + 4 + 3 * k + 2)), .int (nI (y.1 k).2.2.1), .int (y.1 k).2.2.2.1, .int (y.1 k).2.2.2.2.1, .int (y.1 k).2.2.2.2.2]) := yW_sc (q := 0) hk (by omega)
theorem yW_st (hk : k < 4) : yW cy L F b y (b + 4 + 3 * k + 1) = .inl (cy 0, 10, .inl (y.1 k).1) := yW_sc (q := 1) hk (by omega)
theorem yW_sa (hk : k < 4) : yW cy L F b y (b + 4 + 3 * k + 2) = .inl (cy 0, 10, .inl (y.1 k).2.1) := yW_sc (q := 2) hk (by omega)
theorem yW_ho (hj : j < 6) : yW cy L F b y (b + 16 + j) = .inr (0, [.int (y.2.1 j).1, .int (y.2.1 j).2]) := by
  rw [show b + 16 + j = b + (16 + j) by omega, yW_i (by omega)]
  unfold yCell
  rw [if_neg (by omega), if_neg (by omega), if_neg (by omega), if_neg (by omega), if_neg (by omega), show 16 + j - 16 = j by omega]
/-- a yard with a silo put in anew -/
theorem yW_S (hk : k < 4) : sW cy L (yW cy L F b y) (b + 4 + 3 * k) v = yW cy L F b (ySetS y k v) := by
  funext i
  by_cases h1 : i < b + 4 + 3 * k ∨ b + 4 + 3 * k + 3 ≤ i
  · rw [sW_n h1]
    by_cases h2 : i < b ∨ b + 22 ≤ i
    · rw [yW_n h2, yW_n h2]
    · obtain ⟨r, rfl⟩ : ∃ r, i = b + r := ⟨i - b, by omega⟩
      rw [yW_i (by omega), yW_i (by omega)]
      unfold yCell
      by_cases h3 : r < 4
      · rcases (show r = 0 ∨ r = 1 ∨ r = 2 ∨ r = 3 by omega) with rfl | rfl | rfl | rfl <;> rfl
      · rw [if_neg (show ¬ r = 0 by omega), if_neg (show ¬ r = 1 by omega), if_neg (show ¬ r = 2 by omega), if_neg (show ¬ r = 3 by omega), if_neg (show ¬ r = 0 by omega), if_neg (show ¬ r = 1 by omega), if_neg (show ¬ r = 2 by omega), if_neg (show ¬ r = 3 by omega)]
        by_cases h4 : r < 16
        · rw [if_pos h4, if_pos h4]
          have h5 : ¬ (r - 4) / 3 = k := by omega
          simp only [ySetS, if_neg h5]
        · rw [if_neg h4, if_neg h4]
          rfl
  · obtain ⟨q, hq, rfl⟩ : ∃ q, q < 3 ∧ i = b + 4 + 3 * k + q := ⟨i - (b + 4 + 3 * k), by omega, by omega⟩
    rw [yW_sc hk hq]
    rcases (show q = 0 ∨ q = 1 ∨ q = 2 by omega) with rfl | rfl | rfl
    · show sW cy L (yW cy L F b y) (b + 4 + 3 * k) v (b + 4 + 3 * k) = _
      rw [sW_o]
      simp [sCell, ySetS]
    · rw [sW_t]
      simp [sCell, ySetS]
    · rw [sW_a]
      simp [sCell, ySetS]
theorem ySetS_id : ySetS y k (yS y k) = y := by
  unfold ySetS
  have h : (fun i => if i = k then y.1 k else y.1 i) = y.1 := by
    funext i
    split
    · rename_i e
      rw [e]
    · rfl
  rw [show yS y k = y.1 k from rfl, h]
theorem ySetH_id : ySetH y j (yH y j) = y := by
  unfold ySetH
  have h : (fun i => if i = j then y.2.1 j else y.2.1 i) = y.2.1 := by
    funext i
    split
    · rename_i e
      rw [e]
    · rfl
  rw [show yH y j = y.2.1 j from rfl, h]
theorem yW_S0 (hk : k < 4) : sW cy L (yW cy L F b y) (b + 4 + 3 * k) (yS y k) = yW cy L F b y := by rw [yW_S hk, ySetS_id]
theorem yW_H (hj : j < 6) : hW (yW cy L F b y) (b + 16 + j) h = yW cy L F b (ySetH y j h) := by
  funext i
  by_cases h1 : i = b + 16 + j
  · subst h1
    rw [hW_o, yW_ho hj]
    simp [ySetH]
  · rw [hW_n h1]
    by_cases h2 : i < b ∨ b + 22 ≤ i
    · rw [yW_n h2, yW_n h2]
    · obtain ⟨r, rfl⟩ : ∃ r, i = b + r := ⟨i - b, by omega⟩
      rw [yW_i (by omega), yW_i (by omega)]
      unfold yCell
      by_cases h3 : r < 16
      · by_cases h4 : r < 4
        · rcases (show r = 0 ∨ r = 1 ∨ r = 2 ∨ r = 3 by omega) with rfl | rfl | rfl | rfl <;> rfl
        · rw [if_neg (show ¬ r = 0 by omega), if_neg (show ¬ r = 1 by omega), if_neg (show ¬ r = 2 by omega), if_neg (show ¬ r = 3 by omega), if_pos h3, if_neg (show ¬ r = 0 by omega), if_neg (show ¬ r = 1 by omega), if_neg (show ¬ r = 2 by omega), if_neg (show ¬ r = 3 by omega), if_pos h3]
          rfl
      · rw [if_neg (show ¬ r = 0 by omega), if_neg (show ¬ r = 1 by omega), if_neg (show ¬ r = 2 by omega), if_neg (show ¬ r = 3 by omega), if_neg h3, if_neg (show ¬ r = 0 by omega), if_neg (show ¬ r = 1 by omega), if_neg (show ¬ r = 2 by omega), if_neg (show ¬ r = 3 by omega), if_neg h3]
        have h5 : ¬ r - 16 = j := by omega
        simp only [ySetH, if_neg h5]
theorem yW_H0 (hj : j < 6) : hW (yW cy L F b y) (b + 16 + j) (yH y j) = yW cy L F b y := by rw [yW_H hj, ySetH_id]
theorem yW_u {r : Nat} {e : va_E} (hr : r < 22) (he : yCell cy L b y2 r = e) (hne : ∀ q, q < 22 → q ≠ r → yCell cy L b y q = yCell cy L b y2 q) : gup (yW cy L F b y) (b + r) e = yW cy L F b y2 := by
  funext i
  by_cases h1 : i = b + r
  · subst h1
    rw [gup_s, yW_i hr, he]
  · rw [gup_n h1]
    by_cases h2 : i < b ∨ b + 22 ≤ i
    · rw [yW_n h2, yW_n h2]
    · obtain ⟨q, rfl⟩ : ∃ q, i = b + q := ⟨i - b, by omega⟩
      rw [yW_i (by omega), yW_i (by omega), hne q (by omega) (by omega)]
theorem yCell_c {r : Nat} {c2 : Nat → Int32} (hr : r ≠ 0) : yCell cy L b y r = yCell cy L b (y.1, y.2.1, y.2.2.1, c2) r := by
  unfold yCell
  rw [if_neg hr, if_neg hr]
theorem yW_uz {f : Nat → Int32} : gup (yW cy L F b y) (b + 3) (.inl (cy 0, 4, .inl f)) = yW cy L F b (y.1, y.2.1, f, y.2.2.2) := by
  refine yW_u (r := 3) (by omega) rfl (fun q hq hne => ?_)
  unfold yCell
  rw [if_neg hne, if_neg hne]
theorem yW_u0 {x9 : Int32} : gup (yW cy L F b y) b (.inr (3, [.ref (L (b + 1)), .ref (L (b + 2)), .ref (L (b + 3)), .int x9, .int (y.2.2.2 1), .int (y.2.2.2 2), .int (y.2.2.2 3), .int (y.2.2.2 4), .int (y.2.2.2 5)])) = yW cy L F b (y.1, y.2.1, y.2.2.1, upd y.2.2.2 0 x9) :=
  yW_u (r := 0) (by omega) rfl (fun q hq hne => yCell_c hne)
theorem yW_u1 {x9 : Int32} : gup (yW cy L F b y) b (.inr (3, [.ref (L (b + 1)), .ref (L (b + 2)), .ref (L (b + 3)), .int (y.2.2.2 0), .int x9, .int (y.2.2.2 2), .int (y.2.2.2 3), .int (y.2.2.2 4), .int (y.2.2.2 5)])) = yW cy L F b (y.1, y.2.1, y.2.2.1, upd y.2.2.2 1 x9) :=
  yW_u (r := 0) (by omega) rfl (fun q hq hne => yCell_c hne)
theorem yW_u2 {x9 : Int32} : gup (yW cy L F b y) b (.inr (3, [.ref (L (b + 1)), .ref (L (b + 2)), .ref (L (b + 3)), .int (y.2.2.2 0), .int (y.2.2.2 1), .int x9, .int (y.2.2.2 3), .int (y.2.2.2 4), .int (y.2.2.2 5)])) = yW cy L F b (y.1, y.2.1, y.2.2.1, upd y.2.2.2 2 x9) :=
  yW_u (r := 0) (by omega) rfl (fun q hq hne => yCell_c hne)
theorem yW_u3 {x9 : Int32} : gup (yW cy L F b y) b (.inr (3, [.ref (L (b + 1)), .ref (L (b + 2)), .ref (L (b + 3)), .int (y.2.2.2 0), .int (y.2.2.2 1), .int (y.2.2.2 2), .int x9, .int (y.2.2.2 4), .int (y.2.2.2 5)])) = yW cy L F b (y.1, y.2.1, y.2.2.1, upd y.2.2.2 3 x9) :=
  yW_u (r := 0) (by omega) rfl (fun q hq hne => yCell_c hne)
theorem yW_u4 {x9 : Int32} : gup (yW cy L F b y) b (.inr (3, [.ref (L (b + 1)), .ref (L (b + 2)), .ref (L (b + 3)), .int (y.2.2.2 0), .int (y.2.2.2 1), .int (y.2.2.2 2), .int (y.2.2.2 3), .int x9, .int (y.2.2.2 5)])) = yW cy L F b (y.1, y.2.1, y.2.2.1, upd y.2.2.2 4 x9) :=
  yW_u (r := 0) (by omega) rfl (fun q hq hne => yCell_c hne)
theorem yW_u5 {x9 : Int32} : gup (yW cy L F b y) b (.inr (3, [.ref (L (b + 1)), .ref (L (b + 2)), .ref (L (b + 3)), .int (y.2.2.2 0), .int (y.2.2.2 1), .int (y.2.2.2 2), .int (y.2.2.2 3), .int (y.2.2.2 4), .int x9])) = yW cy L F b (y.1, y.2.1, y.2.2.1, upd y.2.2.2 5 x9) :=
  yW_u (r := 0) (by omega) rfl (fun q hq hne => yCell_c hne)
theorem yy_comm {b2 : Nat} (hd : b2 + 22 ≤ b ∨ b + 22 ≤ b2) : yW cy L (yW cy L F b y) b2 y2 = yW cy L (yW cy L F b2 y2) b y := by
  funext i
  by_cases h1 : i < b2 ∨ b2 + 22 ≤ i
  · rw [yW_n h1]
    by_cases h2 : i < b ∨ b + 22 ≤ i
    · rw [yW_n h2, yW_n h2, yW_n h1]
    · unfold yW
      rw [if_neg h2, if_neg h2]
  · rw [yW_n (b := b) (by omega)]
    unfold yW
    rw [if_neg h1, if_neg h1]
end YWL
