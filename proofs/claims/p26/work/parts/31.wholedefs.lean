/-! what the whole object's inner methods answer -/
def wfY (y : YT) : Prop := ∀ k, k < 4 → sN (yS y k) ≤ 10
theorem yS_set {y : YT} {k : Nat} {v : ST} : yS (ySetS y k v) k = v := by simp [yS, yH, ySetS]
theorem yS_setH {y : YT} {k j : Nat} {v : ST} {h : HT} : yS (ySetH (ySetS y k v) j h) k = v := by simp [yS, yH, ySetS, ySetH]
theorem yS_ne {y : YT} {k i : Nat} {v : ST} (h : i ≠ k) : yS (ySetS y k v) i = yS y i := by simp [yS, yH, ySetS, h]
theorem yH_set {y : YT} {j : Nat} {h : HT} : yH (ySetH y j h) j = h := by simp [yS, yH, ySetH]
theorem yH_ne {y : YT} {j i : Nat} {h : HT} (hn : i ≠ j) : yH (ySetH y j h) i = yH y i := by simp [yS, yH, ySetH, hn]
theorem wfY_set {y : YT} {k : Nat} {v : ST} (hy : wfY y) (hv : sN v ≤ 10) : wfY (ySetS y k v) := by
  intro i hi
  by_cases h : i = k
  · subst h
    rw [yS_set]
    exact hv
  · rw [yS_ne h]
    exact hy i hi
def y_let1 (y : YT) (k j q : Nat) : YT := ySetH (ySetS y k (c_poS (yZ y) (yS y k) (yH y j) q).1) j (c_poS (yZ y) (yS y k) (yH y j) q).2
def y_letR (y : YT) (k j q : Nat) : Int32 := c_poR (yZ y) (yS y k) (yH y j) q
def y_let (y : YT) (k j q : Nat) : YT :=
  (yS (y_let1 y k j q), yH (y_let1 y k j q), yZ (y_let1 y k j q), upd (yC (y_let1 y k j q)) 1 (yC (y_let1 y k j q) 1 + (s_total (yS y k) - s_total (yS (y_let1 y k j q) k) - y_letR y k j q)))
def y_d1 (y : YT) : YT := (yS y, yH y, yZ y, upd (yC y) 0 (yC y 0 + 1))
def y_dS (y : YT) : Nat → YT
  | 0 => y_d1 y
  | k + 1 => ySetS (y_dS y k) k (c_dayV (yZ (y_dS y k)) (yS (y_dS y k) k))
def y_dR (y : YT) (a : Int32) : Nat → Int32
  | 0 => a
  | k + 1 => y_dR y a k + c_dayR (yZ (y_dS y k)) (yS (y_dS y k) k)
def y_P (y : YT) : Nat → YT
  | 0 => y
  | d + 1 => y_dS (y_P y d) 4
def y_PR (y : YT) : Nat → Int32
  | 0 => 0
  | d + 1 => y_dR (y_P y d) (y_PR y d) 4
def y_pass (y : YT) (d : Nat) : YT := (yS (y_P y d), yH (y_P y d), yZ (y_P y d), upd (yC (y_P y d)) 5 (yC (y_P y d) 5 + y_PR y d))
theorem c_dayV_N {z : Nat → Int32} {v : ST} : sN (c_dayV z v) = sN v := by
  unfold c_dayV
  split
  · rfl
  · split <;> rfl
theorem wfY_dS {y : YT} (hy : wfY y) : ∀ k, k ≤ 4 → wfY (y_dS y k)
  | 0, _ => hy
  | k + 1, hk => wfY_set (wfY_dS hy k (by omega)) (by rw [c_dayV_N]; exact wfY_dS hy k (by omega) k (by omega))
theorem wfY_P {y : YT} (hy : wfY y) : ∀ d, wfY (y_P y d)
  | 0 => hy
  | d + 1 => wfY_dS (wfY_P hy d) 4 (by omega)
/-- the saved rows turned by one -/
def m_sh (M : Nat → Nat) : Nat → Nat → Nat
  | 0 => M
  | k + 1 => nSet (m_sh M k) k (m_sh M k (k + 1))
def m_rot (M : Nat → Nat) (n : Nat) : Nat → Nat := if n = 6 then nSet (m_sh M 5) 5 (M 0) else M
def n_rot (n : Nat) : Nat := if n = 6 then 5 else n
theorem nSet_lt {M : Nat → Nat} {k p : Nat} (h : ∀ i, i < 6 → M i < 6) (hp : p < 6) : ∀ i, i < 6 → nSet M k p i < 6 := by
  intro i hi
  unfold nSet
  split
  · exact hp
  · exact h i hi
theorem m_sh_lt {M : Nat → Nat} (h : ∀ i, i < 6 → M i < 6) : ∀ k, k ≤ 5 → ∀ i, i < 6 → m_sh M k i < 6
  | 0, _ => h
  | k + 1, hk => nSet_lt (m_sh_lt h k (by omega)) (m_sh_lt h k (by omega) (k + 1) (by omega))
theorem m_rot_lt {M : Nat → Nat} {n : Nat} (h : ∀ i, i < 6 → M i < 6) : ∀ i, i < 6 → m_rot M n i < 6 := by
  unfold m_rot
  split
  · exact nSet_lt (m_sh_lt h 5 (by omega)) (h 0 (by omega))
  · exact h
theorem n_rot_lt {n : Nat} (h : n ≤ 6) : n_rot n < 6 := by
  unfold n_rot
  split <;> omega
def c_save (C : CT) : CT :=
  (cY C, vSet (cV C) (m_rot (cM C) (cQ C) (n_rot (cQ C))) (y_like (cV C (m_rot (cM C) (cQ C) (n_rot (cQ C)))) (cY C)), m_rot (cM C) (cQ C), n_rot (cQ C) + 1, cB C, cL C, cR C, cT C, cU C)
/-- the best of the first silos, 4 for none -/
def y_best (y : YT) : Nat → Nat
  | 0 => 4
  | k + 1 => if sN (yS y k) ≤ 0 then y_best y k else if y_best y k = 4 then k else if c_more (yS y k) (yS y (y_best y k)) = 0 then y_best y k else k
theorem y_best_lt {y : YT} : ∀ k, y_best y k = 4 ∨ y_best y k < k
  | 0 => Or.inl rfl
  | k + 1 => by
    have h := y_best_lt (y := y) k
    unfold y_best
    split
    · omega
    · split
      · omega
      · split <;> omega
def y_next (y : YT) : Nat → Int32
  | 0 => -1
  | k + 1 => if s_can (yS y k) = 0 then y_next y k else if y_next y k = -1 then c_until (yZ y) (sA (yS y k) 0) else if c_until (yZ y) (sA (yS y k) 0) < y_next y k then c_until (yZ y) (sA (yS y k) 0) else y_next y k
def y_soft (y : YT) : Nat → Int32
  | 0 => 0
  | k + 1 => y_soft y k + c_soft (yZ y) (yS y k) (sN (yS y k))
theorem c_noSilo_k {k : Nat} (h : k < 4) : c_noSilo (nI k) = 0 := by
  rcases (show k = 0 ∨ k = 1 ∨ k = 2 ∨ k = 3 by omega) with rfl | rfl | rfl | rfl <;> rfl
theorem c_noShip_j {j : Nat} (h : j < 6) : c_noShip (nI j) = 0 := by
  rcases (show j = 0 ∨ j = 1 ∨ j = 2 ∨ j = 3 ∨ j = 4 ∨ j = 5 by omega) with rfl | rfl | rfl | rfl | rfl | rfl <;> rfl
