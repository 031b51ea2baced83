/-! THE TEXT: the reader after k characters, the first that it refuses; a part played -/
def t_n (x : Int32) : Nat := x.toInt.toNat
def t_r0 (r : RT) : RT := (0, rS r, rH r, rK r, rN r)
def r_at (b : Nat → Int32) (r : RT) : Nat → RT
  | 0 => r
  | k + 1 => r_takeS (r_at b r k) (b k)
def t_err (b : Nat → Int32) (r : RT) : Nat → Nat
  | 0 => 0
  | n + 1 => if t_err b r n < n then t_err b r n else if r_takeR (r_at b r n) (b n) = 0 then n else n + 1
def t_end (b : Nat → Int32) (r : RT) (n : Nat) : RT := r_at b r (if t_err b r n < n then t_err b r n + 1 else n)
theorem t_err_le {b : Nat → Int32} {r : RT} : ∀ n, t_err b r n ≤ n
  | 0 => Nat.le_refl _
  | n + 1 => by
    have := t_err_le (b := b) (r := r) n
    unfold t_err
    split
    · omega
    · split <;> omega
theorem t_err_ok {b : Nat → Int32} {r : RT} {k : Nat} (he : t_err b r k = k) (hc : ¬ r_takeR (r_at b r k) (b k) = 0) : t_err b r (k + 1) = k + 1 := by
  unfold t_err; rw [if_neg (by omega), if_neg hc]
theorem t_err_stay {b : Nat → Int32} {r : RT} {k : Nat} (he : t_err b r k < k) : ∀ d, t_err b r (k + d) = t_err b r k
  | 0 => rfl
  | d + 1 => by
    have h := t_err_stay he d
    show (if t_err b r (k + d) < k + d then t_err b r (k + d) else if r_takeR (r_at b r (k + d)) (b (k + d)) = 0 then k + d else k + d + 1) = _
    rw [if_pos (by omega), h]
theorem t_err_bad {b : Nat → Int32} {r : RT} {k n : Nat} (he : t_err b r k = k) (hc : r_takeR (r_at b r k) (b k) = 0) (hk : k < n) : t_err b r n = k := by
  have h1 : t_err b r (k + 1) = k := by unfold t_err; rw [if_neg (by omega), if_pos hc]
  have h2 := t_err_stay (b := b) (r := r) (k := k + 1) (by omega) (n - (k + 1))
  rw [show k + 1 + (n - (k + 1)) = n by omega] at h2
  rw [h2, h1]
theorem t_end_bad {b : Nat → Int32} {r : RT} {k n : Nat} (he : t_err b r k = k) (hc : r_takeR (r_at b r k) (b k) = 0) (hk : k < n) : t_end b r n = r_takeS (r_at b r k) (b k) := by
  unfold t_end; rw [t_err_bad he hc hk, if_pos hk]; rfl
theorem t_end_all {b : Nat → Int32} {r : RT} {k n : Nat} (he : t_err b r k = k) (h1 : k ≤ n) (h2 : n ≤ k) : t_end b r n = r_at b r k := by
  have : k = n := by omega
  subst this
  unfold t_end; rw [he, if_neg (by omega)]
def t_partR (r : RT) (y : YT) : Int32 := if rK r = 43 then 0 else if rK r = 60 then c_brR (yS y (t_n (rS r))) (yH y (t_n (rH r))) (rN r) else y_letR y (t_n (rS r)) (t_n (rH r)) (t_n (rN r))
def y_br (y : YT) (k j : Nat) (t : Int32) : YT := ySetH (ySetS y k (s_fill (yS y k) (c_brR (yS y k) (yH y j) t))) j (hT (yH y j) - c_brR (yS y k) (yH y j) t, hH (yH y j))
def t_part (r : RT) (y : YT) : YT := if rK r = 43 then y_pass y (t_n (rN r)) else if rK r = 60 then y_br y (t_n (rS r)) (t_n (rH r)) (rN r) else y_let y (t_n (rS r)) (t_n (rH r)) (t_n (rN r))
theorem s_fill_N {v : ST} {a : Int32} (h : sN v ≤ 10) : sN (s_fill v a) ≤ 10 := by
  unfold s_fill
  split
  · exact h
  · split
    · exact h
    · show sN v + 1 ≤ 10
      omega
theorem wfY_H {y : YT} {j : Nat} {h : HT} (hy : wfY y) : wfY (ySetH y j h) := hy
theorem wfY_let {y : YT} {k j q : Nat} (hy : wfY y) (hk : k < 4) : wfY (y_let y k j q) := by
  have h1 : wfY (y_let1 y k j q) := wfY_H (wfY_set hy (c_po_N (hy k hk) q))
  exact h1
theorem wfY_pass {y : YT} {d : Nat} (hy : wfY y) : wfY (y_pass y d) := by
  have h1 := wfY_P hy d
  exact h1
def rOK (r : RT) : Prop := rN r = nI (t_n (rN r)) ∧ t_n (rN r) < 1000 ∧ (¬ rK r = 43 → rS r = nI (t_n (rS r)) ∧ t_n (rS r) < 4) ∧ (¬ rK r = 43 → rH r = nI (t_n (rH r)) ∧ t_n (rH r) < 6)
theorem wfY_part {r : RT} {y : YT} (hy : wfY y) (h : rOK r) : wfY (t_part r y) := by
  unfold t_part
  split
  · exact wfY_pass hy
  · rename_i h1
    have hk := (h.2.2.1 h1).2
    split
    · exact wfY_H (wfY_set hy (s_fill_N (hy _ hk)))
    · exact wfY_let hy hk
def t_pY (b : Nat → Int32) (r : RT) (y : YT) : Nat → YT
  | 0 => y
  | k + 1 => if b k = 59 then t_part (r_at b r k) (t_pY b r y k) else t_pY b r y k
def t_pR (b : Nat → Int32) (r : RT) (y : YT) : Nat → Int32
  | 0 => 0
  | k + 1 => if b k = 59 then t_pR b r y k + t_partR (r_at b r k) (t_pY b r y k) else t_pR b r y k
theorem t_pY_1 {b : Nat → Int32} {r : RT} {y : YT} {k : Nat} (h : b k = 59) : t_pY b r y (k + 1) = t_part (r_at b r k) (t_pY b r y k) := if_pos h
theorem t_pY_0 {b : Nat → Int32} {r : RT} {y : YT} {k : Nat} (h : ¬ b k = 59) : t_pY b r y (k + 1) = t_pY b r y k := if_neg h
theorem t_pR_1 {b : Nat → Int32} {r : RT} {y : YT} {k : Nat} (h : b k = 59) : t_pR b r y (k + 1) = t_pR b r y k + t_partR (r_at b r k) (t_pY b r y k) := if_pos h
theorem t_pR_0 {b : Nat → Int32} {r : RT} {y : YT} {k : Nat} (h : ¬ b k = 59) : t_pR b r y (k + 1) = t_pR b r y k := if_neg h
theorem wfY_pY {b : Nat → Int32} {r : RT} {y : YT} {n : Nat} (hy : wfY y) (h : ∀ k, k < n → b k = 59 → rOK (r_at b r k)) : ∀ k, k ≤ n → wfY (t_pY b r y k)
  | 0, _ => hy
  | k + 1, hk => by
    by_cases h9 : b k = 59
    · rw [t_pY_1 h9]; exact wfY_part (wfY_pY hy h k (by omega)) (h k (by omega) h9)
    · rw [t_pY_0 h9]; exact wfY_pY hy h k (by omega)
def c_read (C : CT) : CT := (cY C, cV C, cM C, cQ C, cB C, cL C, t_end (cB C) (t_r0 (cR C)) (cL C), cT C, cU C)
def c_playR (C : CT) : Int32 := t_pR (cB C) (t_r0 (cR C)) (cY C) (cL C) + t_partR (r_at (cB C) (t_r0 (cR C)) (cL C)) (t_pY (cB C) (t_r0 (cR C)) (cY C) (cL C))
def c_play (C : CT) : CT := (t_part (r_at (cB C) (t_r0 (cR C)) (cL C)) (t_pY (cB C) (t_r0 (cR C)) (cY C) (cL C)), cV C, cM C, cQ C, cB C, 0, r_at (cB C) (t_r0 (cR C)) (cL C), cT C, cU C)
