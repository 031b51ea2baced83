/-! THE REFERENCE'S READER -/
def q_sign (b : Nat → Int32) (a n : Nat) : Int32 := if a < n then b a else 0
def q_wl (w : Int32) (g x y : Int32) : Int32 := if w = 0 then 0 else if g_in g x y = 0 then 0 else 1
def q_at (w : Int32) (g x y : Int32) (a : Nat) : Nat := if w = 0 then a + 0 else if g_in g x y = 0 then a + 0 else a + 1
def q_nm (b : Nat → Int32) (n : Nat) (mo : Int32) : Nat → Nat → Int32 → Nat × Int32
  | 0, a, v => (a, v)
  | f + 1, a, v => if g_in (q_sign b a n) 48 57 = 0 then (a, v) else if mo < 10 * v + q_sign b a n - 48 then (a, v) else q_nm b n mo f (a + 1) (10 * v + q_sign b a n - 48)
theorem q_in_lt {b : Nat → Int32} {a n : Nat} (h : ¬ g_in (q_sign b a n) 48 57 = 0) : a < n := by
  rcases Nat.lt_or_ge a n with h9 | h9
  · exact h9
  · exfalso; apply h; unfold q_sign; rw [if_neg (by omega)]; decide
theorem q_nm_in {b : Nat → Int32} {n a f : Nat} {mo v : Int32} (h : g_in (q_sign b a n) 48 57 = 0) : q_nm b n mo f a v = (a, v) := by
  cases f with
  | zero => rfl
  | succ f => exact if_pos h
theorem q_nm_mo {b : Nat → Int32} {n a f : Nat} {mo v : Int32} (h : mo < 10 * v + q_sign b a n - 48) : q_nm b n mo f a v = (a, v) := by
  cases f with
  | zero => rfl
  | succ f =>
    unfold q_nm
    split
    · rfl
    · first | rfl | rw [if_pos h]
theorem q_nm_go {b : Nat → Int32} {n a : Nat} {mo v : Int32} (h : ¬ g_in (q_sign b a n) 48 57 = 0) (h2 : ¬ mo < 10 * v + q_sign b a n - 48) : q_nm b n mo (n - a) a v = q_nm b n mo (n - (a + 1)) (a + 1) (10 * v + q_sign b a n - 48) := by
  have := q_in_lt h
  rw [show n - a = (n - (a + 1)) + 1 by omega]
  show (if g_in (q_sign b a n) 48 57 = 0 then (a, v) else if mo < 10 * v + q_sign b a n - 48 then (a, v) else q_nm b n mo (n - (a + 1)) (a + 1) (10 * v + q_sign b a n - 48)) = _
  rw [if_neg h, if_neg h2]
def q_num (b : Nat → Int32) (n : Nat) (mo w : Int32) (a : Nat) (v : Int32) : Nat × Int32 := if w = 0 then (a, v) else q_nm b n mo (n - a) a v
theorem q_at_le {b : Nat → Int32} {w x y : Int32} {a n : Nat} (hx : (0 : Int32) < x) (hn : n ≤ 60) (h : a ≤ 60) : q_at w (q_sign b a n) x y a ≤ 60 := by
  unfold q_at
  split
  · omega
  · split
    · omega
    · rename_i h2
      rcases Nat.lt_or_ge a n with h9 | h9
      · omega
      · exfalso
        apply h2
        unfold q_sign
        rw [if_neg (by omega)]
        exact g_in_0 (Or.inl hx)
def q_lg (w g : Int32) : Int32 := if w = 0 then 0 else if g = 60 then 1 else if g = 62 then 1 else 0
def q_mo (g : Int32) : Int32 := if g = 60 then 500 else 24
theorem q_nm_le {b : Nat → Int32} {n : Nat} {mo : Int32} (hn : n ≤ 60) : ∀ (f a : Nat) (v : Int32), a ≤ 60 → (q_nm b n mo f a v).1 ≤ 60
  | 0, a, v, h => h
  | f + 1, a, v, h => by
    unfold q_nm
    split
    · exact h
    · rename_i h1
      have := q_in_lt h1
      split
      · exact h
      · exact q_nm_le hn f (a + 1) _ (by omega)
theorem q_nm_ge {b : Nat → Int32} {n : Nat} {mo : Int32} : ∀ (f a : Nat) (v : Int32), a ≤ (q_nm b n mo f a v).1
  | 0, a, v => Nat.le_refl a
  | f + 1, a, v => by
    unfold q_nm
    split
    · exact Nat.le_refl a
    · split
      · exact Nat.le_refl a
      · exact Nat.le_trans (Nat.le_succ a) (q_nm_ge f (a + 1) _)
theorem q_num_le {b : Nat → Int32} {n a : Nat} {mo w v : Int32} (hn : n ≤ 60) (h : a ≤ 60) : (q_num b n mo w a v).1 ≤ 60 := by
  unfold q_num
  split
  · exact h
  · exact q_nm_le hn _ _ _ h
theorem q_num_ge {b : Nat → Int32} {n a : Nat} {mo w v : Int32} : a ≤ (q_num b n mo w a v).1 := by
  unfold q_num
  split
  · exact Nat.le_refl a
  · exact q_nm_ge _ _ _
/-- a part read: '+' -/
def q_p1w (b : Nat → Int32) (n a : Nat) : Int32 := q_wl 1 (q_sign b a n) 43 43
def q_p1a (b : Nat → Int32) (n a : Nat) : Nat := q_at 1 (q_sign b a n) 43 43 a
def q_p2w (b : Nat → Int32) (n a : Nat) : Int32 := q_wl (q_p1w b n a) (q_sign b (q_p1a b n a) n) 49 57
def q_p2a (b : Nat → Int32) (n a : Nat) : Nat := q_at (q_p1w b n a) (q_sign b (q_p1a b n a) n) 49 57 (q_p1a b n a)
def q_p3 (b : Nat → Int32) (n a : Nat) : Nat × Int32 := q_num b n 30 (q_p2w b n a) (q_p2a b n a) (q_sign b (q_p1a b n a) n - 48)
def q_pr (b : Nat → Int32) (n a q : Nat) (r : Nat → Int32) : Nat → Int32 := upd (upd (upd (upd r (4 * q) (q_sign b a n)) (4 * q + 1) (q_p3 b n a).2) (4 * q + 2) 0) (4 * q + 3) 0
/-- a part read: a load -/
def q_e1w (b : Nat → Int32) (n a : Nat) : Int32 := q_wl 1 (q_sign b a n) 48 51
def q_e1a (b : Nat → Int32) (n a : Nat) : Nat := q_at 1 (q_sign b a n) 48 51 a
def q_e2w (b : Nat → Int32) (n a : Nat) : Int32 := q_lg (q_e1w b n a) (q_sign b (q_e1a b n a) n)
def q_e3w (b : Nat → Int32) (n a : Nat) : Int32 := q_wl (q_e2w b n a) (q_sign b (q_e1a b n a) n) 60 62
def q_e3a (b : Nat → Int32) (n a : Nat) : Nat := q_at (q_e2w b n a) (q_sign b (q_e1a b n a) n) 60 62 (q_e1a b n a)
def q_e4w (b : Nat → Int32) (n a : Nat) : Int32 := q_wl (q_e3w b n a) (q_sign b (q_e3a b n a) n) 48 53
def q_e4a (b : Nat → Int32) (n a : Nat) : Nat := q_at (q_e3w b n a) (q_sign b (q_e3a b n a) n) 48 53 (q_e3a b n a)
def q_e5w (b : Nat → Int32) (n a : Nat) : Int32 := q_wl (q_e4w b n a) (q_sign b (q_e4a b n a) n) 58 58
def q_e5a (b : Nat → Int32) (n a : Nat) : Nat := q_at (q_e4w b n a) (q_sign b (q_e4a b n a) n) 58 58 (q_e4a b n a)
def q_er (b : Nat → Int32) (n a q : Nat) (r : Nat → Int32) : Nat → Int32 := upd (upd (upd r (4 * q + 1) (q_sign b a n - 48)) (4 * q) (q_sign b (q_e1a b n a) n)) (4 * q + 2) (q_sign b (q_e3a b n a) n - 48)
def q_e6w (b : Nat → Int32) (n a : Nat) : Int32 := q_wl (q_e5w b n a) (q_sign b (q_e5a b n a) n) 49 57
def q_e6a (b : Nat → Int32) (n a : Nat) : Nat := q_at (q_e5w b n a) (q_sign b (q_e5a b n a) n) 49 57 (q_e5a b n a)
def q_e7 (b : Nat → Int32) (n a q : Nat) (r : Nat → Int32) : Nat × Int32 := q_num b n (q_mo (q_er b n a q r (4 * q))) (q_e6w b n a) (q_e6a b n a) (q_sign b (q_e5a b n a) n - 48)
/-- a part read: well or not, where, its row, how many -/
def q_W (b : Nat → Int32) (n a : Nat) : Int32 := if q_sign b a n = 43 then q_p2w b n a else q_e6w b n a
def q_A (b : Nat → Int32) (n a q : Nat) (r : Nat → Int32) : Nat := if q_sign b a n = 43 then (q_p3 b n a).1 else (q_e7 b n a q r).1
def q_R (b : Nat → Int32) (n a q : Nat) (r : Nat → Int32) : Nat → Int32 := if q_sign b a n = 43 then q_pr b n a q r else upd (q_er b n a q r) (4 * q + 3) (q_e7 b n a q r).2
def q_Q (b : Nat → Int32) (n a q : Nat) : Nat := if q_W b n a = 0 then q + 0 else q + 1
theorem q_p1a_le {b : Nat → Int32} {n a : Nat} (hn : n ≤ 60) (h : a ≤ 60) : q_p1a b n a ≤ 60 := q_at_le (by decide) hn h
theorem q_e1a_le {b : Nat → Int32} {n a : Nat} (hn : n ≤ 60) (h : a ≤ 60) : q_e1a b n a ≤ 60 := q_at_le (by decide) hn h
theorem q_e3a_le {b : Nat → Int32} {n a : Nat} (hn : n ≤ 60) (h : a ≤ 60) : q_e3a b n a ≤ 60 := q_at_le (by decide) hn (q_e1a_le hn h)
theorem q_e4a_le {b : Nat → Int32} {n a : Nat} (hn : n ≤ 60) (h : a ≤ 60) : q_e4a b n a ≤ 60 := q_at_le (by decide) hn (q_e3a_le hn h)
theorem q_e5a_le {b : Nat → Int32} {n a : Nat} (hn : n ≤ 60) (h : a ≤ 60) : q_e5a b n a ≤ 60 := q_at_le (by decide) hn (q_e4a_le hn h)
theorem q_lg_nar {w g : Int32} : narrow .boolean (.int (q_lg w g)) = .int (q_lg w g) := by
  unfold q_lg
  split
  · rfl
  · split
    · rfl
    · split <;> rfl
theorem q_lg_fit {w g : Int32} : fits .boolean (.int (q_lg w g)) = true := by
  unfold q_lg
  split
  · rfl
  · split
    · rfl
    · split <;> rfl
