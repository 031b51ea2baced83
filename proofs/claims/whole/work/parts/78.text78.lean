/-! THE TEXT on both sides: a part of it -/
theorem q_wl_z {g x y : Int32} : q_wl 0 g x y = 0 := by unfold q_wl; rw [if_pos rfl]
theorem q_at_z {g x y : Int32} {a : Nat} : q_at 0 g x y a = a := by unfold q_at; rw [if_pos rfl]; rfl
theorem q_lg_z {g : Int32} : q_lg 0 g = 0 := by unfold q_lg; rw [if_pos rfl]
theorem q_num_z {b : Nat → Int32} {n a : Nat} {mo v : Int32} : q_num b n mo 0 a v = (a, v) := by unfold q_num; rw [if_pos rfl]
theorem q_wl_t {g x y : Int32} (h : ¬ g_in g x y = 0) : q_wl 1 g x y = 1 := by unfold q_wl; rw [if_neg (by decide), if_neg h]
theorem q_wl_f {w g x y : Int32} (h : g_in g x y = 0) : q_wl w g x y = 0 := by unfold q_wl; rw [if_pos h]; split <;> rfl
theorem g_in_I {v x y : Int32} : g_in v x y = 0 ↔ ¬ (x.toInt ≤ v.toInt ∧ v.toInt ≤ y.toInt) := by
  unfold g_in
  split
  · rename_i h; rw [i_lt] at h; exact ⟨fun _ => by omega, fun _ => rfl⟩
  · rename_i h
    rw [i_lt] at h
    split
    · rename_i h2; rw [i_lt] at h2; exact ⟨fun _ => by omega, fun _ => rfl⟩
    · rename_i h2; rw [i_lt] at h2; exact ⟨fun e => absurd e (by decide), fun e => absurd ⟨by omega, by omega⟩ e⟩
theorem q_sign_in {b : Nat → Int32} {a n : Nat} {x y : Int32} (hx : 0 < x.toInt) (h : ¬ g_in (q_sign b a n) x y = 0) : a < n ∧ q_sign b a n = b a := by
  rcases Nat.lt_or_ge a n with h9 | h9
  · exact ⟨h9, by unfold q_sign; rw [if_pos h9]⟩
  · exfalso
    apply h
    rw [g_in_I]
    unfold q_sign
    rw [if_neg (by omega), i_0]
    omega
/-- the codes of the buffer -/
def bufOK (b : Nat → Int32) (n : Nat) : Prop := ∀ k, k < n → iB 33 126 (b k)
theorem c48 {a : Int32} (h : iB 33 126 a) : (a - 48).toInt = a.toInt - 48 := by
  unfold iB at h
  have e : (48 : Int32).toInt = 48 := by decide
  rw [i_sub (by omega) (by omega), e]
theorem noSilo_I {v : Int32} : c_noSilo v = 0 ↔ 0 ≤ v.toInt ∧ v.toInt < 4 := by
  unfold c_noSilo
  split
  · rename_i h; rw [i_lt, i_0] at h; exact ⟨fun e => absurd e (by decide), fun e => by omega⟩
  · rename_i h
    rw [i_lt, i_0] at h
    split
    · rename_i h2; rw [i_lt, i_4] at h2; exact ⟨fun _ => by omega, fun _ => rfl⟩
    · rename_i h2; rw [i_lt, i_4] at h2; exact ⟨fun e => absurd e (by decide), fun e => by omega⟩
theorem noShip_I {v : Int32} : c_noShip v = 0 ↔ 0 ≤ v.toInt ∧ v.toInt < 6 := by
  have i6 : (6 : Int32).toInt = 6 := by decide
  unfold c_noShip
  split
  · rename_i h; rw [i_lt, i_0] at h; exact ⟨fun e => absurd e (by decide), fun e => by omega⟩
  · rename_i h
    rw [i_lt, i_0] at h
    split
    · rename_i h2; rw [i_lt, i6] at h2; exact ⟨fun _ => by omega, fun _ => rfl⟩
    · rename_i h2; rw [i_lt, i6] at h2; exact ⟨fun e => absurd e (by decide), fun e => by omega⟩
section TXT
variable {b : Nat → Int32} {n : Nat} {r : RT}
/-- the characters from a on up to c are taken, and none of them ends a part -/
def Acc (b : Nat → Int32) (r : RT) (a c : Nat) : Prop := ∀ k, a ≤ k → k < c → ¬ r_takeR (r_at b r k) (b k) = 0 ∧ ¬ b k = 59
/-- here it ends, and it is no whole text -/
def Bad (b : Nat → Int32) (n : Nat) (r : RT) (a : Nat) : Prop := a ≤ n ∧ (a < n → r_takeR (r_at b r a) (b a) = 0) ∧ (a = n → ¬ rP (r_at b r a) = 5)
theorem Acc.refl {a : Nat} : Acc b r a a := fun k h1 h2 => absurd h2 (by omega)
theorem Acc.step {a c : Nat} (h : Acc b r a c) (h1 : ¬ r_takeR (r_at b r c) (b c) = 0) (h2 : ¬ b c = 59) : Acc b r a (c + 1) := fun k q1 q2 => by
  by_cases e : k = c
  · subst e; exact ⟨h1, h2⟩
  · exact h k q1 (by omega)
theorem Acc.trans {a c d : Nat} (h : Acc b r a c) (h2 : Acc b r c d) : Acc b r a d := fun k q1 q2 => by
  rcases Nat.lt_or_ge k c with e | e
  · exact h k q1 e
  · exact h2 k e q2
theorem Acc.err {a : Nat} (ha : t_err b r a = a) : ∀ c, Acc b r a (a + c) → t_err b r (a + c) = a + c
  | 0, _ => ha
  | c + 1, h => t_err_ok (Acc.err ha c (fun k q1 q2 => h k q1 (by omega))) (h (a + c) (by omega) (by omega)).1
/-- digits, once the first stands -/
theorem nm_ok {S H K : Int32} (hb : bufOK b n) : ∀ (f c : Nat) (v : Int32), c ≤ n → f = n - c → r_at b r c = (5, S, H, K, v) → iB 1 500 v → 1 ≤ (r_most (5, S, H, K, v)).toInt → (r_most (5, S, H, K, v)).toInt ≤ 500 →
    Acc b r c (q_nm b n (r_most (5, S, H, K, v)) f c v).1 ∧ (q_nm b n (r_most (5, S, H, K, v)) f c v).1 ≤ n ∧ c ≤ (q_nm b n (r_most (5, S, H, K, v)) f c v).1 ∧ r_at b r (q_nm b n (r_most (5, S, H, K, v)) f c v).1 = (5, S, H, K, (q_nm b n (r_most (5, S, H, K, v)) f c v).2)
      ∧ ((q_nm b n (r_most (5, S, H, K, v)) f c v).1 < n → r_ndR (r_at b r (q_nm b n (r_most (5, S, H, K, v)) f c v).1) (b (q_nm b n (r_most (5, S, H, K, v)) f c v).1 - 48) = 0)
      ∧ (v.toInt ≤ (r_most (5, S, H, K, v)).toInt → iB 1 (r_most (5, S, H, K, v)).toInt (q_nm b n (r_most (5, S, H, K, v)) f c v).2)
  | 0, c, v, h1, h2, h3, h4, h5, h6 => ⟨Acc.refl, h1, Nat.le_refl c, h3, fun h => by have : c < n := h; omega, fun h => ⟨h4.1, h⟩⟩
  | f + 1, c, v, h1, h2, h3, h4, h5, h6 => by
    have hc : c < n := by omega
    have hs : q_sign b c n = b c := by unfold q_sign; rw [if_pos hc]
    have hbc := hb c hc
    have e48 := c48 hbc
    have i9 : (9 : Int32).toInt = 9 := by decide
    have i48 : (48 : Int32).toInt = 48 := by decide
    have i57 : (57 : Int32).toInt = 57 := by decide
    unfold iB at h4 hbc
    have ering : 10 * v + b c - 48 = 10 * v + (b c - 48) := by grind
    have e10 : (10 * v).toInt = 10 * v.toInt := by rw [i_mul (by rw [i_10]; omega) (by rw [i_10]; omega), i_10]
    have eN : (10 * v + (b c - 48)).toInt = 10 * v.toInt + ((b c).toInt - 48) := by rw [i_add (by omega) (by omega), e10, e48]
    unfold q_nm
    rw [hs, ering]
    by_cases c1 : g_in (b c) 48 57 = 0
    · rw [if_pos c1]
      rw [g_in_I, i48, i57] at c1
      refine ⟨Acc.refl, h1, Nat.le_refl c, h3, fun _ => ?_, fun h => ⟨h4.1, h⟩⟩
      show r_ndR (r_at b r c) (b c - 48) = 0
      unfold r_ndR
      by_cases q : b c - 48 < 0
      · rw [if_pos q]
      · rw [if_neg q, if_pos]
        rw [i_lt, e48, i_0] at q
        rw [i_lt, e48, i9]
        omega
    · rw [if_neg c1]
      rw [g_in_I, i48, i57] at c1
      have n1 : ¬ b c - 48 < 0 := by rw [i_lt, e48, i_0]; omega
      have n2 : ¬ (9 : Int32) < b c - 48 := by rw [i_lt, e48, i9]; omega
      have hmost : r_most (r_at b r c) = r_most (5, S, H, K, v) := by rw [h3]
      by_cases c2 : r_most (5, S, H, K, v) < 10 * v + (b c - 48)
      · rw [if_pos c2]
        refine ⟨Acc.refl, h1, Nat.le_refl c, h3, fun _ => ?_, fun h => ⟨h4.1, h⟩⟩
        show r_ndR (r_at b r c) (b c - 48) = 0
        unfold r_ndR
        rw [if_neg n1, if_neg n2, if_neg]
        rw [h3]
        show ¬ 10 * v + (b c - 48) ≤ r_most (5, S, H, K, v)
        rw [i_lt] at c2
        rw [i_le]
        omega
      · rw [if_neg c2]
        rw [i_lt, eN] at c2
        have n3 : 10 * v + (b c - 48) ≤ r_most (5, S, H, K, v) := by rw [i_le, eN]; omega
        have tk : r_takeR (r_at b r c) (b c) = 1 := by
          unfold r_takeR
          rw [h3, if_neg (show ¬ (5 : Int32) = 0 by decide), if_neg (show ¬ (5 : Int32) = 1 by decide), if_neg (show ¬ (5 : Int32) = 2 by decide), if_neg (show ¬ (5 : Int32) = 3 by decide), if_neg (show ¬ (5 : Int32) = 4 by decide)]
          split
          · rfl
          · unfold r_ndR
            rw [if_neg n1, if_neg n2]
            exact if_pos n3
        have n59 : ¬ b c = 59 := by
          intro e
          have i59 : (59 : Int32).toInt = 59 := by decide
          rw [e, i59] at c1
          omega
        have st : r_at b r (c + 1) = (5, S, H, K, 10 * v + (b c - 48)) := by
          show r_takeS (r_at b r c) (b c) = _
          unfold r_takeS
          rw [h3, if_neg (show ¬ (5 : Int32) = 0 by decide), if_neg (show ¬ (5 : Int32) = 1 by decide), if_neg (show ¬ (5 : Int32) = 2 by decide), if_neg (show ¬ (5 : Int32) = 3 by decide), if_neg (show ¬ (5 : Int32) = 4 by decide), if_neg n59]
          unfold r_ndS
          rw [if_neg n1, if_neg n2]
          exact if_pos n3
        have em : r_most (5, S, H, K, 10 * v + (b c - 48)) = r_most (5, S, H, K, v) := rfl
        have ih := nm_ok hb f (c + 1) (10 * v + (b c - 48)) (by omega) (by omega) st ⟨by rw [eN]; omega, by rw [eN]; omega⟩ (by rw [em]; exact h5) (by rw [em]; exact h6)
        rw [em] at ih
        obtain ⟨j1, j2, j3, j4, j5, j6⟩ := ih
        refine ⟨(Acc.step Acc.refl (by rw [tk]; decide) n59).trans j1, j2, by omega, j4, j5, fun _ => j6 (by rw [eN]; omega)⟩
theorem r_most_B (x : RT) : 1 ≤ (r_most x).toInt ∧ (r_most x).toInt ≤ 500 ∧ 9 ≤ (r_most x).toInt := by
  unfold r_most
  split
  · decide
  · split <;> decide
/-- a number at the place c -/
theorem num_ok {S H K V : Int32} (hb : bufOK b n) {c : Nat} (hc : c ≤ n) (h : r_at b r c = (4, S, H, K, V)) :
    (q_wl 1 (q_sign b c n) 49 57 = 0 → Bad b n r c ∧ q_num b n (r_most (4, S, H, K, V)) (q_wl 1 (q_sign b c n) 49 57) (q_at 1 (q_sign b c n) 49 57 c) (q_sign b c n - 48) = (c, q_sign b c n - 48)) ∧
    (¬ q_wl 1 (q_sign b c n) 49 57 = 0 → ∃ (a : Nat) (v : Int32), q_num b n (r_most (4, S, H, K, V)) (q_wl 1 (q_sign b c n) 49 57) (q_at 1 (q_sign b c n) 49 57 c) (q_sign b c n - 48) = (a, v) ∧ c < a ∧ a ≤ n ∧ Acc b r c a ∧ r_at b r a = (5, S, H, K, v) ∧ (a < n → r_ndR (r_at b r a) (b a - 48) = 0) ∧ iB 1 (r_most (4, S, H, K, V)).toInt v) := by
  have i9 : (9 : Int32).toInt = 9 := by decide
  have i49 : (49 : Int32).toInt = 49 := by decide
  have i57 : (57 : Int32).toInt = 57 := by decide
  have tR : r_takeR (r_at b r c) (b c) = r_fdR (b c - 48) := by
    unfold r_takeR
    rw [h, if_neg (show ¬ (4 : Int32) = 0 by decide), if_neg (show ¬ (4 : Int32) = 1 by decide), if_neg (show ¬ (4 : Int32) = 2 by decide), if_neg (show ¬ (4 : Int32) = 3 by decide)]
    exact if_pos rfl
  refine ⟨fun h0 => ⟨⟨hc, fun hlt => ?_, fun _ => by rw [h]; show ¬ (4 : Int32) = 5; decide⟩, ?_⟩, fun h0 => ?_⟩
  · have hs : q_sign b c n = b c := by unfold q_sign; rw [if_pos hlt]
    have hbc := hb c hlt
    have e48 := c48 hbc
    have hin : g_in (b c) 49 57 = 0 := by
      rcases Decidable.em (g_in (b c) 49 57 = 0) with q | q
      · exact q
      · rw [hs, q_wl_t q] at h0; exact absurd h0 (by decide)
    rw [g_in_I, i49, i57] at hin
    rw [tR]
    unfold r_fdR
    split
    · rfl
    · rename_i q
      rw [i_lt, e48, i_1] at q
      rw [if_neg]
      rw [i_le, e48, i9]
      omega
  · rw [h0, q_at_0 h0]
    exact q_num_z
  · have hin := q_wl_in h0
    obtain ⟨hlt, hs⟩ := q_sign_in (by decide) hin
    have e1 := q_wl_1 h0
    have e2 := q_at_1 (a := c) h0
    rw [hs] at hin
    have hbc := hb c hlt
    have e48 := c48 hbc
    rw [g_in_I, i49, i57] at hin
    have n1 : ¬ b c - 48 < 1 := by rw [i_lt, e48, i_1]; omega
    have n2 : b c - 48 ≤ 9 := by rw [i_le, e48, i9]; omega
    have st : r_at b r (c + 1) = (5, S, H, K, b c - 48) := by
      show r_takeS (r_at b r c) (b c) = _
      unfold r_takeS
      rw [h, if_neg (show ¬ (4 : Int32) = 0 by decide), if_neg (show ¬ (4 : Int32) = 1 by decide), if_neg (show ¬ (4 : Int32) = 2 by decide), if_neg (show ¬ (4 : Int32) = 3 by decide), if_pos (show (4 : Int32) = 4 from rfl)]
      unfold r_fdS
      rw [if_neg n1, if_pos n2]
      unfold r_move
      rw [if_neg (by decide)]
    have tk : ¬ r_takeR (r_at b r c) (b c) = 0 := by
      rw [tR]
      unfold r_fdR
      rw [if_neg n1, if_pos n2]
      decide
    have n59 : ¬ b c = 59 := by
      intro e
      have i59 : (59 : Int32).toInt = 59 := by decide
      rw [e, i59] at hin
      omega
    have em : r_most (5, S, H, K, b c - 48) = r_most (4, S, H, K, V) := rfl
    have hB := r_most_B (4, S, H, K, V)
    have hv : iB 1 500 (b c - 48) := by unfold iB; rw [e48]; omega
    obtain ⟨j1, j2, j3, j4, j5, j6⟩ := nm_ok (r := r) hb (n - (c + 1)) (c + 1) (b c - 48) (by omega) rfl st hv (by rw [em]; exact hB.1) (by rw [em]; exact hB.2.1)
    rw [em] at j1 j2 j3 j4 j5 j6
    have eq : q_num b n (r_most (4, S, H, K, V)) (q_wl 1 (q_sign b c n) 49 57) (q_at 1 (q_sign b c n) 49 57 c) (q_sign b c n - 48) = q_nm b n (r_most (4, S, H, K, V)) (n - (c + 1)) (c + 1) (b c - 48) := by
      rw [e1, e2, hs]
      unfold q_num
      rw [if_neg (by decide)]
    refine ⟨_, _, eq, by omega, j2, (Acc.step Acc.refl tk n59).trans j1, j4, j5, j6 (by rw [e48]; omega)⟩
end TXT
