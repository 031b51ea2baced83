/-! A PART OF THE TEXT on both sides -/
def PM (x : RT) (w : Nat → Int32) (i : Nat) : Prop :=
  w i = rK x ∧ ((rK x = 43 ∧ w (i + 1) = rN x ∧ iB 1 30 (rN x)) ∨ ((rK x = 60 ∧ iB 1 500 (rN x) ∨ rK x = 62 ∧ iB 1 24 (rN x)) ∧ w (i + 1) = rS x ∧ w (i + 2) = rH x ∧ w (i + 3) = rN x ∧ iB 0 3 (rS x) ∧ iB 0 5 (rH x)))
theorem q_R_low {b : Nat → Int32} {n a q i : Nat} {w : Nat → Int32} (h : i < 4 * q) : q_R b n a q w i = w i := by
  unfold q_R
  split
  · unfold q_pr
    rw [pk_un (by omega), pk_un (by omega), pk_un (by omega), pk_un (by omega)]
  · rw [pk_un (by omega)]
    unfold q_er
    rw [pk_un (by omega), pk_un (by omega), pk_un (by omega)]
/-! the places behind a failure are its own -/
section QD
variable {b : Nat → Int32} {n a q : Nat} {w : Nat → Int32}
theorem q_z6 (e : q_e6w b n a = 0) : q_e7 b n a q w = (q_e6a b n a, q_sign b (q_e5a b n a) n - 48) := by unfold q_e7; rw [e]; exact q_num_z
theorem q_f5 (e : q_e5w b n a = 0) : q_e6w b n a = 0 ∧ q_e6a b n a = q_e5a b n a := ⟨by unfold q_e6w; rw [e]; exact q_wl_z, by unfold q_e6a; rw [e]; exact q_at_z⟩
theorem q_f4 (e : q_e4w b n a = 0) : q_e5w b n a = 0 ∧ q_e5a b n a = q_e4a b n a := ⟨by unfold q_e5w; rw [e]; exact q_wl_z, by unfold q_e5a; rw [e]; exact q_at_z⟩
theorem q_f3 (e : q_e3w b n a = 0) : q_e4w b n a = 0 ∧ q_e4a b n a = q_e3a b n a := ⟨by unfold q_e4w; rw [e]; exact q_wl_z, by unfold q_e4a; rw [e]; exact q_at_z⟩
theorem q_f2 (e : q_e2w b n a = 0) : q_e3w b n a = 0 ∧ q_e3a b n a = q_e1a b n a := ⟨by unfold q_e3w; rw [e]; exact q_wl_z, by unfold q_e3a; rw [e]; exact q_at_z⟩
theorem q_f1 (e : q_e1w b n a = 0) : q_e2w b n a = 0 := by unfold q_e2w; rw [e]; exact q_lg_z
theorem q_d5 (e : q_e5w b n a = 0) : q_e6w b n a = 0 ∧ (q_e7 b n a q w).1 = q_e5a b n a := by
  have h1 := q_f5 e
  refine ⟨h1.1, ?_⟩
  have h2 := q_z6 (q := q) (w := w) h1.1
  rw [h2, ← h1.2]
theorem q_d4 (e : q_e4w b n a = 0) : q_e6w b n a = 0 ∧ (q_e7 b n a q w).1 = q_e4a b n a := by
  have h1 := q_f4 e
  have h2 := q_d5 (q := q) (w := w) h1.1
  exact ⟨h2.1, by rw [h2.2, h1.2]⟩
theorem q_d3 (e : q_e3w b n a = 0) : q_e6w b n a = 0 ∧ (q_e7 b n a q w).1 = q_e3a b n a := by
  have h1 := q_f3 e
  have h2 := q_d4 (q := q) (w := w) h1.1
  exact ⟨h2.1, by rw [h2.2, h1.2]⟩
theorem q_d2 (e : q_e2w b n a = 0) : q_e6w b n a = 0 ∧ (q_e7 b n a q w).1 = q_e1a b n a := by
  have h1 := q_f2 e
  have h2 := q_d3 (q := q) (w := w) h1.1
  exact ⟨h2.1, by rw [h2.2, h1.2]⟩
end QD
section PRT
variable {b : Nat → Int32} {n : Nat} {r : RT}
theorem i43 : (43 : Int32).toInt = 43 := by decide
theorem i48 : (48 : Int32).toInt = 48 := by decide
theorem i51 : (51 : Int32).toInt = 51 := by decide
theorem i53 : (53 : Int32).toInt = 53 := by decide
theorem i58 : (58 : Int32).toInt = 58 := by decide
theorem i59 : (59 : Int32).toInt = 59 := by decide
theorem i60 : (60 : Int32).toInt = 60 := by decide
theorem i62 : (62 : Int32).toInt = 62 := by decide
theorem i30 : (30 : Int32).toInt = 30 := by decide
theorem i24 : (24 : Int32).toInt = 24 := by decide
theorem q_sign_lt {a : Nat} (h : a < n) : q_sign b a n = b a := by unfold q_sign; rw [if_pos h]
theorem q_sign_end {a : Nat} (h : ¬ a < n) : q_sign b a n = 0 := by unfold q_sign; rw [if_neg h]
theorem g_in_z {x y : Int32} (hx : 0 < x.toInt) : g_in 0 x y = 0 := by rw [g_in_I, i_0]; omega
/-- '+' stands at the place a -/
theorem part_plus {S H K V : Int32} (hb : bufOK b n) {a q : Nat} {w : Nat → Int32} (h : r_at b r a = (0, S, H, K, V)) (hs : q_sign b a n = 43) :
    (q_W b n a = 0 → Bad b n r (q_A b n a q w) ∧ Acc b r a (q_A b n a q w)) ∧ (¬ q_W b n a = 0 → q_A b n a q w ≤ n ∧ Acc b r a (q_A b n a q w) ∧ rP (r_at b r (q_A b n a q w)) = 5 ∧ (q_A b n a q w < n → r_ndR (r_at b r (q_A b n a q w)) (b (q_A b n a q w) - 48) = 0) ∧ PM (r_at b r (q_A b n a q w)) (q_R b n a q w) (4 * q)) := by
  have hin : ¬ g_in (q_sign b a n) 43 43 = 0 := by rw [hs]; decide
  obtain ⟨hlt, hsb⟩ := q_sign_in (by decide) hin
  rw [hsb] at hs
  have e1 : q_p1w b n a = 1 := q_wl_t hin
  have e2 : q_p1a b n a = a + 1 := q_at_1 (w := 1) (by rw [q_wl_t hin]; decide)
  have st : r_at b r (a + 1) = (4, S, H, 43, V) := by
    show r_takeS (r_at b r a) (b a) = _
    unfold r_takeS
    rw [h, if_pos (show (0 : Int32) = 0 from rfl), hs]
    unfold r_psS
    rw [if_pos rfl]
    unfold r_move
    rw [if_neg (by decide)]
  have tk : ¬ r_takeR (r_at b r a) (b a) = 0 := by
    unfold r_takeR
    rw [h, if_pos (show (0 : Int32) = 0 from rfl), hs]
    decide
  have n59 : ¬ b a = 59 := by rw [hs]; decide
  have hA1 : Acc b r a (a + 1) := Acc.step Acc.refl tk n59
  obtain ⟨k1, k2⟩ := num_ok (r := r) hb (show a + 1 ≤ n by omega) st
  have em : r_most (4, S, H, 43, V) = 30 := rfl
  rw [em] at k1 k2
  have eW : q_W b n a = q_wl 1 (q_sign b (a + 1) n) 49 57 := by
    unfold q_W
    rw [if_pos (hsb.trans hs)]
    unfold q_p2w
    rw [e1, e2]
  have e3 : q_p3 b n a = q_num b n 30 (q_wl 1 (q_sign b (a + 1) n) 49 57) (q_at 1 (q_sign b (a + 1) n) 49 57 (a + 1)) (q_sign b (a + 1) n - 48) := by
    unfold q_p3 q_p2w q_p2a
    rw [e1, e2]
  have eA : q_A b n a q w = (q_p3 b n a).1 := by unfold q_A; rw [if_pos (hsb.trans hs)]
  have eR : q_R b n a q w = q_pr b n a q w := by unfold q_R; rw [if_pos (hsb.trans hs)]
  rw [eW, eA, eR]
  refine ⟨fun h0 => ?_, fun h0 => ?_⟩
  · obtain ⟨j1, j2⟩ := k1 h0
    rw [e3, j2]
    exact ⟨j1, hA1⟩
  · obtain ⟨c, v, j0, j1, j2, j3, j4, j5, j6⟩ := k2 h0
    have e9 : q_p3 b n a = (c, v) := by rw [e3]; exact j0
    rw [e9]
    refine ⟨j2, hA1.trans j3, by rw [j4], j5, ?_⟩
    rw [j4]
    refine ⟨?_, Or.inl ⟨rfl, ?_, ?_⟩⟩
    · unfold q_pr
      rw [pk_un (by omega), pk_un (by omega), pk_un (by omega), pk_us, hsb, hs]
    · unfold q_pr
      rw [pk_un (by omega), pk_un (by omega), pk_us, e9]
    · rw [i30] at j6; exact j6
set_option maxHeartbeats 4000000 in
/-- a load stands at the place a, or nothing that may -/
theorem part_load {S H K V : Int32} (hb : bufOK b n) {a q : Nat} {w : Nat → Int32} (ha : a ≤ n) (h : r_at b r a = (0, S, H, K, V)) (hs : ¬ q_sign b a n = 43) :
    (q_W b n a = 0 → Bad b n r (q_A b n a q w) ∧ Acc b r a (q_A b n a q w)) ∧ (¬ q_W b n a = 0 → q_A b n a q w ≤ n ∧ Acc b r a (q_A b n a q w) ∧ rP (r_at b r (q_A b n a q w)) = 5 ∧ (q_A b n a q w < n → r_ndR (r_at b r (q_A b n a q w)) (b (q_A b n a q w) - 48) = 0) ∧ PM (r_at b r (q_A b n a q w)) (q_R b n a q w) (4 * q)) := by
  have eW : q_W b n a = q_e6w b n a := by unfold q_W; rw [if_neg hs]
  have eA : q_A b n a q w = (q_e7 b n a q w).1 := by unfold q_A; rw [if_neg hs]
  have eR : q_R b n a q w = upd (q_er b n a q w) (4 * q + 3) (q_e7 b n a q w).2 := by unfold q_R; rw [if_neg hs]
  rw [eW, eA, eR]
  have f1 : q_e1w b n a = 0 → q_e2w b n a = 0 := q_f1
  have d5 : q_e5w b n a = 0 → q_e6w b n a = 0 ∧ (q_e7 b n a q w).1 = q_e5a b n a := q_d5
  have d4 : q_e4w b n a = 0 → q_e6w b n a = 0 ∧ (q_e7 b n a q w).1 = q_e4a b n a := q_d4
  have d2 : q_e2w b n a = 0 → q_e6w b n a = 0 ∧ (q_e7 b n a q w).1 = q_e1a b n a := q_d2
  -- the silo
  have tk0 : a < n → (r_takeR (r_at b r a) (b a) = 0 ↔ ¬ (48 ≤ (b a).toInt ∧ (b a).toInt ≤ 51)) := fun hlt => by
    have hbc := hb a hlt
    have e48 := c48 hbc
    have n43 : ¬ b a = 43 := fun e => hs ((q_sign_lt hlt).trans e)
    unfold r_takeR
    rw [h, if_pos (show (0 : Int32) = 0 from rfl)]
    unfold r_psR
    rw [if_neg n43]
    by_cases c : c_noSilo (b a - 48) = 0
    · rw [if_pos c]
      rw [noSilo_I, e48] at c
      exact ⟨fun e => absurd e (by decide), fun e => absurd ⟨by omega, by omega⟩ e⟩
    · rw [if_neg c]
      rw [noSilo_I, e48] at c
      exact ⟨fun _ => by omega, fun _ => rfl⟩
  by_cases g1 : g_in (q_sign b a n) 48 51 = 0
  · have e1 : q_e1w b n a = 0 := q_wl_f g1
    have ea : q_e1a b n a = a := q_at_0 e1
    have dd := d2 (f1 e1)
    rw [ea] at dd
    refine ⟨fun _ => ?_, fun c => absurd dd.1 c⟩
    rw [dd.2]
    refine ⟨⟨ha, fun hlt => ?_, fun _ => by rw [h]; show ¬ (0 : Int32) = 5; decide⟩, Acc.refl⟩
    rw [tk0 hlt]
    rw [q_sign_lt hlt, g_in_I, i48, i51] at g1
    exact g1
  · obtain ⟨hlt, hsb⟩ := q_sign_in (by decide) g1
    have e1 : q_e1w b n a = 1 := q_wl_t g1
    have ea : q_e1a b n a = a + 1 := q_at_1 (w := 1) (by rw [q_wl_t g1]; decide)
    rw [hsb, g_in_I, i48, i51] at g1
    have g1 : 48 ≤ (b a).toInt ∧ (b a).toInt ≤ 51 := by omega
    have n43 : ¬ b a = 43 := by rw [← hsb]; exact hs
    have eb48 := c48 (hb a hlt)
    have nS : c_noSilo (b a - 48) = 0 := by rw [noSilo_I, eb48]; omega
    have n59 : ¬ b a = 59 := by intro e; rw [e, i59] at g1; omega
    have tk : ¬ r_takeR (r_at b r a) (b a) = 0 := fun e => (tk0 hlt).mp e g1
    have st : r_at b r (a + 1) = (1, b a - 48, H, K, V) := by
      show r_takeS (r_at b r a) (b a) = _
      unfold r_takeS
      rw [h, if_pos (show (0 : Int32) = 0 from rfl)]
      unfold r_psS
      rw [if_neg n43, if_pos nS]
      unfold r_move
      rw [if_neg (by decide)]
    have hA1 : Acc b r a (a + 1) := Acc.step Acc.refl tk n59
    -- the sign
    have tk1 : a + 1 < n → r_takeR (r_at b r (a + 1)) (b (a + 1)) = r_sgR (b (a + 1)) := fun _ => by
      unfold r_takeR
      rw [st, if_neg (show ¬ (1 : Int32) = 0 by decide), if_pos (show (1 : Int32) = 1 from rfl)]
    by_cases g2 : q_sign b (a + 1) n = 60 ∨ q_sign b (a + 1) n = 62
    · have hlt1 : a + 1 < n := by
        rcases Nat.lt_or_ge (a + 1) n with q9 | q9
        · exact q9
        · rw [q_sign_end (by omega)] at g2; exact absurd g2 (by decide)
      rw [q_sign_lt hlt1] at g2
      have e2 : q_e2w b n a = 1 := by
        unfold q_e2w
        rw [e1, ea, q_sign_lt hlt1]
        rcases g2 with g2 | g2 <;> rw [g2] <;> rfl
      have gi : ¬ g_in (q_sign b (a + 1) n) 60 62 = 0 := by
        rw [q_sign_lt hlt1]
        rcases g2 with g2 | g2 <;> rw [g2] <;> decide
      have e3 : q_e3w b n a = 1 := by unfold q_e3w; rw [e2, ea]; exact q_wl_t gi
      have ea3 : q_e3a b n a = a + 2 := by unfold q_e3a; rw [e2, ea]; exact q_at_1 (by rw [q_wl_t gi]; decide)
      have n592 : ¬ b (a + 1) = 59 := by rcases g2 with g2 | g2 <;> rw [g2] <;> decide
      have tk2 : ¬ r_takeR (r_at b r (a + 1)) (b (a + 1)) = 0 := by
        rw [tk1 hlt1]
        rcases g2 with g2 | g2 <;> rw [g2] <;> decide
      have st2 : r_at b r (a + 2) = (2, b a - 48, H, b (a + 1), V) := by
        show r_takeS (r_at b r (a + 1)) (b (a + 1)) = _
        unfold r_takeS
        rw [st, if_neg (show ¬ (1 : Int32) = 0 by decide), if_pos (show (1 : Int32) = 1 from rfl)]
        unfold r_sgS
        rcases g2 with g2 | g2 <;> rw [g2] <;> rfl
      have hA2 : Acc b r a (a + 2) := Acc.step hA1 tk2 n592
      -- the ship
      have tk3 : a + 2 < n → (r_takeR (r_at b r (a + 2)) (b (a + 2)) = 0 ↔ ¬ (48 ≤ (b (a + 2)).toInt ∧ (b (a + 2)).toInt ≤ 53)) := fun hl => by
        have e48 := c48 (hb (a + 2) hl)
        unfold r_takeR
        rw [st2, if_neg (show ¬ (2 : Int32) = 0 by decide), if_neg (show ¬ (2 : Int32) = 1 by decide), if_pos (show (2 : Int32) = 2 from rfl)]
        unfold r_shR
        by_cases c : c_noShip (b (a + 2) - 48) = 0
        · rw [if_pos c]
          rw [noShip_I, e48] at c
          exact ⟨fun e => absurd e (by decide), fun e => absurd ⟨by omega, by omega⟩ e⟩
        · rw [if_neg c]
          rw [noShip_I, e48] at c
          exact ⟨fun _ => by omega, fun _ => rfl⟩
      by_cases g3 : g_in (q_sign b (a + 2) n) 48 53 = 0
      · have e4 : q_e4w b n a = 0 := by unfold q_e4w; rw [ea3]; exact q_wl_f g3
        have ea4 : q_e4a b n a = a + 2 := by unfold q_e4a; rw [ea3]; exact q_at_0 (q_wl_f g3)
        have dd := d4 e4
        rw [ea4] at dd
        refine ⟨fun _ => ?_, fun c => absurd dd.1 c⟩
        rw [dd.2]
        refine ⟨⟨by omega, fun hl => ?_, fun _ => by rw [st2]; show ¬ (2 : Int32) = 5; decide⟩, hA2⟩
        rw [tk3 hl]
        rw [q_sign_lt hl, g_in_I, i48, i53] at g3
        exact g3
      · obtain ⟨hlt2, hsb2⟩ := q_sign_in (by decide) g3
        have e4 : q_e4w b n a = 1 := by unfold q_e4w; rw [e3, ea3]; exact q_wl_t g3
        have ea4 : q_e4a b n a = a + 3 := by unfold q_e4a; rw [e3, ea3]; exact q_at_1 (by rw [q_wl_t g3]; decide)
        rw [hsb2, g_in_I, i48, i53] at g3
        have g3 : 48 ≤ (b (a + 2)).toInt ∧ (b (a + 2)).toInt ≤ 53 := by omega
        have eb482 := c48 (hb (a + 2) hlt2)
        have nH : c_noShip (b (a + 2) - 48) = 0 := by rw [noShip_I, eb482]; omega
        have n593 : ¬ b (a + 2) = 59 := by intro e; rw [e, i59] at g3; omega
        have tk4 : ¬ r_takeR (r_at b r (a + 2)) (b (a + 2)) = 0 := fun e => (tk3 hlt2).mp e g3
        have st3 : r_at b r (a + 3) = (3, b a - 48, b (a + 2) - 48, b (a + 1), V) := by
          show r_takeS (r_at b r (a + 2)) (b (a + 2)) = _
          unfold r_takeS
          rw [st2, if_neg (show ¬ (2 : Int32) = 0 by decide), if_neg (show ¬ (2 : Int32) = 1 by decide), if_pos (show (2 : Int32) = 2 from rfl)]
          unfold r_shS
          rw [if_pos nH]
          unfold r_move
          rw [if_neg (by decide)]
        have hA3 : Acc b r a (a + 3) := Acc.step hA2 tk4 n593
        -- the colon
        have tk5 : r_takeR (r_at b r (a + 3)) (b (a + 3)) = if b (a + 3) = 58 then 1 else 0 := by
          unfold r_takeR
          rw [st3, if_neg (show ¬ (3 : Int32) = 0 by decide), if_neg (show ¬ (3 : Int32) = 1 by decide), if_neg (show ¬ (3 : Int32) = 2 by decide), if_pos (show (3 : Int32) = 3 from rfl)]
        by_cases g4 : g_in (q_sign b (a + 3) n) 58 58 = 0
        · have e5 : q_e5w b n a = 0 := by unfold q_e5w; rw [ea4]; exact q_wl_f g4
          have ea5 : q_e5a b n a = a + 3 := by unfold q_e5a; rw [ea4]; exact q_at_0 (q_wl_f g4)
          have dd := d5 e5
          rw [ea5] at dd
          refine ⟨fun _ => ?_, fun c => absurd dd.1 c⟩
          rw [dd.2]
          refine ⟨⟨by omega, fun hl => ?_, fun _ => by rw [st3]; show ¬ (3 : Int32) = 5; decide⟩, hA3⟩
          rw [tk5, if_neg]
          intro e
          rw [q_sign_lt hl, e] at g4
          exact absurd g4 (by decide)
        · obtain ⟨hlt3, hsb3⟩ := q_sign_in (by decide) g4
          have e5 : q_e5w b n a = 1 := by unfold q_e5w; rw [e4, ea4]; exact q_wl_t g4
          have ea5 : q_e5a b n a = a + 4 := by unfold q_e5a; rw [e4, ea4]; exact q_at_1 (by rw [q_wl_t g4]; decide)
          rw [hsb3, g_in_I, i58] at g4
          have hc58 : b (a + 3) = 58 := by rw [i_eq, i58]; omega
          have st4 : r_at b r (a + 4) = (4, b a - 48, b (a + 2) - 48, b (a + 1), V) := by
            show r_takeS (r_at b r (a + 3)) (b (a + 3)) = _
            unfold r_takeS
            rw [st3, if_neg (show ¬ (3 : Int32) = 0 by decide), if_neg (show ¬ (3 : Int32) = 1 by decide), if_neg (show ¬ (3 : Int32) = 2 by decide), if_pos (show (3 : Int32) = 3 from rfl), if_pos hc58]
            unfold r_move
            rw [if_neg (by decide)]
          have hA4 : Acc b r a (a + 4) := Acc.step hA3 (by rw [tk5, if_pos hc58]; decide) (by rw [hc58]; decide)
          -- the number
          have em : q_mo (q_er b n a q w (4 * q)) = r_most (4, b a - 48, b (a + 2) - 48, b (a + 1), V) := by
            have e9 : q_er b n a q w (4 * q) = b (a + 1) := by
              unfold q_er
              rw [pk_un (by omega), pk_us, ea, q_sign_lt hlt1]
            rw [e9]
            rcases g2 with g2 | g2 <;> rw [g2] <;> rfl
          obtain ⟨k1, k2⟩ := num_ok (r := r) hb (show a + 4 ≤ n by omega) st4
          have e6 : q_e6w b n a = q_wl 1 (q_sign b (a + 4) n) 49 57 := by unfold q_e6w; rw [e5, ea5]
          have e7 : q_e7 b n a q w = q_num b n (r_most (4, b a - 48, b (a + 2) - 48, b (a + 1), V)) (q_wl 1 (q_sign b (a + 4) n) 49 57) (q_at 1 (q_sign b (a + 4) n) 49 57 (a + 4)) (q_sign b (a + 4) n - 48) := by
            unfold q_e7 q_e6a
            rw [em, e6, e5, ea5]
          rw [e6]
          refine ⟨fun h0 => ?_, fun h0 => ?_⟩
          · obtain ⟨j1, j2⟩ := k1 h0
            rw [e7, j2]
            exact ⟨j1, hA4⟩
          · obtain ⟨c, v, j0, j1, j2, j3, j4, j5, j6⟩ := k2 h0
            have e9 : q_e7 b n a q w = (c, v) := by rw [e7]; exact j0
            rw [e9]
            refine ⟨j2, hA4.trans j3, by rw [j4], j5, ?_⟩
            rw [j4]
            have x0 : upd (q_er b n a q w) (4 * q + 3) v (4 * q) = b (a + 1) := by
              rw [pk_un (by omega)]
              unfold q_er
              rw [pk_un (by omega), pk_us, ea, q_sign_lt hlt1]
            have x1 : upd (q_er b n a q w) (4 * q + 3) v (4 * q + 1) = b a - 48 := by
              rw [pk_un (by omega)]
              unfold q_er
              rw [pk_un (by omega), pk_un (by omega), pk_us, q_sign_lt hlt]
            have x2 : upd (q_er b n a q w) (4 * q + 3) v (4 * q + 2) = b (a + 2) - 48 := by
              rw [pk_un (by omega)]
              unfold q_er
              rw [pk_us, ea3, q_sign_lt hlt2]
            refine ⟨x0, Or.inr ⟨?_, x1, x2, pk_us, ?_, ?_⟩⟩
            · rcases g2 with g2 | g2
              · refine Or.inl ⟨g2, ?_⟩
                rw [g2] at j6
                exact j6
              · refine Or.inr ⟨g2, ?_⟩
                rw [g2] at j6
                exact j6
            · show iB 0 3 (b a - 48)
              unfold iB
              rw [eb48]
              omega
            · show iB 0 5 (b (a + 2) - 48)
              unfold iB
              rw [eb482]
              omega
    · have e2 : q_e2w b n a = 0 := by
        unfold q_e2w
        rw [e1, ea]
        unfold q_lg
        rw [if_neg (by decide), if_neg (fun e => g2 (Or.inl e)), if_neg (fun e => g2 (Or.inr e))]
      have dd := d2 e2
      rw [ea] at dd
      refine ⟨fun _ => ?_, fun c => absurd dd.1 c⟩
      rw [dd.2]
      refine ⟨⟨by omega, fun hl => ?_, fun _ => by rw [st]; show ¬ (1 : Int32) = 5; decide⟩, hA1⟩
      rw [tk1 hl]
      rw [q_sign_lt hl] at g2
      unfold r_sgR
      rw [if_neg (fun e => g2 (Or.inl e)), if_neg (fun e => g2 (Or.inr e))]
theorem part_ok (hb : bufOK b n) {a q : Nat} {w : Nat → Int32} (ha : a ≤ n) (h : rP (r_at b r a) = 0) :
    (q_W b n a = 0 → Bad b n r (q_A b n a q w) ∧ Acc b r a (q_A b n a q w)) ∧ (¬ q_W b n a = 0 → q_A b n a q w ≤ n ∧ Acc b r a (q_A b n a q w) ∧ rP (r_at b r (q_A b n a q w)) = 5 ∧ (q_A b n a q w < n → r_ndR (r_at b r (q_A b n a q w)) (b (q_A b n a q w) - 48) = 0) ∧ PM (r_at b r (q_A b n a q w)) (q_R b n a q w) (4 * q)) := by
  have e : r_at b r a = (0, rS (r_at b r a), rH (r_at b r a), rK (r_at b r a), rN (r_at b r a)) := by
    rw [← h]
  by_cases c : q_sign b a n = 43
  · exact part_plus hb e c
  · exact part_load hb ha e c
end PRT
