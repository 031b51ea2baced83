/-! THE WHOLE TEXT on both sides, and its play -/
theorem t_n_I {x : Int32} {hi : Int} (h : iB 0 hi x) (hh : hi < 2147483648) : x = nI (t_n x) ∧ (t_n x : Int) = x.toInt := by
  unfold iB at h
  have e : (t_n x : Int) = x.toInt := by unfold t_n; omega
  refine ⟨?_, e⟩
  rw [i_eq, nI_toInt (by omega)]
  omega
theorem iB.low {a b c : Int} {x : Int32} (h : iB a b x) (hc : c ≤ a) : iB c b x := ⟨Int.le_trans hc h.1, h.2⟩
theorem PM.rok {x : RT} {w : Nat → Int32} {i : Nat} (h : PM x w i) : rOK x := by
  have n43 : ¬ (60 : Int32) = 43 := by decide
  have n432 : ¬ (62 : Int32) = 43 := by decide
  obtain ⟨h1, h2 | h2⟩ := h
  · have q := t_n_I (h2.2.2.low (c := 0) (by omega)) (by omega)
    have b := h2.2.2
    unfold iB at b
    exact ⟨q.1, by omega, fun c => absurd h2.1 c, fun c => absurd h2.1 c⟩
  · obtain ⟨k, e1, e2, e3, bS, bH⟩ := h2
    have hN : iB 1 500 (rN x) := by
      rcases k with k | k
      · exact k.2
      · exact k.2.mono (by omega)
    have q := t_n_I (hN.low (c := 0) (by omega)) (by omega)
    have q1 := t_n_I bS (by omega)
    have q2 := t_n_I bH (by omega)
    unfold iB at hN bS bH
    exact ⟨q.1, by omega, fun _ => ⟨q1.1, by omega⟩, fun _ => ⟨q2.1, by omega⟩⟩
theorem PM.qok {x : RT} {w : Nat → Int32} {i : Nat} (h : PM x w i) : qOK w i := by
  obtain ⟨h1, h2 | h2⟩ := h
  · have q := t_n_I (h2.2.2.low (c := 0) (by omega)) (by omega)
    have b := h2.2.2
    unfold iB at b
    refine ⟨fun _ _ => ?_, fun c => ?_, fun c => ?_⟩
    · rw [h2.2.1]; exact ⟨q.1, by omega⟩
    · rw [h1, h2.1] at c; exact absurd c (by decide)
    · rw [h1, h2.1] at c; exact absurd c (by decide)
  · obtain ⟨k, e1, e2, e3, bS, bH⟩ := h2
    have q1 := t_n_I bS (by omega)
    have q2 := t_n_I bH (by omega)
    unfold iB at bS bH
    refine ⟨fun c d => ?_, fun _ => ?_, fun c => ?_⟩
    · rcases k with k | k
      · exact absurd (h1.trans k.1) c
      · exact absurd (h1.trans k.1) d
    · rw [e1, e2]; exact ⟨⟨q1.1, by omega⟩, q2.1, by omega⟩
    · rcases k with k | k
      · rw [h1, k.1] at c; exact absurd c (by decide)
      · have q3 := t_n_I (k.2.low (c := 0) (by omega)) (by omega)
        have b := k.2
        unfold iB at b
        rw [e3]; exact ⟨q3.1, by omega⟩
theorem PM.cong {x : RT} {w w2 : Nat → Int32} {i : Nat} (h : PM x w i) (e : ∀ j, i ≤ j → j < i + 4 → w2 j = w j) : PM x w2 i := by
  unfold PM
  rw [e i (by omega) (by omega), e (i + 1) (by omega) (by omega), e (i + 2) (by omega) (by omega), e (i + 3) (by omega) (by omega)]
  exact h
theorem plR_cong {s w w2 : Nat → Int32} {i : Nat} (e : ∀ j, i ≤ j → j < i + 4 → w2 j = w j) : q_plR s w2 i = q_plR s w i ∧ q_plS s w2 i = q_plS s w i := by
  unfold q_plR q_plS
  rw [e i (by omega) (by omega), e (i + 1) (by omega) (by omega), e (i + 2) (by omega) (by omega), e (i + 3) (by omega) (by omega)]
  exact ⟨rfl, rfl⟩
theorem py_cong {s w w2 : Nat → Int32} : ∀ q, (∀ j, j < 4 * q → w2 j = w j) → q_pyS s w2 q = q_pyS s w q ∧ q_pyR s w2 q = q_pyR s w q
  | 0, _ => ⟨rfl, rfl⟩
  | q + 1, e => by
    obtain ⟨a1, a2⟩ := py_cong (s := s) q (fun j hj => e j (by omega))
    have a3 := plR_cong (s := q_pyS s w q) (w := w) (w2 := w2) (i := 4 * q) (fun j h1 h2 => e j (by omega))
    refine ⟨?_, ?_⟩
    · show q_plS (q_pyS s w2 q) w2 (4 * q) = q_plS (q_pyS s w q) w (4 * q)
      rw [a1, a3.2]
    · show q_pyR s w2 q + q_plR (q_pyS s w2 q) w2 (4 * q) = q_pyR s w q + q_plR (q_pyS s w q) w (4 * q)
      rw [a1, a2, a3.1]
/-- a part played -/
theorem play1_ok {m : Int} {s w : Nat → Int32} {y : YT} {x : RT} {i : Nat} (h : Rel s y) (ho : okY m y) (h0 : 0 ≤ m) (hm : m + 30 < 2147483647) (hp : PM x w i) : q_plR s w i = t_partR x y ∧ Rel (q_plS s w i) (t_part x y) ∧ okY (m + 30) (t_part x y) := by
  have n43 : ¬ (60 : Int32) = 43 := by decide
  have n432 : ¬ (62 : Int32) = 43 := by decide
  have n602 : ¬ (62 : Int32) = 60 := by decide
  have n436 : ¬ (43 : Int32) = 60 := by decide
  have n4362 : ¬ (43 : Int32) = 62 := by decide
  obtain ⟨h1, h2 | h2⟩ := hp
  · have q := t_n_I (h2.2.2.low (c := 0) (by omega)) (by omega)
    have b := h2.2.2
    unfold iB at b
    obtain ⟨a1, a2, a3⟩ := pass_ok h ho (d := t_n (rN x)) (by omega)
    unfold q_plR q_plS t_partR t_part
    rw [h1, h2.1, if_neg n436, if_neg n4362, if_neg n436, if_neg n4362, if_pos rfl, if_pos rfl, h2.2.1]
    exact ⟨rfl, a2, a3.mono (by omega)⟩
  · obtain ⟨k, e1, e2, e3, bS, bH⟩ := h2
    have q1 := t_n_I bS (by omega)
    have q2 := t_n_I bH (by omega)
    have bS9 := bS
    have bH9 := bH
    unfold iB at bS9 bH9
    have hk : t_n (rS x) < 4 := by omega
    have hj : t_n (rH x) < 6 := by omega
    have hN : Nn s (t_n (rS x)) = sN (yS y (t_n (rS x))) := (h.1 _ hk).Nn (ho.1 _ hk).1
    rcases k with k | k
    · have b := k.2
      unfold iB at b
      obtain ⟨a1, a2, a3⟩ := unlY_ok (t := rN x) h ho hk hj (by omega) (by omega) h0
      unfold q_plR q_plS t_partR t_part
      rw [h1, k.1, if_pos rfl, if_pos rfl, if_neg n43, if_neg n43, if_pos rfl, if_pos rfl, e1, e2, e3, hN]
      exact ⟨a1, a2, a3.mono (by omega)⟩
    · obtain ⟨a1, a2, a3⟩ := letY_ok h ho hk hj (t_n (rN x))
      unfold q_plR q_plS t_partR t_part
      rw [h1, k.1, if_neg n602, if_neg n602, if_pos rfl, if_pos rfl, if_neg n432, if_neg n432, if_neg n602, if_neg n602, e1, e2, e3]
      exact ⟨a1, a2, a3.mono (by omega)⟩
section WTX
variable {b : Nat → Int32} {n : Nat} {r : RT}
def PlayEq (b : Nat → Int32) (r : RT) (w : Nat → Int32) (a q : Nat) : Prop := ∀ (m : Int) (s : Nat → Int32) (y : YT), 0 ≤ m → m + 30 * q < 1000000000 → Rel s y → okY m y → q_pyR s w q = t_pR b r y a ∧ Rel (q_pyS s w q) (t_pY b r y a) ∧ okY (m + 30 * q) (t_pY b r y a)
theorem pY_skip {y : YT} {a : Nat} : ∀ c, (∀ k, a ≤ k → k < a + c → ¬ b k = 59) → t_pY b r y (a + c) = t_pY b r y a ∧ t_pR b r y (a + c) = t_pR b r y a
  | 0, _ => ⟨rfl, rfl⟩
  | c + 1, h => by
    obtain ⟨e1, e2⟩ := pY_skip (y := y) c (fun k h1 h2 => h k h1 (by omega))
    have q := h (a + c) (by omega) (by omega)
    rw [show a + (c + 1) = (a + c) + 1 by omega, t_pY_0 q, t_pR_0 q]
    exact ⟨e1, e2⟩
/-- before a part: at the place c, q parts behind -/
def Pre (b : Nat → Int32) (n : Nat) (r : RT) (c q : Nat) (w : Nat → Int32) : Prop :=
  c ≤ n ∧ t_err b r c = c ∧ rP (r_at b r c) = 0 ∧ (∀ k, k < c → b k = 59 → rOK (r_at b r k)) ∧ (∀ i, i < q → ∃ x, PM x w (4 * i)) ∧ PlayEq b r w c q
/-- behind a part that is well -/
def LI (b : Nat → Int32) (n : Nat) (r : RT) (a q : Nat) (w : Nat → Int32) : Prop :=
  a ≤ n ∧ 1 ≤ q ∧ t_err b r a = a ∧ rP (r_at b r a) = 5 ∧ (a < n → r_ndR (r_at b r a) (b a - 48) = 0) ∧ PM (r_at b r a) w (4 * (q - 1)) ∧ (∀ k, k < a → b k = 59 → rOK (r_at b r k)) ∧ (∀ i, i < q → ∃ x, PM x w (4 * i)) ∧ PlayEq b r w a (q - 1)
def St (b : Nat → Int32) (n : Nat) (r : RT) (x : QT) : Prop :=
  (x.1 = 0 → Bad b n r x.2.1 ∧ t_err b r x.2.1 = x.2.1) ∧ (¬ x.1 = 0 → LI b n r x.2.1 x.2.2.1 x.2.2.2 ∧ 3 * x.2.2.1 ≤ x.2.1 + 1)
theorem St_part (hb : bufOK b n) {c q : Nat} {w : Nat → Int32} (h : Pre b n r c q w) (hq : 3 * q ≤ c) : St b n r (q_W b n c, q_A b n c q w, q_Q b n c q, q_R b n c q w) := by
  obtain ⟨h1, h2, h3, h4, h5, h6⟩ := h
  obtain ⟨p1, p2⟩ := part_ok (q := q) (w := w) hb h1 h3
  refine ⟨fun h0 => ?_, fun h0 => ?_⟩
  · have h0 : q_W b n c = 0 := h0
    obtain ⟨a1, a2⟩ := p1 h0
    refine ⟨a1, ?_⟩
    show t_err b r (q_A b n c q w) = q_A b n c q w
    have hge : c ≤ q_A b n c q w := by
      unfold q_A
      split
      · exact Nat.le_trans q_at_ge (Nat.le_trans q_at_ge q_num_ge)
      · exact Nat.le_trans q_at_ge (Nat.le_trans q_at_ge (Nat.le_trans q_at_ge (Nat.le_trans q_at_ge (Nat.le_trans q_at_ge q_num_ge))))
    obtain ⟨d, hd⟩ : ∃ d, q_A b n c q w = c + d := ⟨q_A b n c q w - c, by omega⟩
    rw [hd] at a2 ⊢
    exact Acc.err h2 d a2
  · have h0 : ¬ q_W b n c = 0 := h0
    obtain ⟨a1, a2, a3, a4, a5⟩ := p2 h0
    have hA2 := q_A_2 (q := q) (r := w) h0
    have hQ := q_Q_le (q := q) h0
    show LI b n r (q_A b n c q w) (q_Q b n c q) (q_R b n c q w) ∧ 3 * q_Q b n c q ≤ q_A b n c q w + 1
    rw [hQ]
    refine ⟨⟨a1, by omega, ?_, a3, a4, a5, fun k hk h9 => ?_, fun i hi => ?_, ?_⟩, by omega⟩
    · obtain ⟨d, hd⟩ : ∃ d, q_A b n c q w = c + d := ⟨q_A b n c q w - c, by omega⟩
      rw [hd] at a2 ⊢
      exact Acc.err h2 d a2
    · rcases Nat.lt_or_ge k c with e | e
      · exact h4 k e h9
      · exact absurd h9 (a2 k e hk).2
    · by_cases e : i = q
      · subst e; exact ⟨_, a5⟩
      · obtain ⟨x, hx⟩ := h5 i (by omega)
        exact ⟨x, hx.cong (fun j _ _ => q_R_low (by omega))⟩
    · intro m s y m0 hm hr ho
      obtain ⟨b1, b2, b3⟩ := h6 m s y m0 hm hr ho
      obtain ⟨c1, c2⟩ := py_cong (s := s) (w := w) (w2 := q_R b n c q w) q (fun j hj => q_R_low hj)
      obtain ⟨d, hd⟩ : ∃ d, q_A b n c q w = c + d := ⟨q_A b n c q w - c, by omega⟩
      obtain ⟨e1, e2⟩ := pY_skip (b := b) (r := r) (y := y) (a := c) d (fun k g1 g2 => (a2 k g1 (by omega)).2)
      show q_pyR s (q_R b n c q w) q = t_pR b r y (q_A b n c q w) ∧ Rel (q_pyS s (q_R b n c q w) q) (t_pY b r y (q_A b n c q w)) ∧ okY _ (t_pY b r y (q_A b n c q w))
      rw [hd, e1, e2, c1, c2]
      exact ⟨b1, b2, b3⟩
theorem Pre_next {a q : Nat} {w : Nat → Int32} (h : LI b n r a q w) (hlt : a < n) (h59 : b a = 59) : Pre b n r (a + 1) q w := by
  obtain ⟨h1, h2, h3, h4, h5, h6, h7, h8, h9⟩ := h
  have n0 : ∀ {x : RT}, rP x = 5 → r_takeR x 59 = 1 ∧ r_takeS x 59 = r_move x 1 0 := fun {x} e => by
    unfold r_takeR r_takeS
    rw [e, if_neg (show ¬ (5 : Int32) = 0 by decide), if_neg (show ¬ (5 : Int32) = 1 by decide), if_neg (show ¬ (5 : Int32) = 2 by decide), if_neg (show ¬ (5 : Int32) = 3 by decide), if_neg (show ¬ (5 : Int32) = 4 by decide), if_pos rfl, if_neg (show ¬ (5 : Int32) = 0 by decide), if_neg (show ¬ (5 : Int32) = 1 by decide), if_neg (show ¬ (5 : Int32) = 2 by decide), if_neg (show ¬ (5 : Int32) = 3 by decide), if_neg (show ¬ (5 : Int32) = 4 by decide), if_pos rfl]
    exact ⟨rfl, rfl⟩
  obtain ⟨z1, z2⟩ := n0 h4
  refine ⟨by omega, t_err_ok h3 (by rw [h59, z1]; decide), ?_, fun k hk e => ?_, h8, ?_⟩
  · show rP (r_takeS (r_at b r a) (b a)) = 0
    rw [h59, z2]
    rfl
  · by_cases q9 : k = a
    · subst q9; exact h6.rok
    · exact h7 k (by omega) e
  · intro m s y m0 hm hr ho
    obtain ⟨p, rfl⟩ : ∃ p, q = p + 1 := ⟨q - 1, by omega⟩
    obtain ⟨b1, b2, b3⟩ := h9 m s y m0 (by show m + 30 * ((p : Nat) : Int) < _; omega) hr ho
    rw [show p + 1 - 1 = p from rfl] at b1 b2 b3 h6
    obtain ⟨c1, c2, c3⟩ := play1_ok b2 b3 (by omega) (by omega) h6
    refine ⟨?_, ?_, ?_⟩
    · show q_pyR s w p + q_plR (q_pyS s w p) w (4 * p) = _
      rw [t_pR_1 h59, b1, c1]
    · show Rel (q_plS (q_pyS s w p) w (4 * p)) _
      rw [t_pY_1 h59]
      exact c2
    · rw [t_pY_1 h59]
      exact c3.mono (by omega)
theorem lp_ok (hb : bufOK b n) (hn : n ≤ 60) : ∀ (f : Nat) (x : QT), St b n r x → (¬ x.1 = 0 → 62 ≤ f + x.2.1) → St b n r (q_lp b n f x) ∧ (¬ (q_lp b n f x).1 = 0 → (q_lp b n f x).2.1 = n)
  | 0, x, h, hf => ⟨h, fun h0 => by
      have := hf h0
      have := (h.2 h0).1.1
      omega⟩
  | f + 1, (w, a, q, rr), h, hf => by
    by_cases h0 : w = 0
    · rw [q_lp_w h0]
      exact ⟨h, fun c => absurd h0 c⟩
    · have hL := (h.2 h0).1
      have hq3 : 3 * q ≤ a + 1 := (h.2 h0).2
      have hL : LI b n r a q rr := hL
      have hfa : 62 ≤ f + 1 + a := hf h0
      by_cases hna : n ≤ a
      · rw [q_lp_n h0 hna]
        exact ⟨h, fun _ => by show a = n; have := hL.1; omega⟩
      · have hs : q_sign b a n = b a := q_sign_lt (by omega)
        by_cases h59 : b a = 59
        · have hw : ¬ q_wl w (q_sign b a n) 59 59 = 0 := by
            rw [hs, h59]
            unfold q_wl
            rw [if_neg h0, if_neg (by decide)]
            decide
          rw [q_lp_g (by omega) h0 hna hw, q_at_1 hw]
          refine lp_ok hb hn f _ (St_part hb (Pre_next hL (by omega) h59) (by omega)) (fun h9 => ?_)
          have h9 : ¬ q_W b n (a + 1) = 0 := h9
          have := q_A_2 (q := q) (r := rr) h9
          show 62 ≤ f + q_A b n (a + 1) q rr
          omega
        · have hin : g_in (b a) 59 59 = 0 := by
            rw [g_in_I, i59]
            intro c
            exact h59 (by rw [i_eq, i59]; omega)
          have hw : q_wl w (q_sign b a n) 59 59 = 0 := by rw [hs]; exact q_wl_f hin
          rw [q_lp_b (by omega) h0 hna hw, q_at_0 hw, hw]
          refine lp_ok hb hn f _ ⟨fun _ => ⟨⟨hL.1, fun hlt => ?_, fun e => absurd e (by show ¬ a = n; omega)⟩, hL.2.2.1⟩, fun c => absurd rfl c⟩ (fun c => absurd rfl c)
          have h5 := hL.2.2.2.1
          show r_takeR (r_at b r a) (b a) = 0
          unfold r_takeR
          rw [h5, if_neg (show ¬ (5 : Int32) = 0 by decide), if_neg (show ¬ (5 : Int32) = 1 by decide), if_neg (show ¬ (5 : Int32) = 2 by decide), if_neg (show ¬ (5 : Int32) = 3 by decide), if_neg (show ¬ (5 : Int32) = 4 by decide), if_neg h59]
          exact hL.2.2.2.2.1 hlt
theorem text_ok (hb : bufOK b n) (hn : n ≤ 60) (h0 : rP r = 0) (w : Nat → Int32) :
    (q_all b n w).2.1 = t_err b r n ∧ ((q_all b n w).1 = 0 → t_err b r n < n ∨ r_done (t_end b r n) = 0) ∧ (¬ (q_all b n w).1 = 0 → t_err b r n = n ∧ LI b n r n (q_all b n w).2.2.1 (q_all b n w).2.2.2 ∧ 3 * (q_all b n w).2.2.1 ≤ n + 1) := by
  have p0 : Pre b n r 0 0 w := ⟨by omega, rfl, h0, fun k hk => absurd hk (by omega), fun i hi => absurd hi (by omega), fun m s y m0 hm hr ho => ⟨rfl, hr, by rw [show m + 30 * ((0 : Nat) : Int) = m by omega]; exact ho⟩⟩
  obtain ⟨s1, s2⟩ := lp_ok (r := r) hb hn 62 _ (St_part hb p0 (by omega)) (fun h9 => by show 62 ≤ 62 + _; omega)
  change St b n r (q_all b n w) at s1
  change ¬ (q_all b n w).1 = 0 → (q_all b n w).2.1 = n at s2
  generalize q_all b n w = x at *
  by_cases c : x.1 = 0
  · obtain ⟨⟨d1, d2, d3⟩, d4⟩ := s1.1 c
    by_cases e : x.2.1 < n
    · have t := t_err_bad d4 (d2 e) e
      exact ⟨t.symm, fun _ => Or.inl (by omega), fun h => absurd c h⟩
    · have e2 : x.2.1 = n := by omega
      rw [e2] at d4
      refine ⟨by rw [d4, e2], fun _ => Or.inr ?_, fun h => absurd c h⟩
      unfold t_end
      rw [d4, if_neg (by omega)]
      unfold r_done
      rw [if_neg]
      have := d3 e2
      rw [e2] at this
      exact this
  · obtain ⟨l1, l2⟩ := s1.2 c
    have e2 := s2 c
    rw [e2] at l1 l2
    exact ⟨by rw [e2, l1.2.2.1], fun h => absurd h c, fun _ => ⟨l1.2.2.1, l1, l2⟩⟩
end WTX
