/-! THE REFERENCE READS THE WHOLE TEXT, AND PLAYS IT -/
abbrev QT : Type := Int32 × Nat × Nat × (Nat → Int32)
def q_lp (b : Nat → Int32) (n : Nat) : Nat → QT → QT
  | 0, x => x
  | f + 1, x =>
    if x.1 = 0 then x else if n ≤ x.2.1 then x
    else if q_wl x.1 (q_sign b x.2.1 n) 59 59 = 0 then q_lp b n f (q_wl x.1 (q_sign b x.2.1 n) 59 59, q_at x.1 (q_sign b x.2.1 n) 59 59 x.2.1, x.2.2.1, x.2.2.2)
    else q_lp b n f (q_W b n (q_at x.1 (q_sign b x.2.1 n) 59 59 x.2.1), q_A b n (q_at x.1 (q_sign b x.2.1 n) 59 59 x.2.1) x.2.2.1 x.2.2.2, q_Q b n (q_at x.1 (q_sign b x.2.1 n) 59 59 x.2.1) x.2.2.1, q_R b n (q_at x.1 (q_sign b x.2.1 n) 59 59 x.2.1) x.2.2.1 x.2.2.2)
def q_all (b : Nat → Int32) (n : Nat) (r : Nat → Int32) : QT := q_lp b n 62 (q_W b n 0, q_A b n 0 0 r, q_Q b n 0 0, q_R b n 0 0 r)
section QLP
variable {b : Nat → Int32} {n f a q : Nat} {w : Int32} {r : Nat → Int32}
theorem q_lp_w (h : w = 0) : q_lp b n f (w, a, q, r) = (w, a, q, r) := by
  cases f with
  | zero => rfl
  | succ f => show (if w = 0 then _ else _) = _; rw [if_pos h]
theorem q_lp_n (h0 : ¬ w = 0) (h : n ≤ a) : q_lp b n f (w, a, q, r) = (w, a, q, r) := by
  cases f with
  | zero => rfl
  | succ f => show (if w = 0 then _ else if n ≤ a then _ else _) = _; rw [if_neg h0, if_pos h]
theorem q_lp_b (hf : 1 ≤ f) (h0 : ¬ w = 0) (h : ¬ n ≤ a) (h1 : q_wl w (q_sign b a n) 59 59 = 0) : q_lp b n f (w, a, q, r) = q_lp b n (f - 1) (q_wl w (q_sign b a n) 59 59, q_at w (q_sign b a n) 59 59 a, q, r) := by
  obtain ⟨f, rfl⟩ : ∃ g, f = g + 1 := ⟨f - 1, by omega⟩
  show (if w = 0 then _ else if n ≤ a then _ else if q_wl w (q_sign b a n) 59 59 = 0 then _ else _) = _
  rw [if_neg h0, if_neg h, if_pos h1]
  rfl
theorem q_lp_g (hf : 1 ≤ f) (h0 : ¬ w = 0) (h : ¬ n ≤ a) (h1 : ¬ q_wl w (q_sign b a n) 59 59 = 0) : q_lp b n f (w, a, q, r) = q_lp b n (f - 1) (q_W b n (q_at w (q_sign b a n) 59 59 a), q_A b n (q_at w (q_sign b a n) 59 59 a) q r, q_Q b n (q_at w (q_sign b a n) 59 59 a) q, q_R b n (q_at w (q_sign b a n) 59 59 a) q r) := by
  obtain ⟨f, rfl⟩ : ∃ g, f = g + 1 := ⟨f - 1, by omega⟩
  show (if w = 0 then _ else if n ≤ a then _ else if q_wl w (q_sign b a n) 59 59 = 0 then _ else _) = _
  rw [if_neg h0, if_neg h, if_neg h1]
  rfl
theorem q_wl_1 {g x y : Int32} (h : ¬ q_wl w g x y = 0) : q_wl w g x y = 1 := by
  unfold q_wl at h ⊢
  split
  · rename_i e; rw [if_pos e] at h; exact absurd rfl h
  · rename_i e
    split
    · rename_i e2; rw [if_neg e, if_pos e2] at h; exact absurd rfl h
    · rfl
theorem q_wl_w {g x y : Int32} (h : ¬ q_wl w g x y = 0) : ¬ w = 0 := by
  intro e; apply h; unfold q_wl; rw [if_pos e]
theorem q_wl_in {g x y : Int32} (h : ¬ q_wl w g x y = 0) : ¬ g_in g x y = 0 := by
  intro e; apply h; unfold q_wl; rw [e]; split <;> rfl
theorem q_at_1 {g x y : Int32} (h : ¬ q_wl w g x y = 0) : q_at w g x y a = a + 1 := by
  unfold q_at; rw [if_neg (q_wl_w h), if_neg (q_wl_in h)]
theorem q_at_0 {g x y : Int32} (h : q_wl w g x y = 0) : q_at w g x y a = a := by
  unfold q_wl at h
  unfold q_at
  split
  · rfl
  · rename_i e
    rw [if_neg e] at h
    split
    · rfl
    · rename_i e2; rw [if_neg e2] at h; exact absurd h (by decide)
theorem q_at_ge {g x y : Int32} : a ≤ q_at w g x y a := by
  unfold q_at
  split
  · omega
  · split <;> omega
theorem q_lg_w {g : Int32} (h : ¬ q_lg w g = 0) : ¬ w = 0 := by
  intro e; apply h; unfold q_lg; rw [if_pos e]
theorem q_A_le (hn : n ≤ 60) (ha : a ≤ 60) : q_A b n a q r ≤ 60 := by
  unfold q_A
  split
  · exact q_num_le hn (q_at_le (by decide) hn (q_p1a_le hn ha))
  · exact q_num_le hn (q_at_le (by decide) hn (q_e5a_le hn ha))
theorem q_A_2 (h : ¬ q_W b n a = 0) : a + 2 ≤ q_A b n a q r := by
  unfold q_W at h
  unfold q_A
  by_cases c : q_sign b a n = 43
  · rw [if_pos c] at h ⊢
    have h1 := q_wl_w h
    have e1 : q_p1a b n a = a + 1 := q_at_1 h1
    have e2 : q_p2a b n a = q_p1a b n a + 1 := q_at_1 h
    refine Nat.le_trans ?_ q_num_ge
    show _ ≤ q_p2a b n a
    omega
  · rw [if_neg c] at h ⊢
    have h5 := q_wl_w h
    have h4 := q_wl_w h5
    have h3 := q_wl_w h4
    have h2 := q_wl_w h3
    have h1 := q_lg_w h2
    have e1 : q_e1a b n a = a + 1 := q_at_1 h1
    have e3 : q_e3a b n a = q_e1a b n a + 1 := q_at_1 h3
    have e4 : q_e4a b n a = q_e3a b n a + 1 := q_at_1 h4
    have e5 : q_e5a b n a = q_e4a b n a + 1 := q_at_1 h5
    have e6 : q_e6a b n a = q_e5a b n a + 1 := q_at_1 h
    refine Nat.le_trans ?_ q_num_ge
    show _ ≤ q_e6a b n a
    omega
theorem q_Q_le (h : ¬ q_W b n a = 0) : q_Q b n a q = q + 1 := by unfold q_Q; rw [if_neg h]
end QLP
/-! a row that was read, done -/
def qOK (r : Nat → Int32) (i : Nat) : Prop :=
  (¬ r i = 60 → ¬ r i = 62 → r (i + 1) = nI (t_n (r (i + 1))) ∧ t_n (r (i + 1)) < 1000) ∧ (r i = 60 ∨ r i = 62 → (r (i + 1) = nI (t_n (r (i + 1))) ∧ t_n (r (i + 1)) < 4) ∧ r (i + 2) = nI (t_n (r (i + 2))) ∧ t_n (r (i + 2)) < 6) ∧ (r i = 62 → r (i + 3) = nI (t_n (r (i + 3))) ∧ t_n (r (i + 3)) < 100)
def q_plR (s r : Nat → Int32) (i : Nat) : Int32 :=
  if r i = 60 then g_unlR s (t_n (r (i + 1))) (t_n (r (i + 2))) (Nn s (t_n (r (i + 1)))) (r (i + 3)) else if r i = 62 then g_hoursR s (t_n (r (i + 1))) (t_n (r (i + 2))) (t_n (r (i + 3))) else 0
def q_plS (s r : Nat → Int32) (i : Nat) : Nat → Int32 :=
  if r i = 60 then g_unlS s (t_n (r (i + 1))) (t_n (r (i + 2))) (Nn s (t_n (r (i + 1)))) (r (i + 3)) else if r i = 62 then g_hoursS s (t_n (r (i + 1))) (t_n (r (i + 2))) (t_n (r (i + 3))) else g_daysS s (t_n (r (i + 1)))
theorem wfM_cs1 {s : Nat → Int32} {k n : Nat} {t : Int32} (hk : k < 4) (hn : n ≤ 10) (hw : wfM s) : wfM (g_cs1 s k n t) := by
  unfold g_cs1
  split
  · exact hw
  · split
    · exact hw
    · exact wfM_upd hw (by omega) (fun k' hk' => by omega)
theorem wfM_unl {s : Nat → Int32} {k j : Nat} {t : Int32} (hk : k < 4) (hj : j < 6) (hw : wfM s) : wfM (g_unlS s k j (Nn s k) t) := by
  have hn := (hw.1 k hk).2
  unfold g_unlS
  refine wfM_upd ?_ (by omega) (fun k' hk' => by omega)
  unfold g_comesS
  split
  · exact wfM_cs1 hk hn hw
  · split
    · exact wfM_cs1 hk hn hw
    · have h1 := wfM_cs1 (t := g_min t (s (106 + 2 * j))) hk hn hw
      have hN : ∀ k', k' < 4 → Nn (g_cs1 s k (Nn s k) (g_min t (s (106 + 2 * j)))) k' ≤ 10 := fun k' hk' => (h1.1 k' hk').2
      refine wfM_of (fun k' hk' => ?_) ?_
      · by_cases e : k' = k
        · subst e
          refine ⟨Nn s k' + 1, by omega, ?_⟩
          unfold g_cs2
          rw [pk_un (by omega), pk_us]
        · refine ⟨_, hN k' hk', ?_⟩
          unfold g_cs2
          rw [pk_un (by omega), pk_un (by omega), pk_un (by omega), pk_un (by omega)]
          exact (h1.1 k' hk').1
      · unfold g_cs2
        rw [pk_un (by omega), pk_un (by omega), pk_un (by omega), pk_un (by omega)]
        exact h1.2
theorem wfM_plS {s r : Nat → Int32} {i : Nat} (hw : wfM s) (h : qOK r i) : wfM (q_plS s r i) := by
  unfold q_plS
  split
  · rename_i e
    have := h.2.1 (Or.inl e)
    exact wfM_unl this.1.2 this.2.2 hw
  · split
    · rename_i e
      have := h.2.1 (Or.inr e)
      exact wfM_hours this.1.2 this.2.2 hw _
    · exact wfM_days hw _
def q_pyS (s r : Nat → Int32) : Nat → Nat → Int32
  | 0 => s
  | n + 1 => q_plS (q_pyS s r n) r (4 * n)
def q_pyR (s r : Nat → Int32) : Nat → Int32
  | 0 => 0
  | n + 1 => q_pyR s r n + q_plR (q_pyS s r n) r (4 * n)
theorem wfM_pyS {s r : Nat → Int32} {N : Nat} (hw : wfM s) (h : ∀ i, i < N → qOK r (4 * i)) : ∀ n, n ≤ N → wfM (q_pyS s r n)
  | 0, _ => hw
  | n + 1, hn => wfM_plS (wfM_pyS hw h n (by omega)) (h n (by omega))
