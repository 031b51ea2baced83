/-! THE WHOLE STATE on both sides: now, what is saved, the buffer -/
abbrev MT : Type := Int32 × (Nat → Int32) × (Nat → Int32) × (Nat → Int32) × Int32 × (Nat → Int32) × Int32 × Int32 × Int32 × (Nat → Int32) × Int32 × Int64
abbrev uT (M : MT) : Int32 := M.1
abbrev uS (M : MT) : Nat → Int32 := M.2.1
abbrev uA (M : MT) : Nat → Int32 := M.2.2.1
abbrev uV (M : MT) : Nat → Int32 := M.2.2.2.1
abbrev uN (M : MT) : Int32 := M.2.2.2.2.1
abbrev uB (M : MT) : Nat → Int32 := M.2.2.2.2.2.1
abbrev uL (M : MT) : Int32 := M.2.2.2.2.2.2.1
abbrev uP (M : MT) : Int32 := M.2.2.2.2.2.2.2.1
abbrev uW (M : MT) : Int32 := M.2.2.2.2.2.2.2.2.1
abbrev uR (M : MT) : Nat → Int32 := M.2.2.2.2.2.2.2.2.2.1
abbrev uQ (M : MT) : Int32 := M.2.2.2.2.2.2.2.2.2.2.1
abbrev uH (M : MT) : Int64 := M.2.2.2.2.2.2.2.2.2.2.2
def mT (cy : Nat → ClassId) (L : Nat → Nat) (F : Nat → va_E) (M : MT) : Nat → va_E := mW cy L F (uT M) (uS M) (uA M) (uV M) (uN M) (uB M) (uL M) (uP M) (uW M) (uR M) (uQ M) (uH M)
def KW (cy : Nat → ClassId) (L : Nat → Nat) (F : Nat → va_E) (f : Nat → Int64) (C : CT) (M : MT) : Nat → va_E := cW cy L (oW cy (mT cy L F M) f) C
theorem mT_K {cy : Nat → ClassId} {L : Nat → Nat} {F : Nat → va_E} {f : Nat → Int64} {C : CT} {M : MT} : mT cy L (cW cy L (oW cy F f) C) M = KW cy L F f C M := by
  unfold mT KW
  rw [mW_cW, mW_oW]
  rfl
def SavedOK (m : Int) (C : CT) (v : Nat → Int32) : Prop := ∀ i, i < cQ C → Rel (fun q => v (118 * i + q)) (cV C (cM C i)) ∧ okY m (cV C (cM C i))
def WR (m : Int) (C : CT) (M : MT) : Prop :=
  Rel (uS M) (cY C) ∧ okY m (cY C) ∧ cQ C ≤ 6 ∧ uN M = nI (cQ C) ∧ (∀ i, i < 6 → cM C i < 6) ∧ (∀ i j, i < 6 → j < 6 → cM C i = cM C j → i = j) ∧ SavedOK m C (uV M) ∧ cL C ≤ 60 ∧ uL M = nI (cL C) ∧ uB M = cB C ∧ ∀ k, k < cL C → iB 33 126 (cB C k)
theorem Rel.cong {s s2 : Nat → Int32} {m : Int} {y : YT} (h : Rel s y) (ho : okY m y) (e : ∀ i, i < 118 → s2 i = s i) : Rel s2 y := by
  refine ⟨fun k hk => (h.1 k hk).cong (ho.1 k hk).1 (fun i _ _ => e i (by omega)), fun j hj => (h.2.1 j hj).cong (fun i _ _ => e i (by omega)), fun i hi => ?_, fun i hi => ?_⟩
  · rw [e _ (by omega)]; exact h.2.2.1 i hi
  · rw [e _ (by omega)]; exact h.2.2.2 i hi
theorem SavedOK.mono {m m2 : Int} {C : CT} {v : Nat → Int32} (h : SavedOK m C v) (hm : m ≤ m2) : SavedOK m2 C v := fun i hi => ⟨(h i hi).1, (h i hi).2.mono hm⟩
theorem WR.mono {m m2 : Int} {C : CT} {M : MT} (h : WR m C M) (hm : m ≤ m2) : WR m2 C M := by
  obtain ⟨h1, h2, h3, h4, h5, h6, h7, h8⟩ := h
  exact ⟨h1, h2.mono hm, h3, h4, h5, h6, h7.mono hm, h8⟩
/-! a yard made like another -/
theorem lS_at (y y2 : YT) {i : Nat} : ∀ k, yS (y_lS y y2 k) i = if i < k then s_like (yS y i) (yS y2 i) else yS y i
  | 0 => by rw [if_neg (by omega)]; rfl
  | k + 1 => by
    show yS (ySetS (y_lS y y2 k) k (s_like (yS (y_lS y y2 k) k) (yS y2 k))) i = _
    by_cases h : i = k
    · subst h
      rw [yS_set, lS_at y y2 i, if_neg (by omega), if_pos (by omega)]
    · rw [yS_ne h, lS_at y y2 k]
      by_cases h2 : i < k
      · rw [if_pos h2, if_pos (by omega)]
      · rw [if_neg h2, if_neg (by omega)]
theorem lS_o (y y2 : YT) : ∀ k, yH (y_lS y y2 k) = yH y ∧ yZ (y_lS y y2 k) = yZ y ∧ yC (y_lS y y2 k) = yC y
  | 0 => ⟨rfl, rfl, rfl⟩
  | k + 1 => lS_o y y2 k
theorem lH_at (y y2 : YT) {i : Nat} : ∀ k, yH (y_lH y y2 k) i = if i < k then (hT (yH y2 i), hH (yH y2 i)) else yH y i
  | 0 => by rw [if_neg (by omega)]; rfl
  | k + 1 => by
    show yH (ySetH (y_lH y y2 k) k (hT (yH y2 k), hH (yH y2 k))) i = _
    by_cases h : i = k
    · subst h
      rw [yH_set, if_pos (by omega)]
    · rw [yH_ne h, lH_at y y2 k]
      by_cases h2 : i < k
      · rw [if_pos h2, if_pos (by omega)]
      · rw [if_neg h2, if_neg (by omega)]
theorem lH_o (y y2 : YT) : ∀ k, yS (y_lH y y2 k) = yS y ∧ yZ (y_lH y y2 k) = yZ y ∧ yC (y_lH y y2 k) = yC y
  | 0 => ⟨rfl, rfl, rfl⟩
  | k + 1 => lH_o y y2 k
theorem like_S {y y2 : YT} {k : Nat} (hk : k < 4) : yS (y_like y y2) k = s_like (yS y k) (yS y2 k) := by
  show yS (y_lH (y_lS y y2 4) y2 6) k = _
  rw [(lH_o _ y2 6).1, lS_at, if_pos hk]
theorem like_H {y y2 : YT} {j : Nat} (hj : j < 6) : yH (y_like y y2) j = (hT (yH y2 j), hH (yH y2 j)) := by
  show yH (y_lH (y_lS y y2 4) y2 6) j = _
  rw [lH_at, if_pos hj]
theorem like_Z {y y2 : YT} {i : Nat} (hi : i < 4) : yZ (y_like y y2) i = yZ y2 i := by
  show cpN _ (yZ y2) (0) (0) 4 i = _
  unfold cpN
  rw [if_pos (by omega)]
  rfl
theorem like_C {y y2 : YT} {i : Nat} (hi : i < 6) : yC (y_like y y2) i = yC y2 i := by
  show upd (upd (upd (upd (upd (upd _ 0 (yC y2 0)) 1 (yC y2 1)) 2 (yC y2 2)) 3 (yC y2 3)) 4 (yC y2 4)) 5 (yC y2 5) i = _
  rcases (show i = 0 ∨ i = 1 ∨ i = 2 ∨ i = 3 ∨ i = 4 ∨ i = 5 by omega) with rfl | rfl | rfl | rfl | rfl | rfl
  · rw [pk_un (by omega), pk_un (by omega), pk_un (by omega), pk_un (by omega), pk_un (by omega), pk_us]
  · rw [pk_un (by omega), pk_un (by omega), pk_un (by omega), pk_un (by omega), pk_us]
  · rw [pk_un (by omega), pk_un (by omega), pk_un (by omega), pk_us]
  · rw [pk_un (by omega), pk_un (by omega), pk_us]
  · rw [pk_un (by omega), pk_us]
  · rw [pk_us]
theorem like_at {v v2 : ST} {i : Nat} (hi : i < 10) : sT (s_like v v2) i = sT v2 i ∧ sA (s_like v v2) i = sA v2 i := by
  refine ⟨?_, ?_⟩
  · show cpN _ _ (0) (0) 10 i = _
    unfold cpN; rw [if_pos (by omega)]; rfl
  · show cpN _ _ (0) (0) 10 i = _
    unfold cpN; rw [if_pos (by omega)]; rfl
theorem like_ok {m : Int} {s : Nat → Int32} {y y2 : YT} (h : Rel s y2) (ho : okY m y2) : Rel s (y_like y y2) ∧ okY m (y_like y y2) := by
  refine ⟨⟨fun k hk => ?_, fun j hj => ?_, fun i hi => ?_, fun i hi => ?_⟩, fun k hk => ?_, fun j hj => ?_, ?_⟩
  · rw [like_S hk]
    obtain ⟨a1, a2, a3, a4, a5⟩ := h.1 k hk
    refine ⟨a1, a2, a3, a4, fun j hj => ?_⟩
    have hj : j < sN (yS y2 k) := hj
    have hn := (ho.1 k hk).1
    rw [(like_at (v := yS y k) (v2 := yS y2 k) (i := j) (by omega)).1, (like_at (v := yS y k) (v2 := yS y2 k) (i := j) (by omega)).2]
    exact a5 j hj
  · rw [like_H hj]; exact h.2.1 j hj
  · rw [like_Z hi]; exact h.2.2.1 i hi
  · rw [like_C hi]; exact h.2.2.2 i hi
  · rw [like_S hk]
    obtain ⟨a1, a2, a3, a4, a5, a6, a7⟩ := ho.1 k hk
    have et : s_total (s_like (yS y k) (yS y2 k)) = s_total (yS y2 k) := sum_cong (t := sT (yS y2 k)) (t2 := sT (s_like (yS y k) (yS y2 k))) (sN (yS y2 k) - 0) (fun i _ hi => (like_at (by omega)).1)
    refine ⟨a1, fun j hj => ?_, by rw [et]; exact a3, a4, a5, a6, a7⟩
    have hj : j < sN (yS y2 k) := hj
    rw [(like_at (v := yS y k) (v2 := yS y2 k) (i := j) (by omega)).1, (like_at (v := yS y k) (v2 := yS y2 k) (i := j) (by omega)).2]
    exact a2 j hj
  · rw [like_H hj]; exact ho.2.1 j hj
  · obtain ⟨b0, b1, b2, b3⟩ := ho.2.2
    refine ⟨?_, ?_, ?_, ?_⟩
    · rw [like_Z (by omega)]; exact b0
    · rw [like_Z (by omega)]; exact b1
    · rw [like_Z (by omega)]; exact b2
    · rw [like_Z (by omega)]; exact b3
/-! saving, and taking back -/
theorem m_sh_at {M : Nat → Nat} {i : Nat} : ∀ k, m_sh M k i = if i < k then M (i + 1) else M i
  | 0 => by rw [if_neg (by omega)]; rfl
  | k + 1 => by
    show (if i = k then m_sh M k (k + 1) else m_sh M k i) = _
    rw [m_sh_at (i := k + 1) k, m_sh_at (i := i) k]
    by_cases h : i = k
    · subst h
      rw [if_pos rfl, if_neg (by omega), if_pos (by omega)]
    · rw [if_neg h]
      by_cases h2 : i < k
      · rw [if_pos h2, if_pos (by omega)]
      · rw [if_neg h2, if_neg (by omega)]
theorem m_rot_6 {M : Nat → Nat} {i : Nat} (hi : i < 6) : m_rot M 6 i = if i = 5 then M 0 else M (i + 1) := by
  unfold m_rot
  rw [if_pos rfl]
  show (if i = 5 then M 0 else m_sh M 5 i) = _
  split
  · rfl
  · rw [m_sh_at, if_pos (by omega)]
theorem m_rot_inj {M : Nat → Nat} {n : Nat} (h : ∀ i j, i < 6 → j < 6 → M i = M j → i = j) : ∀ i j, i < 6 → j < 6 → m_rot M n i = m_rot M n j → i = j := by
  intro i j hi hj e
  by_cases hn : n = 6
  · subst hn
    rw [m_rot_6 hi, m_rot_6 hj] at e
    by_cases a : i = 5
    · by_cases b : j = 5
      · omega
      · rw [if_pos a, if_neg b] at e
        have := h 0 (j + 1) (by omega) (by omega) e
        omega
    · by_cases b : j = 5
      · rw [if_neg a, if_pos b] at e
        have := h (i + 1) 0 (by omega) (by omega) e
        omega
      · rw [if_neg a, if_neg b] at e
        have := h (i + 1) (j + 1) (by omega) (by omega) e
        omega
  · unfold m_rot at e
    rw [if_neg hn] at e
    exact h i j hi hj e
theorem n_rot_M (n : Nat) : n_rot n = g_saveM n := rfl
theorem save_row {v s : Nat → Int32} {n i q : Nat} (hn : n ≤ 6) (hi : i ≤ g_saveM n) (hq : q < 118) : g_saveV v s n (118 * i + q) = if i = g_saveM n then s q else if n = 6 then v (118 * (i + 1) + q) else v (118 * i + q) := by
  have h5 := g_saveM_le hn
  unfold g_saveV
  by_cases e : i = g_saveM n
  · rw [if_pos e]
    unfold cpN
    rw [← e, if_pos (by omega)]
    congr 1
    omega
  · rw [if_neg e]
    unfold cpN
    rw [if_neg (by omega)]
    unfold g_saveU
    by_cases h6 : n = 6
    · rw [if_pos h6, if_pos h6]
      have : g_saveM n = 5 := by unfold g_saveM; rw [if_pos h6]
      unfold cpN
      rw [if_pos (by omega)]
      congr 1
      omega
    · rw [if_neg h6, if_neg h6]
def uSave (M : MT) (n : Nat) : MT := (uT M, uS M, uA M, g_saveV (uV M) (uS M) n, nI (g_saveN n), uB M, uL M, uP M, uW M, uR M, uQ M, uH M)
theorem save_ok {m : Int} {C : CT} {M : MT} (h : WR m C M) : WR m (c_save C) (uSave M (cQ C)) := by
  obtain ⟨h1, h2, h3, h4, h5, h6, h7, h8, h9, h10⟩ := h
  have hp := g_saveM_le h3
  refine ⟨h1, h2, ?_, rfl, m_rot_lt h5, m_rot_inj h6, ?_, h8, h9, h10⟩
  · show n_rot (cQ C) + 1 ≤ 6
    rw [n_rot_M]; omega
  · intro i hi
    have hi : i < g_saveM (cQ C) + 1 := hi
    show Rel (fun q => g_saveV (uV M) (uS M) (cQ C) (118 * i + q)) (vSet (cV C) (m_rot (cM C) (cQ C) (g_saveM (cQ C))) (y_like (cV C (m_rot (cM C) (cQ C) (g_saveM (cQ C)))) (cY C)) (m_rot (cM C) (cQ C) i)) ∧ okY m (vSet (cV C) (m_rot (cM C) (cQ C) (g_saveM (cQ C))) (y_like (cV C (m_rot (cM C) (cQ C) (g_saveM (cQ C)))) (cY C)) (m_rot (cM C) (cQ C) i))
    by_cases e : i = g_saveM (cQ C)
    · subst e
      rw [show vSet (cV C) (m_rot (cM C) (cQ C) (g_saveM (cQ C))) (y_like (cV C (m_rot (cM C) (cQ C) (g_saveM (cQ C)))) (cY C)) (m_rot (cM C) (cQ C) (g_saveM (cQ C))) = y_like (cV C (m_rot (cM C) (cQ C) (g_saveM (cQ C)))) (cY C) from if_pos rfl]
      have q := like_ok (y := cV C (m_rot (cM C) (cQ C) (g_saveM (cQ C)))) h1 h2
      exact ⟨q.1.cong q.2 (fun i hi => by rw [save_row h3 (by omega) hi, if_pos rfl]), q.2⟩
    · have hne : ¬ m_rot (cM C) (cQ C) i = m_rot (cM C) (cQ C) (g_saveM (cQ C)) := fun q => e (m_rot_inj h6 i _ (by omega) (by omega) q)
      rw [show vSet (cV C) (m_rot (cM C) (cQ C) (g_saveM (cQ C))) (y_like (cV C (m_rot (cM C) (cQ C) (g_saveM (cQ C)))) (cY C)) (m_rot (cM C) (cQ C) i) = cV C (m_rot (cM C) (cQ C) i) from if_neg hne]
      by_cases q6 : cQ C = 6
      · have em : m_rot (cM C) (cQ C) i = cM C (i + 1) := by
          rw [q6, m_rot_6 (by omega), if_neg]
          have : g_saveM (cQ C) = 5 := by unfold g_saveM; rw [if_pos q6]
          omega
        have hs : g_saveM (cQ C) = 5 := by unfold g_saveM; rw [if_pos q6]
        obtain ⟨a, b⟩ := h7 (i + 1) (by omega)
        rw [em]
        exact ⟨a.cong b (fun q hq => by rw [save_row h3 (by omega) hq, if_neg e, if_pos q6]), b⟩
      · have em : m_rot (cM C) (cQ C) i = cM C i := by unfold m_rot; rw [if_neg q6]
        have hs : g_saveM (cQ C) = cQ C := by unfold g_saveM; rw [if_neg q6]
        obtain ⟨a, b⟩ := h7 i (by omega)
        rw [em]
        exact ⟨a.cong b (fun q hq => by rw [save_row h3 (by omega) hq, if_neg e, if_neg q6]), b⟩
/-- the yard of now anew -/
theorem WR_set {m m2 : Int} {C : CT} {M : MT} {y : YT} {s a : Nat → Int32} {t p w q : Int32} {r : Nat → Int32} {g : Int64} (h : WR m C M) (hm : m ≤ m2) (h1 : Rel s y) (h2 : okY m2 y) : WR m2 (c_setY C y) (t, s, a, uV M, uN M, uB M, uL M, p, w, r, q, g) := by
  obtain ⟨k1, k2, k3, k4, k5, k6, k7, k8, k9, k10⟩ := h
  exact ⟨h1, h2, k3, k4, k5, k6, k7.mono hm, k8, k9, k10⟩
theorem undo_ok {m : Int} {C : CT} {M : MT} (h : WR m C M) (h1 : 1 ≤ cQ C) : WR m (y_like (cY C) (cV C (cM C (cQ C - 1))), cV C, cM C, cQ C - 1, cB C, cL C, cR C, cT C, cU C) (0, cpN (uS M) (uV M) (0) (118 * (cQ C - 1)) 118, uA M, uV M, nI (cQ C - 1), uB M, uL M, uP M, uW M, uR M, uQ M, uH M) := by
  obtain ⟨k1, k2, k3, k4, k5, k6, k7, k8, k9, k10⟩ := h
  obtain ⟨a, b⟩ := k7 (cQ C - 1) (by omega)
  have q := like_ok (y := cY C) a b
  refine ⟨q.1.cong q.2 (fun i hi => ?_), q.2, by show cQ C - 1 ≤ 6; omega, rfl, k5, k6, fun i hi => ?_, k8, k9, k10⟩
  · show cpN (uS M) (uV M) (0) (118 * (cQ C - 1)) 118 i = uV M (118 * (cQ C - 1) + i)
    unfold cpN
    rw [if_pos (by omega)]
    congr 1
    omega
  · have hi : i < cQ C - 1 := hi
    exact k7 i (by omega)
