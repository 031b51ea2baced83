/-! THE LAW'S OWN METHODS, in words. low: the number's 31 low digits, by a divisor -/
def lowN (v : Int32) (n : Nat) : Nat := (v &&& 2147483647).toNatClampNeg % n
theorem lowN_lt (v : Int32) {n : Nat} (h : 0 < n) : lowN v n < n := Nat.mod_lt _ h
theorem and_pos (v : Int32) : 0 ≤ (v &&& 2147483647).toInt := by
  have h : (v &&& 2147483647).toBitVec.msb = false := by
    rw [Int32.toBitVec_and, BitVec.msb_and, show (2147483647 : Int32).toBitVec.msb = false by decide, Bool.and_false]
  show 0 ≤ (v &&& 2147483647).toBitVec.toInt
  rw [BitVec.toInt_eq_msb_cond, if_neg (by rw [h]; decide)]
  omega
theorem low_eq {v : Int32} {n : Nat} (h1 : 1 ≤ n) (h2 : n < 2 ^ 31) : (v &&& 2147483647) - (v &&& 2147483647) / nI n * nI n = nI (lowN v n) := by
  have hx := and_pos v
  have hl := lowN_lt v h1
  unfold lowN at hl ⊢
  generalize v &&& 2147483647 = x at *
  have h9 := Int32.toInt_lt x
  have e1 : (nI n).toInt = (n : Int) := nI_toInt h2
  have e2 : (x / nI n).toInt = x.toInt / (n : Int) := i_div rfl e1 hx (by omega) (by omega)
  have p1 : x.toInt / (n : Int) * (n : Int) ≤ x.toInt := Int.ediv_mul_le x.toInt (by omega)
  have p2 : 0 ≤ x.toInt / (n : Int) * (n : Int) := Int.mul_nonneg (Int.ediv_nonneg hx (by omega)) (by omega)
  have e3 : (x / nI n * nI n).toInt = x.toInt / (n : Int) * (n : Int) := by
    rw [i_mul (by rw [e1, e2]; omega) (by rw [e1, e2]; omega), e1, e2]
  have e4 : (x - x / nI n * nI n).toInt = x.toInt - x.toInt / (n : Int) * (n : Int) := by
    rw [i_sub (by rw [e3]; omega) (by rw [e3]; omega), e3]
  have e5 : (nI (x.toNatClampNeg % n)).toInt = ((x.toNatClampNeg % n : Nat) : Int) := nI_toInt (by omega)
  have e6 : ((x.toNatClampNeg : Nat) : Int) = x.toInt := Int.toNat_of_nonneg hx
  rw [i_eq, e4, e5, Int.natCast_emod, e6, Int.emod_def, Int.mul_comm]
/-! told: what is heard of a state, in one number -/
def t_N (C : CT) : Nat → Int64
  | 0 => 3
  | v + 1 => 31 * t_N C v + (c_count C (nI v)).toInt64
def t_S (y : YT) (k : Nat) (h : Int64) : Nat → Int64
  | 0 => h
  | v + 1 => 31 * t_S y k h v + (y_tellS y k (nI v)).toInt64
def t_L (y : YT) (k : Nat) (h : Int64) : Nat → Int64
  | 0 => h
  | e + 1 => 31 * (31 * t_L y k h e + (y_tellL y k e 0).toInt64) + (y_tellL y k e 1).toInt64
def t_K (y : YT) (h : Int64) : Nat → Int64
  | 0 => h
  | k + 1 => t_L y k (t_S y k (t_K y h k) 6) (sN (yS y k))
def t_J (y : YT) (h : Int64) : Nat → Int64
  | 0 => h
  | j + 1 => 31 * (31 * t_J y h j + (y_tellH y j 0).toInt64) + (y_tellH y j 1).toInt64
def t_told (C : CT) : Int64 := t_J (cY C) (t_K (cY C) (t_N C 14) 4) 6
theorem cnt_cong {C C2 : CT} (h : cY C2 = cY C) {v : Nat} (hv : v < 14) : c_count C2 (nI v) = c_count C (nI v) := by
  rcases (show v = 0 ∨ v = 1 ∨ v = 2 ∨ v = 3 ∨ v = 4 ∨ v = 5 ∨ v = 6 ∨ v = 7 ∨ v = 8 ∨ v = 9 ∨ v = 10 ∨ v = 11 ∨ v = 12 ∨ v = 13 by omega) with rfl | rfl | rfl | rfl | rfl | rfl | rfl | rfl | rfl | rfl | rfl | rfl | rfl | rfl
  · exact congrArg (fun y : YT => yC y 0) h
  · exact congrArg (fun y : YT => y_silos y 4) h
  · exact congrArg (fun y : YT => y_ships y 6) h
  · exact congrArg (fun y : YT => yC y 1) h
  · exact congrArg (fun y : YT => yC y 2) h
  · exact congrArg (fun y : YT => yC y 3) h
  · exact congrArg (fun y : YT => y_pads y 4) h
  · exact congrArg (fun y : YT => y_arches y 4) h
  · exact congrArg (fun y : YT => yC y 4) h
  · exact congrArg (fun y : YT => yC y 5) h
  · exact congrArg (fun y : YT => yZ y 0) h
  · exact congrArg (fun y : YT => yZ y 1) h
  · exact congrArg (fun y : YT => yZ y 2) h
  · exact congrArg (fun y : YT => yZ y 3) h
theorem tN_cong {C C2 : CT} (h : cY C2 = cY C) : ∀ n, n ≤ 14 → t_N C2 n = t_N C n
  | 0, _ => rfl
  | n + 1, hn => by
    show 31 * t_N C2 n + (c_count C2 (nI n)).toInt64 = 31 * t_N C n + (c_count C (nI n)).toInt64
    rw [tN_cong h n (by omega), cnt_cong h (by omega)]
theorem t_cong {C C2 : CT} (h : cY C2 = cY C) : t_told C2 = t_told C := by
  unfold t_told
  rw [tN_cong h 14 (by omega), h]
theorem cnt_0 {C : CT} : c_count C 0 = yC (cY C) 0 := rfl
theorem cnt_1 {C : CT} : c_count C 1 = y_silos (cY C) 4 := rfl
theorem cnt_2 {C : CT} : c_count C 2 = y_ships (cY C) 6 := rfl
theorem cnt_3 {C : CT} : c_count C 3 = yC (cY C) 1 := rfl
theorem cnt_4 {C : CT} : c_count C 4 = yC (cY C) 2 := rfl
theorem cnt_5 {C : CT} : c_count C 5 = yC (cY C) 3 := rfl
theorem cnt_6 {C : CT} : c_count C 6 = y_pads (cY C) 4 := rfl
theorem cnt_7 {C : CT} : c_count C 7 = y_arches (cY C) 4 := rfl
theorem cnt_8 {C : CT} : c_count C 8 = yC (cY C) 4 := rfl
theorem cnt_9 {C : CT} : c_count C 9 = yC (cY C) 5 := rfl
theorem cnt_10 {C : CT} : c_count C 10 = yZ (cY C) 0 := rfl
theorem cnt_11 {C : CT} : c_count C 11 = yZ (cY C) 1 := rfl
theorem cnt_12 {C : CT} : c_count C 12 = yZ (cY C) 2 := rfl
theorem cnt_13 {C : CT} : c_count C 13 = yZ (cY C) 3 := rfl
theorem cnt_14 {C : CT} : c_count C 14 = nI (cQ C) := rfl
theorem tell_0 {y : YT} {k : Nat} : y_tellS y k 0 = s_total (yS y k) := rfl
theorem tell_1 {y : YT} {k : Nat} : y_tellS y k 1 = nI (sN (yS y k)) := rfl
theorem tell_2 {y : YT} {k : Nat} : y_tellS y k 2 = sP (yS y k) := rfl
theorem tell_3 {y : YT} {k : Nat} : y_tellS y k 3 = (if sC (yS y k) = 0 then 0 else 1) := rfl
theorem tellL_0 {y : YT} {k j : Nat} : y_tellL y k j 0 = sT (yS y k) j := rfl
theorem tellL_1 {y : YT} {k j : Nat} : y_tellL y k j 1 = sA (yS y k) j := rfl
theorem tellL_2 {y : YT} {k j : Nat} : y_tellL y k j 2 = g_set (sA (yS y k) j) (yZ y 1) := rfl
theorem tellH_0 {y : YT} {j : Nat} : y_tellH y j 0 = hT (yH y j) := rfl
theorem tellH_1 {y : YT} {j : Nat} : y_tellH y j 1 = hH (yH y j) := rfl
/-! act: a call by two numbers; none where none was made -/
def b_20 (v : Int32) : Int32 := v >>> ((20 : Int32) &&& 31) &&& 1
def a_n (v : Int32) : Nat := if b_20 v = 0 then 2 else 4
def a_k (v : Int32) : Nat := lowN (v >>> ((4 : Int32) &&& 31)) (a_n v)
def a_j (v : Int32) : Nat := lowN (v >>> ((6 : Int32) &&& 31)) 6
def a_u (w : Int32) : Nat := lowN w 901
def a_t (w : Int32) : Nat := lowN (w >>> ((6 : Int32) &&& 31)) (a_u w + 1)
def a_q (w : Int32) : Nat := if b_20 w = 0 then 500 else 60
def a_d (w : Int32) : Nat := if b_20 w = 0 then 3 else 30
def a_ship (y : YT) (v w : Int32) : Option (Int32 × YT) := some (hT (yH y (a_j v)), y_ship y (a_j v) (nI (a_u w)) (nI (a_t w)))
def a_unl (y : YT) (v w : Int32) : Option (Int32 × YT) := some (c_brR (yS y (a_k v)) (yH y (a_j v)) (nI (1 + lowN w (a_q w))), y_unl y (a_k v) (a_j v) (nI (1 + lowN w (a_q w))))
def a_flow (y : YT) (v w : Int32) : Option (Int32 × YT) := some (y_letR y (a_k v) (a_j v) (1 + lowN w 24), y_let y (a_k v) (a_j v) (1 + lowN w 24))
def a_pads (y : YT) (v w : Int32) : Option (Int32 × YT) := if y_pads y 4 - sP (yS y (a_k v)) + nI (lowN w 5) ≤ yZ y 0 then some (sP (yS y (a_k v)), y_padsS y (a_k v) (nI (lowN w 5))) else none
def a_shk (y : YT) (v _w : Int32) : Option (Int32 × YT) := if sN (yS y (a_k v)) = 0 then none else some (y_shakeR y (a_k v), y_shake y (a_k v))
def a_set (y : YT) (_v w : Int32) : Option (Int32 × YT) := some (yZ y (1 + lowN w 3), y_setZ y (1 + lowN w 3) (nI (5 + lowN (w >>> ((2 : Int32) &&& 31)) 16)))
def a_pass (y : YT) (_v w : Int32) : Option (Int32 × YT) := some (y_PR y (1 + lowN w (a_d w)), y_pass y (1 + lowN w (a_d w)))
def a_res (y : YT) (v w : Int32) : Option (Int32 × YT) :=
  if v &&& 15 = 0 then a_ship y v w else
  if v &&& 15 = 1 then a_ship y v w else
  if v &&& 15 = 2 then a_unl y v w else
  if v &&& 15 = 3 then a_unl y v w else
  if v &&& 15 = 4 then a_unl y v w else
  if v &&& 15 = 5 then a_flow y v w else
  if v &&& 15 = 6 then a_flow y v w else
  if v &&& 15 = 7 then a_flow y v w else
  if v &&& 15 = 8 then a_pads y v w else
  if v &&& 15 = 9 then a_pads y v w else
  if v &&& 15 = 10 then a_shk y v w else
  if v &&& 15 = 11 then a_shk y v w else
  if v &&& 15 = 12 then a_set y v w else a_pass y v w
def a_R (y : YT) (v w : Int32) : Int32 := match a_res y v w with
  | none => -9
  | some q => q.1
def a_C (C : CT) (v w : Int32) : CT := match a_res (cY C) v w with
  | none => C
  | some q => c_setY (c_save C) q.2
theorem a_n4 (v : Int32) : 1 ≤ a_n v ∧ a_n v ≤ 4 := by
  unfold a_n
  split <;> omega
theorem a_k4 (v : Int32) : a_k v < 4 := by
  have h := a_n4 v
  have h2 : a_k v < a_n v := lowN_lt _ (by omega)
  omega
theorem a_j6 (v : Int32) : a_j v < 6 := lowN_lt _ (by omega)
theorem a_u900 (w : Int32) : a_u w < 901 := lowN_lt _ (by omega)
theorem a_tu (w : Int32) : a_t w < a_u w + 1 := lowN_lt _ (by omega)
theorem a_q5 (w : Int32) : 1 ≤ a_q w ∧ a_q w ≤ 500 := by
  unfold a_q
  split <;> omega
theorem a_d3 (w : Int32) : 1 ≤ a_d w ∧ a_d w ≤ 30 := by
  unfold a_d
  split <;> omega
theorem n_pos {n : Nat} (h : n < 2 ^ 31) : ¬ nI n < 0 := nI_pos h
theorem n_900 {n : Nat} (h : n ≤ 900) : ¬ 900 < nI n := by
  rw [i_lt, i_900, nI_toInt (by omega)]
  omega
theorem n_le {a b : Nat} (h : a ≤ b) (hb : b < 2 ^ 31) : nI a ≤ nI b := nI_le h hb
theorem n_1 {n : Nat} (h1 : 1 ≤ n) (h : n < 2 ^ 31) : ¬ nI n < 1 := by
  rw [i_lt, i_1, nI_toInt h]
  omega
theorem n_500 {n : Nat} (h : n ≤ 500) : nI n ≤ 500 := by
  rw [i_le, i_500, nI_toInt (by omega)]
  omega
theorem n_set {i n : Nat} (hi1 : 1 ≤ i) (hi : i < 4) (h1 : 5 ≤ n) (h2 : n ≤ 20) : ¬ nI n < z_least i ∧ nI n ≤ z_most i := by
  rw [i_lt, i_le, nI_toInt (by omega)]
  rcases (show i = 1 ∨ i = 2 ∨ i = 3 by omega) with rfl | rfl | rfl
  · have a : (z_least 1).toInt = 1 := by decide
    have b : (z_most 1).toInt = 20 := by decide
    omega
  · have a : (z_least 2).toInt = 5 := by decide
    have b : (z_most 2).toInt = 100 := by decide
    omega
  · have a : (z_least 3).toInt = 0 := by decide
    have b : (z_most 3).toInt = 900 := by decide
    omega
theorem act_p {m : Nat} (hm : m ≤ 100000) {y : YT} (h : IY m y) (v w : Int32) : ∀ q, a_res y v w = some q → 0 ≤ q.1.toInt ∧ IY (m + 1) q.2 := by
  have hk := a_k4 v
  have hj := a_j6 v
  have hship : ∀ q, a_ship y v w = some q → 0 ≤ q.1.toInt ∧ IY (m + 1) q.2 := fun q hq => by
    unfold a_ship at hq
    cases hq
    have hu := a_u900 w
    have ht := a_tu w
    have r := ship_p (u := nI (a_u w)) (t := nI (a_t w)) h hj (n_pos (by omega)) (n_900 (by omega)) (n_pos (by omega)) (n_le (by omega) (by omega))
    exact ⟨r.1, r.2.mono (by omega)⟩
  have hunl : ∀ q, a_unl y v w = some q → 0 ≤ q.1.toInt ∧ IY (m + 1) q.2 := fun q hq => by
    unfold a_unl at hq
    cases hq
    have h1 := a_q5 w
    have h2 := lowN_lt w (n := a_q w) (by omega)
    have e : (nI (1 + lowN w (a_q w))).toInt = ((1 + lowN w (a_q w) : Nat) : Int) := nI_toInt (by omega)
    have r := unl_p (t := nI (1 + lowN w (a_q w))) h hk hj (by omega) (by omega)
    exact ⟨r.1, r.2.mono (by omega)⟩
  have hflow : ∀ q, a_flow y v w = some q → 0 ≤ q.1.toInt ∧ IY (m + 1) q.2 := fun q hq => by
    unfold a_flow at hq
    cases hq
    have h2 := lowN_lt w (n := 24) (by omega)
    have r := let_p (q := 1 + lowN w 24) h hk hj (by omega)
    exact ⟨r.1, r.2.mono (by omega)⟩
  have hpads : ∀ q, a_pads y v w = some q → 0 ≤ q.1.toInt ∧ IY (m + 1) q.2 := fun q hq => by
    unfold a_pads at hq
    split at hq
    · rename_i hb
      cases hq
      have h2 := lowN_lt w (n := 5) (by omega)
      have e : (nI (lowN w 5)).toInt = ((lowN w 5 : Nat) : Int) := nI_toInt (by omega)
      have r := pads_p (u := nI (lowN w 5)) h hk (by unfold iB; omega) hb
      exact ⟨r.1, r.2.mono (by omega)⟩
    · cases hq
  have hshk : ∀ q, a_shk y v w = some q → 0 ≤ q.1.toInt ∧ IY (m + 1) q.2 := fun q hq => by
    unfold a_shk at hq
    split at hq
    · cases hq
    · rename_i hb
      cases hq
      exact shake_p hm h hk (by omega)
  have hset : ∀ q, a_set y v w = some q → 0 ≤ q.1.toInt ∧ IY (m + 1) q.2 := fun q hq => by
    unfold a_set at hq
    cases hq
    have h2 := lowN_lt w (n := 3) (by omega)
    have h3 := lowN_lt (w >>> ((2 : Int32) &&& 31)) (n := 16) (by omega)
    have hn := n_set (i := 1 + lowN w 3) (n := 5 + lowN (w >>> ((2 : Int32) &&& 31)) 16) (by omega) (by omega) (by omega) (by omega)
    have r := setZ_p (i := 1 + lowN w 3) (u := nI (5 + lowN (w >>> ((2 : Int32) &&& 31)) 16)) h (by omega) (by omega) hn.1 hn.2
    exact ⟨r.1, r.2.mono (by omega)⟩
  have hpass : ∀ q, a_pass y v w = some q → 0 ≤ q.1.toInt ∧ IY (m + 1) q.2 := fun q hq => by
    unfold a_pass at hq
    cases hq
    have h1 := a_d3 w
    have h2 := lowN_lt w (n := a_d w) (by omega)
    exact pass_p hm h (by omega)
  intro q hq
  unfold a_res at hq
  by_cases c0 : v &&& 15 = 0
  · rw [if_pos c0] at hq
    exact hship q hq
  rw [if_neg c0] at hq
  by_cases c1 : v &&& 15 = 1
  · rw [if_pos c1] at hq
    exact hship q hq
  rw [if_neg c1] at hq
  by_cases c2 : v &&& 15 = 2
  · rw [if_pos c2] at hq
    exact hunl q hq
  rw [if_neg c2] at hq
  by_cases c3 : v &&& 15 = 3
  · rw [if_pos c3] at hq
    exact hunl q hq
  rw [if_neg c3] at hq
  by_cases c4 : v &&& 15 = 4
  · rw [if_pos c4] at hq
    exact hunl q hq
  rw [if_neg c4] at hq
  by_cases c5 : v &&& 15 = 5
  · rw [if_pos c5] at hq
    exact hflow q hq
  rw [if_neg c5] at hq
  by_cases c6 : v &&& 15 = 6
  · rw [if_pos c6] at hq
    exact hflow q hq
  rw [if_neg c6] at hq
  by_cases c7 : v &&& 15 = 7
  · rw [if_pos c7] at hq
    exact hflow q hq
  rw [if_neg c7] at hq
  by_cases c8 : v &&& 15 = 8
  · rw [if_pos c8] at hq
    exact hpads q hq
  rw [if_neg c8] at hq
  by_cases c9 : v &&& 15 = 9
  · rw [if_pos c9] at hq
    exact hpads q hq
  rw [if_neg c9] at hq
  by_cases c10 : v &&& 15 = 10
  · rw [if_pos c10] at hq
    exact hshk q hq
  rw [if_neg c10] at hq
  by_cases c11 : v &&& 15 = 11
  · rw [if_pos c11] at hq
    exact hshk q hq
  rw [if_neg c11] at hq
  by_cases c12 : v &&& 15 = 12
  · rw [if_pos c12] at hq
    exact hset q hq
  rw [if_neg c12] at hq
  exact hpass q hq
theorem act_none {C : CT} {v w : Int32} (h : a_res (cY C) v w = none) : a_R (cY C) v w = -9 ∧ a_C C v w = C := by
  unfold a_R a_C
  rw [h]
  exact ⟨rfl, rfl⟩
theorem act_some {C : CT} {v w : Int32} {q : Int32 × YT} (h : a_res (cY C) v w = some q) : a_R (cY C) v w = q.1 ∧ a_C C v w = c_setY (c_save C) q.2 := by
  unfold a_R a_C
  rw [h]
  exact ⟨rfl, rfl⟩
/-! THE WHOLE OBJECT: what holds of it at a turn's start -/
def c_undo (C : CT) : CT := (y_like (cY C) (cV C (cM C (cQ C - 1))), cV C, cM C, cQ C - 1, cB C, cL C, cR C, cT C, cU C)
def LI (t : Nat) (C : CT) : Prop := IY t (cY C) ∧ cQ C ≤ 6 ∧ (∀ i, i < 6 → cM C i < 6) ∧ (∀ i j, i < 6 → j < 6 → cM C i = cM C j → i = j) ∧ (∀ p, p < 6 → cnY (cV C p)) ∧ ∀ i, i < cQ C → IY t (cV C (cM C i))
theorem LI.mono {t t2 : Nat} {C : CT} (h : LI t C) (ht : t ≤ t2) : LI t2 C := ⟨h.1.mono ht, h.2.1, h.2.2.1, h.2.2.2.1, h.2.2.2.2.1, fun i hi => (h.2.2.2.2.2 i hi).mono ht⟩
theorem undo_Y {t : Nat} {C : CT} (h : LI t C) (hq : 1 ≤ cQ C) : cY (c_undo C) = cV C (cM C (cQ C - 1)) :=
  like_eq h.1.2.1 (h.2.2.2.2.1 _ (h.2.2.1 _ (by have := h.2.1; omega)))
theorem undo_p {t : Nat} {C : CT} (h : LI t C) (hq : 1 ≤ cQ C) : LI t (c_undo C) := by
  have e := undo_Y h hq
  have h1 := h.2.2.2.2.2 (cQ C - 1) (by omega)
  refine ⟨by rw [e]; exact h1, ?_, h.2.2.1, h.2.2.2.1, h.2.2.2.2.1, fun i hi => ?_⟩
  · show cQ C - 1 ≤ 6
    have := h.2.1
    omega
  · have hi : i < cQ C - 1 := hi
    exact h.2.2.2.2.2 i (by omega)
theorem save_p {t : Nat} {C : CT} {y1 : YT} (h : LI t C) (hq : cQ C ≤ 5) (h1 : IY t y1) : LI t (c_setY (c_save C) y1) ∧ cQ (c_setY (c_save C) y1) = cQ C + 1 ∧ cY (c_undo (c_setY (c_save C) y1)) = cY C := by
  obtain ⟨a1, a2, a3, a4, a5, a6⟩ := h
  have r1 : n_rot (cQ C) = cQ C := by unfold n_rot; rw [if_neg (by omega)]
  have r2 : m_rot (cM C) (cQ C) = cM C := by unfold m_rot; rw [if_neg (by omega)]
  have hp := a3 (cQ C) (by omega)
  have eV : cV (c_setY (c_save C) y1) = vSet (cV C) (cM C (cQ C)) (cY C) := by
    show vSet (cV C) (m_rot (cM C) (cQ C) (n_rot (cQ C))) (y_like (cV C (m_rot (cM C) (cQ C) (n_rot (cQ C)))) (cY C)) = _
    rw [r1, r2, like_eq (a5 _ hp) a1.2.1]
  have eM : cM (c_setY (c_save C) y1) = cM C := r2
  have eQ : cQ (c_setY (c_save C) y1) = cQ C + 1 := by
    show n_rot (cQ C) + 1 = _
    rw [r1]
  have hL : LI t (c_setY (c_save C) y1) := by
    refine ⟨h1, by rw [eQ]; omega, by rw [eM]; exact a3, by rw [eM]; exact a4, fun p hp2 => ?_, fun i hi => ?_⟩
    · rw [eV]
      unfold vSet
      split
      · exact a1.2.1
      · exact a5 p hp2
    · rw [eQ] at hi
      rw [eV, eM]
      unfold vSet
      by_cases e : i = cQ C
      · rw [if_pos (by rw [e])]
        exact a1
      · rw [if_neg (fun q => e (a4 i (cQ C) (by omega) (by omega) q))]
        exact a6 i (by omega)
  refine ⟨hL, eQ, ?_⟩
  rw [undo_Y hL (by rw [eQ]; omega), eV, eM, eQ]
  unfold vSet
  rw [if_pos (by rw [Nat.add_sub_cancel])]

