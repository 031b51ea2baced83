/-! THE TWO SIDES BROUGHT TOGETHER: whole numbers of 32 bits, read as integers -/
theorem i_add {a b : Int32} (h1 : -2147483648 ≤ a.toInt + b.toInt) (h2 : a.toInt + b.toInt < 2147483648) : (a + b).toInt = a.toInt + b.toInt := by
  rw [Int32.toInt_add, Int.bmod_eq_of_le (by omega) (by omega)]
theorem i_sub {a b : Int32} (h1 : -2147483648 ≤ a.toInt - b.toInt) (h2 : a.toInt - b.toInt < 2147483648) : (a - b).toInt = a.toInt - b.toInt := by
  rw [Int32.toInt_sub, Int.bmod_eq_of_le (by omega) (by omega)]
theorem i_mul {a b : Int32} (h1 : -2147483648 ≤ a.toInt * b.toInt) (h2 : a.toInt * b.toInt < 2147483648) : (a * b).toInt = a.toInt * b.toInt := by
  rw [Int32.toInt_mul, Int.bmod_eq_of_le (by omega) (by omega)]
theorem i_le {a b : Int32} : a ≤ b ↔ a.toInt ≤ b.toInt := Int32.le_iff_toInt_le
theorem i_lt {a b : Int32} : a < b ↔ a.toInt < b.toInt := Int32.lt_iff_toInt_lt
theorem i_eq {a b : Int32} : a = b ↔ a.toInt = b.toInt := Int32.toInt_inj.symm
theorem i_0 : (0 : Int32).toInt = 0 := by decide
theorem i_1 : (1 : Int32).toInt = 1 := by decide
theorem i_2 : (2 : Int32).toInt = 2 := by decide
theorem i_3 : (3 : Int32).toInt = 3 := by decide
theorem i_4 : (4 : Int32).toInt = 4 := by decide
theorem i_5 : (5 : Int32).toInt = 5 := by decide
theorem i_10 : (10 : Int32).toInt = 10 := by decide
theorem i_20 : (20 : Int32).toInt = 20 := by decide
theorem i_40 : (40 : Int32).toInt = 40 := by decide
theorem i_500 : (500 : Int32).toInt = 500 := by decide
theorem i_900 : (900 : Int32).toInt = 900 := by decide
theorem i_1200 : (1200 : Int32).toInt = 1200 := by decide
def iB (lo hi : Int) (x : Int32) : Prop := lo ≤ x.toInt ∧ x.toInt ≤ hi
theorem i_gmin {a b : Int32} : (g_min a b).toInt = min a.toInt b.toInt := by
  unfold g_min
  split
  · rename_i h; rw [i_le] at h; omega
  · rename_i h; rw [i_le] at h; omega
theorem i_smin {a b : Int32} : (s_min a b).toInt = min a.toInt b.toInt := by
  unfold s_min
  split
  · rename_i h; rw [i_lt] at h; omega
  · rename_i h; rw [i_lt] at h; omega
theorem g_s_min {a b : Int32} : g_min a b = s_min a b := i_eq.mpr (by rw [i_gmin, i_smin])
theorem nI_z {n : Nat} (h : n < 2 ^ 31) : nI n = 0 ↔ n = 0 := nI_eq (b := 0) h (by omega)
theorem nI_le0 {n : Nat} (h : n < 2 ^ 31) : nI n ≤ 0 ↔ n = 0 := by
  rw [show (0 : Int32) = nI 0 from rfl, nI_leI h (by omega)]
  omega
theorem i_z {x : Int32} (h : x ≤ 0) (h0 : 0 ≤ x.toInt) : x = 0 := by rw [i_le, i_0] at h; rw [i_eq, i_0]; omega
/-! a silo, a ship, a yard that are in order -/
def okS (m : Int) (v : ST) : Prop :=
  sN v ≤ 10 ∧ (∀ j, j < sN v → iB 1 500 (sT v j) ∧ iB 0 m (sA v j)) ∧ (s_total v).toInt ≤ 1200 ∧ iB 0 4 (sP v) ∧ (sC v = 0 ∨ sC v = 1 ∨ sC v = 2) ∧ (sC v = 1 → 1 ≤ sN v) ∧ (sC v = 0 ∨ iB 0 2 (sK v))
def okH (h : HT) : Prop := 0 ≤ (hT h).toInt ∧ (hT h).toInt ≤ (hH h).toInt ∧ (hH h).toInt ≤ 900
def okZ (z : Nat → Int32) : Prop := iB 0 16 (z 0) ∧ iB 1 20 (z 1) ∧ iB 5 100 (z 2) ∧ iB 0 900 (z 3)
def okY (m : Int) (y : YT) : Prop := (∀ k, k < 4 → okS m (yS y k)) ∧ (∀ j, j < 6 → okH (yH y j)) ∧ okZ (yZ y)
/-! the row of numbers says the same -/
def RS (s : Nat → Int32) (k : Nat) (v : ST) : Prop :=
  s (10 + 24 * k + 3) = nI (sN v) ∧ s (10 + 24 * k + 0) = sP v ∧ s (10 + 24 * k + 1) = sC v ∧ s (10 + 24 * k + 2) = sK v ∧ ∀ j, j < sN v → s (10 + 24 * k + (4 + 2 * j)) = sT v j ∧ s (10 + 24 * k + (4 + 2 * j + 1)) = sA v j
def RH (s : Nat → Int32) (j : Nat) (h : HT) : Prop := s (106 + 2 * j) = hT h ∧ s (106 + 2 * j + 1) = hH h
def Rel (s : Nat → Int32) (y : YT) : Prop := (∀ k, k < 4 → RS s k (yS y k)) ∧ (∀ j, j < 6 → RH s j (yH y j)) ∧ (∀ i, i < 4 → s (6 + i) = yZ y i) ∧ (∀ i, i < 6 → s i = yC y i)
theorem RS.cong {s s2 : Nat → Int32} {k : Nat} {v : ST} (h : RS s k v) (hn : sN v ≤ 10) (e : ∀ i, 10 + 24 * k ≤ i → i < 10 + 24 * k + 24 → s2 i = s i) : RS s2 k v := by
  obtain ⟨h1, h2, h3, h4, h5⟩ := h
  refine ⟨?_, ?_, ?_, ?_, fun j hj => ?_⟩
  · rw [e _ (by omega) (by omega)]; exact h1
  · rw [e _ (by omega) (by omega)]; exact h2
  · rw [e _ (by omega) (by omega)]; exact h3
  · rw [e _ (by omega) (by omega)]; exact h4
  · rw [e _ (by omega) (by omega), e _ (by omega) (by omega)]; exact h5 j hj
theorem RH.cong {s s2 : Nat → Int32} {j : Nat} {h : HT} (h1 : RH s j h) (e : ∀ i, 106 + 2 * j ≤ i → i < 106 + 2 * j + 2 → s2 i = s i) : RH s2 j h := by
  unfold RH
  rw [e _ (by omega) (by omega), e _ (by omega) (by omega)]
  exact h1
theorem RS.Nn {s : Nat → Int32} {k : Nat} {v : ST} (h : RS s k v) (hn : sN v ≤ 10) : Nn s k = sN v := by
  show (s (10 + 24 * k + 3)).toNatClampNeg = _
  rw [h.1]
  exact nI_clamp (by omega)
theorem Rel.wfM {m : Int} {s : Nat → Int32} {y : YT} (h : Rel s y) (ho : okY m y) : wfM s := by
  refine wfM_of (fun k hk => ⟨sN (yS y k), (ho.1 k hk).1, (h.1 k hk).1⟩) ?_
  have h8 := h.2.2.1 2 (by omega)
  rw [show s 8 = yZ y 2 from h8, i_eq, i_0]
  have := ho.2.2.2.2.1.1
  omega
theorem okY.wf {m : Int} {y : YT} (h : okY m y) : wfY y := fun k hk => (h.1 k hk).1
theorem iB.mono {a b c : Int} {x : Int32} (h : iB a b x) (hc : b ≤ c) : iB a c x := ⟨h.1, Int.le_trans h.2 hc⟩
theorem okS.mono {m m2 : Int} {v : ST} (h : okS m v) (hm : m ≤ m2) : okS m2 v := ⟨h.1, fun j hj => ⟨(h.2.1 j hj).1, (h.2.1 j hj).2.mono hm⟩, h.2.2⟩
theorem okY.mono {m m2 : Int} {y : YT} (h : okY m y) (hm : m ≤ m2) : okY m2 y := ⟨fun k hk => (h.1 k hk).mono hm, h.2⟩
/-! sums -/
theorem sum_eq {s : Nat → Int32} {k : Nat} {v : ST} (h : RS s k v) (j : Nat) : ∀ n, j + n ≤ sN v → g_sum s k j n = s_sum (sT v) j n
  | 0, _ => rfl
  | n + 1, hn => by
    show g_sum s k j n + s (10 + 24 * k + (4 + 2 * (j + n))) = s_sum (sT v) j n + sT v (j + n)
    rw [sum_eq h j n (by omega), (h.2.2.2.2 (j + n) (by omega)).1]
theorem sum_cong {t t2 : Nat → Int32} {j : Nat} : ∀ n, (∀ i, j ≤ i → i < j + n → t2 i = t i) → s_sum t2 j n = s_sum t j n
  | 0, _ => rfl
  | n + 1, h => by
    show s_sum t2 j n + t2 (j + n) = s_sum t j n + t (j + n)
    rw [sum_cong n (fun i h1 h2 => h i h1 (by omega)), h (j + n) (by omega) (by omega)]
theorem sum_B {t : Nat → Int32} {j : Nat} : ∀ n, n ≤ 10 → (∀ i, j ≤ i → i < j + n → iB 0 1200 (t i)) → 0 ≤ (s_sum t j n).toInt ∧ (s_sum t j n).toInt ≤ 1200 * n
  | 0, _, _ => ⟨by show (0 : Int) ≤ (0 : Int32).toInt; decide, by show (0 : Int32).toInt ≤ _; decide⟩
  | n + 1, hn, h => by
    have ih := sum_B (t := t) (j := j) n (by omega) (fun i h1 h2 => h i h1 (by omega))
    have h2 := h (j + n) (by omega) (by omega)
    unfold iB at h2
    show 0 ≤ (s_sum t j n + t (j + n)).toInt ∧ (s_sum t j n + t (j + n)).toInt ≤ _
    rw [i_add (by omega) (by omega)]
    omega
theorem sum_first {t : Nat → Int32} {j : Nat} : ∀ n, s_sum t j (n + 1) = t j + s_sum t (j + 1) n
  | 0 => by
    show s_sum t j 0 + t (j + 0) = t j + 0
    show (0 : Int32) + t j = t j + 0
    rw [Int32.zero_add, Int32.add_zero]
  | n + 1 => by
    show s_sum t j (n + 1) + t (j + (n + 1)) = t j + (s_sum t (j + 1) n + t (j + 1 + n))
    rw [sum_first n, Int32.add_assoc, show j + (n + 1) = j + 1 + n by omega]
theorem sum_shift {t t2 : Nat → Int32} {j i : Nat} : ∀ n, (∀ q, q < n → t2 (j + q) = t (i + q)) → s_sum t2 j n = s_sum t i n
  | 0, _ => rfl
  | n + 1, h => by
    show s_sum t2 j n + t2 (j + n) = s_sum t i n + t (i + n)
    rw [sum_shift n (fun q hq => h q (by omega)), h n (by omega)]
theorem total_B {m : Int} {v : ST} (h : okS m v) : 0 ≤ (s_total v).toInt ∧ (s_total v).toInt ≤ 1200 := by
  refine ⟨?_, h.2.2.1⟩
  exact (sum_B (t := sT v) (j := 0) (sN v - 0) (by have := h.1; omega) (fun i _ hi => ⟨by have := (h.2.1 i (by omega)).1.1; omega, by have := (h.2.1 i (by omega)).1.2; omega⟩)).1
theorem total_eq {s : Nat → Int32} {k : Nat} {v : ST} (h : RS s k v) : g_sum s k 0 (sN v - 0) = s_total v := sum_eq h 0 (sN v - 0) (by omega)
/-! how hard, how much can flow -/
theorem flows_eq {s : Nat → Int32} {k : Nat} {v : ST} {z : Nat → Int32} (h : RS s k v) (hn : sN v ≤ 10) (hz : s 7 = z 1) : g_flows s k = c_outH z v (sP v) := by
  unfold g_flows c_outH
  rw [h.1, h.2.1, hz]
  by_cases h0 : sN v = 0
  · rw [if_pos h0, if_pos (by rw [h0]; rfl)]
  · rw [if_neg h0, if_neg (fun e => h0 ((nI_z (by omega)).mp e))]
    have h1 := (h.2.2.2.2 0 (by omega)).2
    rw [show (10 + 24 * k + (4 + 2 * 0 + 1)) = 10 + 24 * k + (4 + 2 * 0 + 1) from rfl, h1]
    split
    · rfl
    · split
      · rfl
      · split
        · rename_i e; rw [e]; decide
        · rfl
theorem outH_B {m : Int} {z : Nat → Int32} {v : ST} (h : okS m v) : 0 ≤ (c_outH z v (sP v)).toInt ∧ (c_outH z v (sP v)).toInt ≤ 160 := by
  have h4 := h.2.2.2.1
  unfold iB at h4
  unfold c_outH
  split
  · decide
  · split
    · split
      · decide
      · rename_i h9
        rw [i_mul (by rw [i_40]; omega) (by rw [i_40]; omega), i_40]; omega
    · split
      · split
        · decide
        · rename_i h9
          rw [i_eq, i_0] at h9
          have : (sP v - 1).toInt = (sP v).toInt - 1 := by rw [i_sub (by rw [i_1]; omega) (by rw [i_1]; omega), i_1]
          rw [i_mul (by rw [this, i_20]; omega) (by rw [this, i_20]; omega), this, i_20]; omega
      · split
        · rename_i e; rw [e]; decide
        · decide
