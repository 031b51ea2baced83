/-! SOFTNESS AND DIGEST on both sides -/
theorem soft_B {m : Int} {z : Nat → Int32} {v : ST} (h : okS m v) : ∀ n : Nat, n ≤ sN v → 0 ≤ (c_soft z v n).toInt ∧ (c_soft z v n).toInt ≤ (s_sum (sT v) 0 n).toInt ∧ (s_sum (sT v) 0 n).toInt ≤ 500 * n
  | 0, _ => ⟨by show (0 : Int) ≤ (0 : Int32).toInt; decide, by show (0 : Int32).toInt ≤ (0 : Int32).toInt; decide, by show (0 : Int32).toInt ≤ _; decide⟩
  | n + 1, hn => by
    obtain ⟨a, b, c⟩ := soft_B (z := z) h n (by omega)
    have d := (h.2.1 n (by omega)).1
    have hn10 := h.1
    unfold iB at d
    show 0 ≤ (if g_set (sA v n) (z 1) = 0 then c_soft z v n + sT v n else c_soft z v n).toInt ∧ (if g_set (sA v n) (z 1) = 0 then c_soft z v n + sT v n else c_soft z v n).toInt ≤ (s_sum (sT v) 0 n + sT v (0 + n)).toInt ∧ (s_sum (sT v) 0 n + sT v (0 + n)).toInt ≤ _
    rw [Nat.zero_add, i_add (a := s_sum (sT v) 0 n) (by omega) (by omega)]
    split
    · rw [i_add (by omega) (by omega)]
      omega
    · omega
theorem softY_B {m : Int} {y : YT} (ho : okY m y) : ∀ k : Nat, k ≤ 4 → 0 ≤ (y_soft y k).toInt ∧ (y_soft y k).toInt ≤ (y_silos y k).toInt ∧ (y_silos y k).toInt ≤ 1200 * k
  | 0, _ => ⟨by show (0 : Int) ≤ (0 : Int32).toInt; decide, by show (0 : Int32).toInt ≤ (0 : Int32).toInt; decide, by show (0 : Int32).toInt ≤ _; decide⟩
  | k + 1, hk => by
    obtain ⟨a, b, c⟩ := softY_B ho k (by omega)
    have h := ho.1 k (by omega)
    obtain ⟨d1, d2, d3⟩ := soft_B (z := yZ y) h (sN (yS y k)) (Nat.le_refl _)
    have e := total_B h
    have e2 : s_sum (sT (yS y k)) 0 (sN (yS y k)) = s_total (yS y k) := rfl
    rw [e2] at d2
    show 0 ≤ (y_soft y k + c_soft (yZ y) (yS y k) (sN (yS y k))).toInt ∧ (y_soft y k + c_soft (yZ y) (yS y k) (sN (yS y k))).toInt ≤ (y_silos y k + s_total (yS y k)).toInt ∧ (y_silos y k + s_total (yS y k)).toInt ≤ _
    rw [i_add (a := y_soft y k) (by omega) (by omega), i_add (a := y_silos y k) (by omega) (by omega)]
    omega
/-- softness is a zero, or a double up to 1 -/
theorem soft_form {m : Int} {y : YT} (ho : okY m y) : y_softD y = 0 ∨ ∃ E T : Nat, 900 ≤ E ∧ E ≤ 1023 ∧ T < 4503599627370496 ∧ y_softD y = nd E T := by
  obtain ⟨a, b, c⟩ := softY_B ho 4 (by omega)
  unfold y_softD
  by_cases h : y_silos y 4 = 0
  · rw [if_pos h]
    exact Or.inr ⟨1023, 0, by omega, by omega, by omega, by decide +kernel⟩
  · rw [if_neg h]
    have hpos : 0 < (y_silos y 4).toInt := by
      rw [i_eq, i_0] at h
      omega
    by_cases h2 : (y_soft y 4).toInt = 0
    · left
      exact ddiv_0 (b := (y_silos y 4).toInt.toNat) h2 (by omega) (by omega) (by omega)
    · right
      exact ddiv_nd (a := (y_soft y 4).toInt.toNat) (b := (y_silos y 4).toInt.toNat) (by omega) (by omega) (by omega) (by omega) (by omega)
theorem soft_hf {m : Int} {y : YT} (ho : okY m y) : ¬ y_silos y 4 = 0 → vf_n64 (FP.ddiv (FP.i2d (y_soft y 4)) (FP.i2d (y_silos y 4))) := fun h => by
  have f := soft_form ho
  unfold y_softD at f
  rw [if_neg h] at f
  rcases f with f | ⟨E, T, h1, h2, h3, f⟩
  · rw [f]; unfold vf_n64; decide +kernel
  · rw [f]; exact nd_vf (by omega) h3
theorem soft_self {m : Int} {y : YT} (ho : okY m y) : Op.cmpValue (FP.dcmp (y_softD y) (y_softD y)) .l = 0 := by
  rcases soft_form ho with f | ⟨E, T, h1, h2, h3, f⟩
  · rw [f]; decide +kernel
  · rw [f, cmp_self (by omega) (by omega) h3]; rfl
/-- the bits: zero, or by steps -/
theorem soft_bits {m : Int} {y : YT} (ho : okY m y) : (¬ 0 < Op.cmpValue (FP.dcmp (y_softD y) FP.dconst0) .g ∧ (y_softD y).toInt64 = 0) ∨
    ∃ w9 : Nat, 0 < Op.cmpValue (FP.dcmp (y_softD y) FP.dconst0) .g ∧ w9 ≤ 1022 ∧ (∀ i, i < w9 → ¬ 0 ≤ Op.cmpValue (FP.dcmp (b_h (y_softD y) i) FP.dconst1) .g) ∧ (w9 = 1022 ∨ 0 ≤ Op.cmpValue (FP.dcmp (b_h (y_softD y) w9) FP.dconst1) .g) ∧ (∀ i, i < w9 → vf_n64 (b_h (y_softD y) (i + 1))) ∧ vf_n64 (FP.dmul (FP.dsub (b_h (y_softD y) w9) FP.dconst1) 4841369599423283200) ∧ vf_n64 (FP.dsub (b_h (y_softD y) w9) FP.dconst1) ∧ b_v (y_softD y) w9 = (y_softD y).toInt64 := by
  rcases soft_form ho with f | ⟨E, T, h1, h2, h3, f⟩
  · left
    rw [f]
    refine ⟨by decide +kernel, by decide +kernel⟩
  · right
    refine ⟨1023 - E, ?_⟩
    rw [f]
    have e1 : b_h (nd E T) (1023 - E) = nd 1023 T := by rw [b_h_nd (by omega) h3 _ (by omega), show E + (1023 - E) = 1023 by omega]
    have s1 := sub1_nd h3
    rw [e1]
    refine ⟨by rw [cmp_gt0 (by omega) (by omega) h3]; decide, by omega, fun i hi => ?_, Or.inr ?_, fun i hi => ?_, s1.2.1, s1.1, b_v_nd h1 h2 h3⟩
    · rw [b_h_nd (by omega) h3 _ (by omega), cmp_lt1 (by omega) (by omega) h3]
      decide
    · rcases cmp_ge1 h3 with c | c <;> rw [c] <;> decide
    · rw [b_h_nd (by omega) h3 _ (by omega)]
      exact nd_vf (by omega) h3
/-! the digest's loops -/
theorem dN_eq {m : Int} {s : Nat → Int32} {C : CT} (h : Rel s (cY C)) (ho : okY m (cY C)) (h0 : Int64) : ∀ v, g_dN h0 s (nI (cQ C)) v = d_N C h0 v
  | 0 => rfl
  | v + 1 => by
    show 31 * g_dN h0 s (nI (cQ C)) v + (g_count s (nI (cQ C)) (nI v)).toInt64 = 31 * d_N C h0 v + (c_count C (nI v)).toInt64
    rw [dN_eq h ho h0 v, count_eq h ho]
theorem dS_eq {m : Int} {s : Nat → Int32} {y : YT} (h : Rel s y) (ho : okY m y) {k : Nat} (hk : k < 4) (h0 : Int64) : ∀ v, g_hs6 h0 s k (sN (yS y k)) v = d_S y k h0 v
  | 0 => rfl
  | v + 1 => by
    show 31 * g_hs6 h0 s k (sN (yS y k)) v + (g_tellS s k (sN (yS y k)) (nI v)).toInt64 = 31 * d_S y k h0 v + (y_tellS y k (nI v)).toInt64
    rw [dS_eq h ho hk h0 v, tellS_eq h ho hk]
theorem dL_eq {s : Nat → Int32} {y : YT} (h : Rel s y) {k : Nat} (hk : k < 4) (h0 : Int64) : ∀ j, j ≤ sN (yS y k) → g_hs3 h0 s k (3 * j) = d_L y k h0 j
  | 0, _ => rfl
  | j + 1, hj => by
    have ih := dL_eq h hk h0 j (by omega)
    have st : ∀ v, v < 3 → g_hs3 h0 s k (3 * j + v + 1) = 31 * g_hs3 h0 s k (3 * j + v) + (y_tellL y k j (nI v)).toInt64 := fun v hv => by
      show 31 * g_hs3 h0 s k (3 * j + v) + (g_tellL s k ((3 * j + v) / 3) (nI ((3 * j + v) % 3))).toInt64 = _
      rw [show (3 * j + v) / 3 = j by omega, show (3 * j + v) % 3 = v by omega, tellL_eq h hk (by omega)]
    rw [show 3 * (j + 1) = 3 * j + 2 + 1 by omega, st 2 (by omega), show 3 * j + 2 = 3 * j + 1 + 1 by omega, st 1 (by omega), show 3 * j + 1 = 3 * j + 0 + 1 by omega, st 0 (by omega), Nat.add_zero, ih]
    rfl
theorem dhs_eq {m : Int} {s : Nat → Int32} {C : CT} (h : Rel s (cY C)) (ho : okY m (cY C)) {k : Nat} (hk : k < 4) (h0 : Int64) : g_hsh h0 s k (sN (yS (cY C) k)) = d_hs C h0 k := by
  unfold g_hsh d_hs
  rw [dS_eq h ho hk, dL_eq h hk _ _ (Nat.le_refl _), brk_eq (h.1 k hk) (ho.1 k hk) (h.2.2.1 3 (by omega)), reason_eq h ho hk (by omega), would_eq h ho hk (by omega) (by unfold iB; decide)]
theorem dK_eq {m : Int} {s : Nat → Int32} {C : CT} (h : Rel s (cY C)) (ho : okY m (cY C)) (h0 : Int64) : ∀ k, k ≤ 4 → g_dK h0 s k = d_K C h0 k
  | 0, _ => rfl
  | k + 1, hk => by
    show g_hsh (g_dK h0 s k) s k (Nn s k) = d_hs (d_T C k) (d_K C h0 k) k
    rw [(h.1 k (by omega)).Nn (ho.1 k (by omega)).1, dK_eq h ho h0 k (by omega)]
    exact dhs_eq (C := d_T C k) h ho (by omega) _
theorem dJ_eq {s : Nat → Int32} {C : CT} (h : Rel s (cY C)) (h0 : Int64) : ∀ j, j ≤ 6 → g_dJ h0 s (2 * j) = d_J C h0 j
  | 0, _ => rfl
  | j + 1, hj => by
    have e0 : s (106 + 2 * j) = y_tellH (cY C) j 0 := tellH_eq (i := 0) h (by omega) (by omega)
    have e1 : s (106 + (2 * j + 1)) = y_tellH (cY C) j 1 := tellH_eq (i := 1) h (by omega) (by omega)
    rw [show 2 * (j + 1) = 2 * j + 1 + 1 by omega]
    show 31 * (31 * g_dJ h0 s (2 * j) + (s (106 + 2 * j)).toInt64) + (s (106 + (2 * j + 1))).toInt64 = 31 * (31 * d_J C h0 j + (y_tellH (cY C) j 0).toInt64) + (y_tellH (cY C) j 1).toInt64
    rw [dJ_eq h h0 j (by omega), e0, e1]
theorem dB_eq {C : CT} {b : Nat → Int32} (h0 : Int64) : ∀ n, (∀ k, k < n → b k = cB C k) → g_dB h0 b n = d_B C h0 n
  | 0, _ => rfl
  | n + 1, h => by
    show 31 * g_dB h0 b n + (b n).toInt64 = 31 * d_B C h0 n + (cB C n).toInt64
    rw [dB_eq h0 n (fun k hk => h k (by omega)), h n (by omega)]
theorem digest_eq {m : Int} {s : Nat → Int32} {C : CT} {b : Nat → Int32} (h : Rel s (cY C)) (ho : okY m (cY C)) (hm : m < 1073741000) (hb : ∀ k, k < cL C → b k = cB C k) : g_dB (g_d2 s (nI (cQ C)) (cL C)) b (cL C) = d_2 C 3533 (y_softD (cY C)).toInt64 := by
  unfold d_2
  rw [dB_eq _ _ hb]
  unfold g_d2 d_1
  have e1 : g_d1 s (nI (cQ C)) = d_J C (d_K C (d_N C 3533 15) 4) 6 := by
    unfold g_d1
    rw [dN_eq h ho, dK_eq h ho _ 4 (by omega), show 12 = 2 * 6 from rfl, dJ_eq h _ 6 (by omega)]
  rw [e1, urgent_eq h ho (by omega), nextArch_eq h ho hm, softD_eq h ho]
