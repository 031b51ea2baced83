theorem nd_mul {E T k : Nat} {w : UInt64} (h1 : 1 ≤ E) (h2 : E + k ≤ 2046) (hT : T < 4503599627370496) (hk : k ≤ 52) (hw : FP.Core.decode FP.Core.b64 w.toNat = .fin false (2 ^ 52) ((k : Int) - 52)) : FP.dmul (nd E T) w = nd (E + k) T := by
  show UInt64.ofNat (FP.Core.encode FP.Core.b64 (FP.Core.round FP.Core.b64 (FP.Core.exactProduct (FP.Core.decode FP.Core.b64 (nd E T).toNat) (FP.Core.decode FP.Core.b64 w.toNat)))) = _
  rw [nd_dec h1 (by omega) hT, hw]
  have e1 : FP.Core.round FP.Core.b64 (FP.Core.exactProduct (.fin false (4503599627370496 + T) ((E : Int) - 1075)) (.fin false (2 ^ 52) ((k : Int) - 52))) = .fin false (4503599627370496 + T) ((E : Int) - 1075 + ((k : Int) - 52) + (52 : Nat)) := by
    show FP.Core.roundRatio FP.Core.b64 (false != false) ((4503599627370496 + T) * 2 ^ 52) 1 ((E : Int) - 1075 + ((k : Int) - 52)) = _
    exact round1 (by omega) (by omega) (by omega) (by omega)
  rw [e1, nd_enc (by omega) (by omega) (by omega) (by omega)]
  rw [show ((E : Int) - 1075 + ((k : Int) - 52) + ((52 : Nat) : Int) + 1075).toNat = E + k by omega, show 4503599627370496 + T - 4503599627370496 = T by omega]
theorem two_dec : FP.Core.decode FP.Core.b64 (4611686018427387904 : UInt64).toNat = .fin false (2 ^ 52) (((1 : Nat) : Int) - 52) := by decide +kernel
theorem p52_dec : FP.Core.decode FP.Core.b64 (4841369599423283200 : UInt64).toNat = .fin false (2 ^ 52) (((52 : Nat) : Int) - 52) := by decide +kernel
theorem one_dec : FP.Core.decode FP.Core.b64 FP.dconst1.toNat = .fin false 4503599627370496 (-52) := by decide +kernel
theorem zero_dec : FP.Core.decode FP.Core.b64 FP.dconst0.toNat = .fin false 0 (-1074) := by decide +kernel
theorem b_h_nd {E T : Nat} (h1 : 1 ≤ E) (hT : T < 4503599627370496) : ∀ i, E + i ≤ 2046 → b_h (nd E T) i = nd (E + i) T
  | 0, _ => rfl
  | i + 1, h => by
    have e : b_h (nd E T) (i + 1) = FP.dmul (b_h (nd E T) i) 4611686018427387904 := rfl
    rw [e, b_h_nd h1 hT i (by omega), nd_mul (k := 1) (by omega) (by omega) hT (by omega) two_dec, Nat.add_assoc]
theorem nd_vf {E T : Nat} (h : E ≤ 2046) (hT : T < 4503599627370496) : vf_n64 (nd E T) := by
  unfold vf_n64
  rw [UInt64.le_iff_toNat_le, UInt64.toNat_and, nd_toNat (by omega) hT]
  have := Nat.and_le_left (n := E * 4503599627370496 + T) (m := (9223372036854775807 : UInt64).toNat)
  have e : (9218868437227405312 : UInt64).toNat = 9218868437227405312 := by decide +kernel
  rw [e]
  omega
theorem cmp_lt1 {E T : Nat} (h1 : 1 ≤ E) (h2 : E < 1023) (hT : T < 4503599627370496) : FP.dcmp (nd E T) FP.dconst1 = some .lt := by
  show FP.Core.order (FP.Core.decode FP.Core.b64 (nd E T).toNat) (FP.Core.decode FP.Core.b64 FP.dconst1.toNat) = _
  rw [nd_dec h1 (by omega) hT, one_dec]
  show some (compare (FP.Core.signed false (FP.Core.inUnits (4503599627370496 + T) ((E : Int) - 1075) (min ((E : Int) - 1075) (-52)))) (FP.Core.signed false (FP.Core.inUnits 4503599627370496 (-52) (min ((E : Int) - 1075) (-52))))) = _
  rw [show min ((E : Int) - 1075) (-52) = (E : Int) - 1075 by omega]
  unfold FP.Core.inUnits FP.Core.signed
  rw [show ((E : Int) - 1075 - ((E : Int) - 1075)).toNat = 0 by omega, Nat.pow_zero, Nat.mul_one]
  obtain ⟨d, hd⟩ : ∃ d, (-52 - ((E : Int) - 1075)).toNat = d + 1 := ⟨(-52 - ((E : Int) - 1075)).toNat - 1, by omega⟩
  rw [hd]
  have h3 := Nat.two_pow_pos d
  have h4 : 4503599627370496 * 2 ^ (d + 1) ≥ 9007199254740992 := by
    rw [Nat.pow_succ]
    omega
  congr 1
  show compare ((4503599627370496 + T : Nat) : Int) ((4503599627370496 * 2 ^ (d + 1) : Nat) : Int) = _
  exact Int.compare_eq_lt.mpr (by omega)
theorem cmp_ge1 {T : Nat} (hT : T < 4503599627370496) : FP.dcmp (nd 1023 T) FP.dconst1 = some .eq ∨ FP.dcmp (nd 1023 T) FP.dconst1 = some .gt := by
  have e : FP.dcmp (nd 1023 T) FP.dconst1 = some (compare ((4503599627370496 + T : Nat) : Int) ((4503599627370496 : Nat) : Int)) := by
    show FP.Core.order (FP.Core.decode FP.Core.b64 (nd 1023 T).toNat) (FP.Core.decode FP.Core.b64 FP.dconst1.toNat) = _
    rw [nd_dec (by omega) (by omega) hT, one_dec]
    show some (compare (FP.Core.signed false (FP.Core.inUnits (4503599627370496 + T) (((1023 : Nat) : Int) - 1075) (min (((1023 : Nat) : Int) - 1075) (-52)))) (FP.Core.signed false (FP.Core.inUnits 4503599627370496 (-52) (min (((1023 : Nat) : Int) - 1075) (-52))))) = _
    rw [show min (((1023 : Nat) : Int) - 1075) (-52) = -52 by omega, show (((1023 : Nat) : Int) - 1075) = -52 by omega]
    unfold FP.Core.inUnits FP.Core.signed
    rw [show ((-52 : Int) - -52).toNat = 0 by omega, Nat.pow_zero, Nat.mul_one, Nat.mul_one]
    rfl
  rw [e]
  by_cases h : T = 0
  · left
    rw [Int.compare_eq_eq.mpr (by omega)]
  · right
    rw [Int.compare_eq_gt.mpr (by omega)]
theorem cmp_gt0 {E T : Nat} (h1 : 1 ≤ E) (h2 : E ≤ 2046) (hT : T < 4503599627370496) : FP.dcmp (nd E T) FP.dconst0 = some .gt := by
  show FP.Core.order (FP.Core.decode FP.Core.b64 (nd E T).toNat) (FP.Core.decode FP.Core.b64 FP.dconst0.toNat) = _
  rw [nd_dec h1 h2 hT, zero_dec]
  show some (compare (FP.Core.signed false (FP.Core.inUnits (4503599627370496 + T) ((E : Int) - 1075) (min ((E : Int) - 1075) (-1074)))) (FP.Core.signed false (FP.Core.inUnits 0 (-1074) (min ((E : Int) - 1075) (-1074))))) = _
  unfold FP.Core.inUnits FP.Core.signed
  have h3 := Nat.two_pow_pos ((E : Int) - 1075 - min ((E : Int) - 1075) (-1074)).toNat
  have h4 : 0 < (4503599627370496 + T) * 2 ^ ((E : Int) - 1075 - min ((E : Int) - 1075) (-1074)).toNat := Nat.mul_pos (by omega) h3
  rw [Nat.zero_mul]
  congr 1
  show compare (((4503599627370496 + T) * 2 ^ ((E : Int) - 1075 - min ((E : Int) - 1075) (-1074)).toNat : Nat) : Int) ((0 : Nat) : Int) = _
  exact Int.compare_eq_gt.mpr (by omega)
theorem cmp_self {E T : Nat} (h1 : 1 ≤ E) (h2 : E ≤ 2046) (hT : T < 4503599627370496) : FP.dcmp (nd E T) (nd E T) = some .eq := by
  show FP.Core.order (FP.Core.decode FP.Core.b64 (nd E T).toNat) (FP.Core.decode FP.Core.b64 (nd E T).toNat) = _
  rw [nd_dec h1 h2 hT]
  show some (compare (FP.Core.signed false _) (FP.Core.signed false _)) = _
  congr 1
  exact Int.compare_eq_eq.mpr rfl
theorem d2l_nd {T k : Nat} (hT : T < 4503599627370496) (hk : k ≤ 52) (h1 : 4503599627370496 ≤ T * 2 ^ (52 - k)) (h2 : T * 2 ^ (52 - k) < 9007199254740992) : FP.d2l (nd (k + 1023) (T * 2 ^ (52 - k) - 4503599627370496)) = Int64.ofNat T := by
  show FP.Core.toL (FP.Core.decode FP.Core.b64 (nd (k + 1023) (T * 2 ^ (52 - k) - 4503599627370496)).toNat) = _
  rw [nd_dec (by omega) (by omega) (by omega), show 4503599627370496 + (T * 2 ^ (52 - k) - 4503599627370496) = T * 2 ^ (52 - k) by omega]
  unfold FP.Core.toL FP.Core.toInt
  show Int64.ofInt (max (-2 ^ 63) (min (2 ^ 63 - 1) (FP.Core.truncate false (T * 2 ^ (52 - k)) (((k + 1023 : Nat) : Int) - 1075)))) = _
  have e : FP.Core.truncate false (T * 2 ^ (52 - k)) (((k + 1023 : Nat) : Int) - 1075) = (T : Int) := by
    unfold FP.Core.truncate FP.Core.signed
    rw [show (((k + 1023 : Nat) : Int) - 1075).toNat = 0 by omega, show (-(((k + 1023 : Nat) : Int) - 1075)).toNat = 52 - k by omega, Nat.pow_zero, Nat.mul_one, Nat.mul_div_cancel _ (Nat.two_pow_pos _)]
    rfl
  rw [e, show max (-2 ^ 63 : Int) (min (2 ^ 63 - 1) (T : Int)) = (T : Int) by omega]
  rfl
theorem sub1_nd {T : Nat} (hT : T < 4503599627370496) : vf_n64 (FP.dsub (nd 1023 T) FP.dconst1) ∧ vf_n64 (FP.dmul (FP.dsub (nd 1023 T) FP.dconst1) 4841369599423283200) ∧ FP.d2l (FP.dmul (FP.dsub (nd 1023 T) FP.dconst1) 4841369599423283200) = Int64.ofNat T := by
  have e : FP.dsub (nd 1023 T) FP.dconst1 = UInt64.ofNat (FP.Core.encode FP.Core.b64 (FP.Core.roundRatio FP.Core.b64 false T 1 (-52))) := by
    show UInt64.ofNat (FP.Core.encode FP.Core.b64 (FP.Core.round FP.Core.b64 (FP.Core.exactSum (FP.Core.decode FP.Core.b64 (nd 1023 T).toNat) (FP.Core.negate (FP.Core.decode FP.Core.b64 FP.dconst1.toNat))))) = _
    rw [nd_dec (by omega) (by omega) hT, one_dec, show (((1023 : Nat) : Int) - 1075) = -52 by omega]
    have e2 : FP.Core.exactSum (.fin false (4503599627370496 + T) (-52)) (FP.Core.negate (.fin false 4503599627370496 (-52))) = .fin false T (-52) := by
      have e3 : FP.Core.sumUnits false (4503599627370496 + T) (-52) true 4503599627370496 (-52) (-52) = (T : Int) := by
        unfold FP.Core.sumUnits FP.Core.inUnits FP.Core.signed
        rw [show ((-52 : Int) - -52).toNat = 0 by omega, Nat.pow_zero, Nat.mul_one, Nat.mul_one]
        show ((4503599627370496 + T : Nat) : Int) + -((4503599627370496 : Nat) : Int) = _
        omega
      show FP.Core.Datum.fin (FP.Core.sumSign false true (FP.Core.sumUnits false (4503599627370496 + T) (-52) true 4503599627370496 (-52) (min (-52) (-52)))) (FP.Core.sumUnits false (4503599627370496 + T) (-52) true 4503599627370496 (-52) (min (-52) (-52))).natAbs (min (-52) (-52)) = _
      rw [show min (-52 : Int) (-52) = -52 by omega, e3]
      have e4 : FP.Core.sumSign false true (T : Int) = false := by
        unfold FP.Core.sumSign
        split
        · rfl
        · exact decide_eq_false (by omega)
      rw [e4, Int.natAbs_natCast]
    rw [e2]
    rfl
  by_cases h0 : T = 0
  · subst h0
    have e0 : FP.dsub (nd 1023 0) FP.dconst1 = 0 := by decide +kernel
    rw [e0]
    refine ⟨?_, ?_, ?_⟩
    · unfold vf_n64; decide +kernel
    · unfold vf_n64; decide +kernel
    · decide +kernel
  · obtain ⟨k, k1, k2, k3, k4, k5, k6⟩ := round2 (x := T) (e := -52) (by omega) (by omega) (by omega) (by omega)
    rw [e, k6, nd_enc k4 k5 (by omega) (by omega), show ((-52 : Int) + k - 52 + 1075).toNat = k + 971 by omega]
    have e2 := nd_mul (E := k + 971) (T := T * 2 ^ (52 - k) - 4503599627370496) (k := 52) (by omega) (by omega) (by omega) (by omega) p52_dec
    rw [e2]
    exact ⟨nd_vf (by omega) (by omega), nd_vf (by omega) (by omega), d2l_nd hT k1 k4 k5⟩
theorem b_e_sh : ∀ i, i < 124 → b_e i <<< ((52 : Int32).toInt64 &&& 63) = Int64.ofNat ((1023 - i) * 4503599627370496) := by decide +kernel
theorem b_v_nd {E T : Nat} (h1 : 900 ≤ E) (h2 : E ≤ 1023) (hT : T < 4503599627370496) : b_v (nd E T) (1023 - E) = (nd E T).toInt64 := by
  unfold b_v
  rw [b_h_nd (by omega) hT _ (by omega), show E + (1023 - E) = 1023 by omega, (sub1_nd hT).2.2, b_e_sh _ (by omega), show 1023 - (1023 - E) = E by omega, ← Int64.ofNat_add]
  rfl
