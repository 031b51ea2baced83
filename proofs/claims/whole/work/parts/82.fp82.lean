theorem i2d_dec {A : Int32} {a : Nat} (h : A.toInt = a) (h0 : 0 < a) (h1 : a < 9007199254740992) : ∃ k : Nat, k ≤ 52 ∧ 2 ^ k ≤ a ∧ a < 2 ^ (k + 1) ∧ 4503599627370496 ≤ a * 2 ^ (52 - k) ∧ a * 2 ^ (52 - k) < 9007199254740992 ∧ FP.Core.decode FP.Core.b64 (FP.i2d A).toNat = .fin false (a * 2 ^ (52 - k)) ((k : Int) - 52) := by
  obtain ⟨k, b1, b2, b3, b4, b5, b6⟩ := round2 (e := 0) h0 h1 (by omega) (by omega)
  refine ⟨k, b1, b2, b3, b4, b5, ?_⟩
  show FP.Core.decode FP.Core.b64 (UInt64.ofNat (FP.Core.encode FP.Core.b64 (FP.Core.round FP.Core.b64 (FP.Core.ofInt A.toInt)))).toNat = _
  have e1 : FP.Core.round FP.Core.b64 (FP.Core.ofInt A.toInt) = .fin false (a * 2 ^ (52 - k)) ((k : Int) - 52) := by
    unfold FP.Core.ofInt
    rw [h]
    show FP.Core.roundRatio FP.Core.b64 (decide ((a : Int) < 0)) (a : Int).natAbs 1 0 = _
    rw [show decide ((a : Int) < 0) = false from decide_eq_false (by omega), Int.natAbs_natCast, b6, show (0 : Int) + k - 52 = (k : Int) - 52 by omega]
  rw [e1]
  exact nd_of b4 b5 (by omega) (by omega)
theorem near_B {N D lo hi : Nat} (hD : 0 < D) (h1 : lo * D ≤ N) (h2 : N < hi * D) : lo ≤ FP.Core.nearest N D ∧ FP.Core.nearest N D ≤ hi := by
  have q1 : lo ≤ N / D := (Nat.le_div_iff_mul_le hD).mpr h1
  have q2 : N / D < hi := (Nat.div_lt_iff_lt_mul hD).mpr h2
  unfold FP.Core.nearest
  split
  · omega
  · split
    · omega
    · have : N / D % 2 < 2 := Nat.mod_lt _ (by omega)
      omega
theorem lead_eq {A B : Nat} (a1 : 4503599627370496 ≤ A) (a2 : A < 9007199254740992) (b1 : 4503599627370496 ≤ B) (b2 : B < 9007199254740992) : FP.Core.leading A B = if B ≤ A then 0 else -1 := by
  unfold FP.Core.leading
  rw [log_52 a1 a2, log_52 b1 b2]
  show (if B * 2 ^ (((52 : Nat) : Int) - ((52 : Nat) : Int)).toNat ≤ A * 2 ^ (-(((52 : Nat) : Int) - ((52 : Nat) : Int))).toNat then ((52 : Nat) : Int) - ((52 : Nat) : Int) else ((52 : Nat) : Int) - ((52 : Nat) : Int) - 1) = _
  rw [show (((52 : Nat) : Int) - ((52 : Nat) : Int)).toNat = 0 by omega, show (-(((52 : Nat) : Int) - ((52 : Nat) : Int))).toNat = 0 by omega, Nat.pow_zero, Nat.mul_one, Nat.mul_one]
  split <;> omega
theorem div_form {A B : Nat} {e : Int} (a1 : 4503599627370496 ≤ A) (a2 : A < 9007199254740992) (b1 : 4503599627370496 ≤ B) (b2 : B < 9007199254740992) (he : e ≤ 0) (he2 : -20 ≤ e) (h1 : e = 0 → A ≤ B) :
    ∃ (C : Nat) (Q : Int), FP.Core.roundRatio FP.Core.b64 false A B e = .fin false C Q ∧ 4503599627370496 ≤ C ∧ C < 9007199254740992 ∧ Q ≤ -52 ∧ -80 ≤ Q := by
  unfold FP.Core.roundRatio
  rw [if_neg (by omega)]
  by_cases hBA : B ≤ A
  · have hq : FP.Core.quantum FP.Core.b64 A B e = e - 52 := by
      unfold FP.Core.quantum
      rw [lead_eq a1 a2 b1 b2, if_pos hBA, f_qmin, f_pp]
      omega
    rw [hq]
    unfold FP.Core.roundAt FP.Core.unitsNum FP.Core.unitsDen
    rw [show (e - (e - 52)).toNat = 52 by omega, show (e - 52 - e).toNat = 0 by omega, Nat.pow_zero, Nat.mul_one, f_52]
    have hn := near_B (N := A * 4503599627370496) (D := B) (lo := 4503599627370496) (hi := 9007199254740992) (by omega) (by omega) (by omega)
    by_cases hc : FP.Core.nearest (A * 4503599627370496) B < 9007199254740992
    · refine ⟨_, e - 52, ?_, hn.1, hc, by omega, by omega⟩
      unfold FP.Core.settle FP.Core.bound
      rw [f_2p, f_qmax, if_pos hc, if_pos (by omega)]
    · have he0 : ¬ e = 0 := fun q => by
        have hAB : A = B := by have := h1 q; omega
        apply hc
        rw [hAB]
        unfold FP.Core.nearest
        rw [Nat.mul_mod_right, if_pos (by omega), Nat.mul_div_cancel_left _ (by omega)]
        omega
      refine ⟨4503599627370496, e - 52 + 1, ?_, by omega, by omega, by omega, by omega⟩
      unfold FP.Core.settle FP.Core.bound
      rw [f_2p, f_qmax, if_neg hc, if_pos (by omega), f_tails]
  · have hq : FP.Core.quantum FP.Core.b64 A B e = e - 53 := by
      unfold FP.Core.quantum
      rw [lead_eq a1 a2 b1 b2, if_neg hBA, f_qmin, f_pp]
      omega
    rw [hq]
    unfold FP.Core.roundAt FP.Core.unitsNum FP.Core.unitsDen
    rw [show (e - (e - 53)).toNat = 53 by omega, show (e - 53 - e).toNat = 0 by omega, Nat.pow_zero, Nat.mul_one, show (2 : Nat) ^ 53 = 9007199254740992 by decide +kernel]
    have hn := near_B (N := A * 9007199254740992) (D := B) (lo := 4503599627370496) (hi := 9007199254740992) (by omega) (by omega) (by omega)
    by_cases hc : FP.Core.nearest (A * 9007199254740992) B < 9007199254740992
    · refine ⟨_, e - 53, ?_, hn.1, hc, by omega, by omega⟩
      unfold FP.Core.settle FP.Core.bound
      rw [f_2p, f_qmax, if_pos hc, if_pos (by omega)]
    · refine ⟨4503599627370496, e - 53 + 1, ?_, by omega, by omega, by omega, by omega⟩
      unfold FP.Core.settle FP.Core.bound
      rw [f_2p, f_qmax, if_neg hc, if_pos (by omega), f_tails]
theorem ddiv_nd {A B : Int32} {a b : Nat} (hA : A.toInt = a) (hB : B.toInt = b) (h0 : 0 < a) (h1 : a ≤ b) (h2 : b < 8192) : ∃ E T : Nat, 900 ≤ E ∧ E ≤ 1023 ∧ T < 4503599627370496 ∧ FP.ddiv (FP.i2d A) (FP.i2d B) = nd E T := by
  obtain ⟨k, k1, k2, k3, k4, k5, k6⟩ := i2d_dec hA h0 (by omega)
  obtain ⟨l, l1, l2, l3, l4, l5, l6⟩ := i2d_dec hB (by omega) (by omega)
  have hkl : k ≤ l := by
    have : 2 ^ k < 2 ^ (l + 1) := by omega
    have := (Nat.pow_lt_pow_iff_right (by omega : 1 < 2)).mp this
    omega
  have hl13 : l < 13 := by
    have : 2 ^ l < 2 ^ 13 := by omega
    exact (Nat.pow_lt_pow_iff_right (by omega : 1 < 2)).mp this
  have hq : FP.Core.quotient FP.Core.b64 (.fin false (a * 2 ^ (52 - k)) ((k : Int) - 52)) (.fin false (b * 2 ^ (52 - l)) ((l : Int) - 52)) = FP.Core.roundRatio FP.Core.b64 false (a * 2 ^ (52 - k)) (b * 2 ^ (52 - l)) (((k : Int) - 52) - ((l : Int) - 52)) := by
    unfold FP.Core.quotient
    show (if b * 2 ^ (52 - l) = 0 then _ else _) = _
    rw [if_neg (by omega)]
    rfl
  obtain ⟨C, Q, r1, r2, r3, r4, r5⟩ := div_form (e := ((k : Int) - 52) - ((l : Int) - 52)) k4 k5 l4 l5 (by omega) (by omega) (fun q => by
    have : k = l := by omega
    subst this
    exact Nat.mul_le_mul_right _ h1)
  refine ⟨(Q + 1075).toNat, C - 4503599627370496, by omega, by omega, by omega, ?_⟩
  show UInt64.ofNat (FP.Core.encode FP.Core.b64 (FP.Core.quotient FP.Core.b64 (FP.Core.decode FP.Core.b64 (FP.i2d A).toNat) (FP.Core.decode FP.Core.b64 (FP.i2d B).toNat))) = _
  rw [k6, l6, hq, r1]
  exact nd_enc r2 r3 (by omega) (by omega)
theorem ddiv_0 {A B : Int32} {b : Nat} (hA : A.toInt = 0) (hB : B.toInt = b) (h1 : 0 < b) (h2 : b < 8192) : FP.ddiv (FP.i2d A) (FP.i2d B) = 0 := by
  obtain ⟨l, l1, l2, l3, l4, l5, l6⟩ := i2d_dec hB h1 (by omega)
  have hA0 : A = 0 := by rw [i_eq, hA]; decide
  have d0 : FP.Core.decode FP.Core.b64 (FP.i2d A).toNat = .fin false 0 (-1074) := by rw [hA0]; decide +kernel
  show UInt64.ofNat (FP.Core.encode FP.Core.b64 (FP.Core.quotient FP.Core.b64 (FP.Core.decode FP.Core.b64 (FP.i2d A).toNat) (FP.Core.decode FP.Core.b64 (FP.i2d B).toNat))) = _
  rw [l6, d0]
  have hq : FP.Core.quotient FP.Core.b64 (.fin false 0 (-1074)) (.fin false (b * 2 ^ (52 - l)) ((l : Int) - 52)) = .fin false 0 (-1074) := by
    unfold FP.Core.quotient
    show (if b * 2 ^ (52 - l) = 0 then _ else _) = _
    rw [if_neg (by omega)]
    unfold FP.Core.roundRatio
    rw [if_pos rfl, f_qmin]
    rfl
  rw [hq]
  decide +kernel
