/-! SOFTNESS: a double from 0 to 1 (taken from whole; said sharper: at 1 it is 1 itself) -/
theorem f_tails : FP.Core.Fmt.tails FP.Core.b64 = 4503599627370496 := by decide +kernel
theorem f_exps : FP.Core.Fmt.exps FP.Core.b64 = 2048 := by decide +kernel
theorem f_qmin : FP.Core.Fmt.qmin FP.Core.b64 = -1074 := by decide +kernel
theorem f_qmax : FP.Core.Fmt.qmax FP.Core.b64 = 971 := by decide +kernel
theorem f_pp : FP.Core.b64.p = 53 := rfl
theorem f_2p : 2 ^ FP.Core.b64.p = 9007199254740992 := by decide +kernel
theorem f_52 : 2 ^ 52 = 4503599627370496 := by decide +kernel
/-- the number of the biased exponent E and the trailing digits T -/
def nd (E T : Nat) : UInt64 := UInt64.ofNat (E * 4503599627370496 + T)
theorem nd_toNat {E T : Nat} (hE : E < 2048) (hT : T < 4503599627370496) : (nd E T).toNat = E * 4503599627370496 + T := by
  unfold nd
  rw [UInt64.toNat_ofNat']
  exact Nat.mod_eq_of_lt (by omega)
theorem nd_dec {E T : Nat} (h1 : 1 ≤ E) (h2 : E ≤ 2046) (hT : T < 4503599627370496) : FP.Core.decode FP.Core.b64 (nd E T).toNat = .fin false (4503599627370496 + T) ((E : Int) - 1075) := by
  rw [nd_toNat (by omega) hT]
  unfold FP.Core.decode FP.Core.fieldE FP.Core.fieldT FP.Core.fieldS
  rw [f_tails, f_exps, f_qmin]
  have e1 : (E * 4503599627370496 + T) / 4503599627370496 = E := by omega
  have e2 : (E * 4503599627370496 + T) % 4503599627370496 = T := by omega
  rw [e1, e2, Nat.mod_eq_of_lt (by omega : E < 2048), if_neg (by omega), if_neg (by omega), Nat.div_eq_of_lt (by omega : E < 2048)]
  rw [show (-1074 : Int) + ((E : Int) - 1) = (E : Int) - 1075 by omega]
  rfl
theorem nd_enc {c : Nat} {q : Int} (h1 : 4503599627370496 ≤ c) (h2 : c < 9007199254740992) (h3 : -1074 ≤ q) (h4 : q ≤ 971) : UInt64.ofNat (FP.Core.encode FP.Core.b64 (.fin false c q)) = nd (q + 1075).toNat (c - 4503599627370496) := by
  unfold FP.Core.encode
  show UInt64.ofNat (if c < FP.Core.b64.tails then FP.Core.assemble FP.Core.b64 false 0 c else FP.Core.assemble FP.Core.b64 false ((q - FP.Core.b64.qmin).toNat + 1) (c - FP.Core.b64.tails)) = _
  rw [f_tails, f_qmin, if_neg (by omega)]
  unfold FP.Core.assemble nd
  rw [f_tails, f_exps]
  refine congrArg UInt64.ofNat ?_
  show (0 * 2048 + ((q - -1074).toNat + 1)) * 4503599627370496 + (c - 4503599627370496) = _
  have : (q - -1074).toNat + 1 = (q + 1075).toNat := by omega
  omega
theorem log_52 {c : Nat} (h1 : 4503599627370496 ≤ c) (h2 : c < 9007199254740992) : c.log2 = 52 := by
  rw [Nat.log2_eq_iff (by omega)]
  exact ⟨by rw [f_52]; exact h1, by rw [show (2 : Nat) ^ (52 + 1) = 9007199254740992 by decide +kernel]; exact h2⟩
/-- what is exact stays as it is -/
theorem round1 {c k : Nat} {e : Int} (h1 : 4503599627370496 ≤ c) (h2 : c < 9007199254740992) (h3 : -1074 ≤ e + k) (h4 : e + k ≤ 971) : FP.Core.roundRatio FP.Core.b64 false (c * 2 ^ k) 1 e = .fin false c (e + k) := by
  have hk := Nat.two_pow_pos k
  have hc : c * 2 ^ k ≠ 0 := Nat.mul_ne_zero (by omega) (by omega)
  have hlog : (c * 2 ^ k).log2 = 52 + k := by
    rw [Nat.log2_eq_iff hc]
    refine ⟨?_, ?_⟩
    · rw [Nat.pow_add, f_52]; exact Nat.mul_le_mul_right _ h1
    · rw [show 52 + k + 1 = 53 + k by omega, Nat.pow_add, show (2 : Nat) ^ 53 = 9007199254740992 by decide +kernel]; exact Nat.mul_lt_mul_of_pos_right h2 hk
  have hlead : FP.Core.leading (c * 2 ^ k) 1 = 52 + k := by
    unfold FP.Core.leading
    rw [hlog, show Nat.log2 1 = 0 by decide +kernel]
    show (if 1 * 2 ^ (((52 + k : Nat) : Int) - ((0 : Nat) : Int)).toNat ≤ c * 2 ^ k * 2 ^ (-(((52 + k : Nat) : Int) - ((0 : Nat) : Int))).toNat then ((52 + k : Nat) : Int) - ((0 : Nat) : Int) else _) = _
    rw [if_pos]
    · omega
    · rw [show (((52 + k : Nat) : Int) - ((0 : Nat) : Int)).toNat = 52 + k by omega, show (-(((52 + k : Nat) : Int) - ((0 : Nat) : Int))).toNat = 0 by omega, Nat.one_mul, Nat.pow_zero, Nat.mul_one, Nat.pow_add, f_52]
      exact Nat.mul_le_mul_right _ h1
  have hq : FP.Core.quantum FP.Core.b64 (c * 2 ^ k) 1 e = e + k := by
    unfold FP.Core.quantum
    rw [hlead, f_qmin, f_pp]
    omega
  unfold FP.Core.roundRatio
  rw [if_neg hc, hq]
  unfold FP.Core.roundAt FP.Core.unitsNum FP.Core.unitsDen
  rw [show (e - (e + (k : Int))).toNat = 0 by omega, show (e + (k : Int) - e).toNat = k by omega, Nat.pow_zero, Nat.mul_one, Nat.one_mul]
  have hn : FP.Core.nearest (c * 2 ^ k) (2 ^ k) = c := by
    unfold FP.Core.nearest
    rw [Nat.mul_mod_left, if_pos (by omega), Nat.mul_div_cancel _ hk]
  rw [hn]
  unfold FP.Core.settle FP.Core.bound
  rw [f_2p, f_qmax, if_pos h2, if_pos h4]
/-- a whole number of at most 53 digits -/
theorem round2 {x : Nat} {e : Int} (h0 : 0 < x) (hx : x < 9007199254740992) (h3 : -1022 ≤ e) (h4 : e ≤ 900) : ∃ k : Nat, k ≤ 52 ∧ 2 ^ k ≤ x ∧ x < 2 ^ (k + 1) ∧ 4503599627370496 ≤ x * 2 ^ (52 - k) ∧ x * 2 ^ (52 - k) < 9007199254740992 ∧ FP.Core.roundRatio FP.Core.b64 false x 1 e = .fin false (x * 2 ^ (52 - k)) (e + k - 52) := by
  have l1 : 2 ^ x.log2 ≤ x := Nat.log2_self_le (by omega)
  have l2 : x < 2 ^ (x.log2 + 1) := Nat.lt_log2_self
  have hk : x.log2 ≤ 52 := by
    have : x.log2 < 53 := (Nat.log2_lt (by omega)).mpr (by rw [show (2 : Nat) ^ 53 = 9007199254740992 by decide +kernel]; exact hx)
    omega
  generalize hl : x.log2 = k at l1 l2 hk
  have hp : 2 ^ k * 2 ^ (52 - k) = 4503599627370496 := by rw [← Nat.pow_add, show k + (52 - k) = 52 by omega, f_52]
  have hp1 : 2 ^ (k + 1) * 2 ^ (52 - k) = 9007199254740992 := by rw [← Nat.pow_add, show k + 1 + (52 - k) = 53 by omega]
  have hpos := Nat.two_pow_pos (52 - k)
  have c1 : 4503599627370496 ≤ x * 2 ^ (52 - k) := by rw [← hp]; exact Nat.mul_le_mul_right _ l1
  have c2 : x * 2 ^ (52 - k) < 9007199254740992 := by rw [← hp1]; exact Nat.mul_lt_mul_of_pos_right l2 hpos
  refine ⟨k, hk, l1, l2, c1, c2, ?_⟩
  have hlead : FP.Core.leading x 1 = k := by
    unfold FP.Core.leading
    rw [hl, show Nat.log2 1 = 0 by decide +kernel]
    show (if 1 * 2 ^ ((k : Int) - ((0 : Nat) : Int)).toNat ≤ x * 2 ^ (-((k : Int) - ((0 : Nat) : Int))).toNat then (k : Int) - ((0 : Nat) : Int) else _) = _
    rw [if_pos]
    · omega
    · rw [show ((k : Int) - ((0 : Nat) : Int)).toNat = k by omega, show (-((k : Int) - ((0 : Nat) : Int))).toNat = 0 by omega, Nat.one_mul, Nat.pow_zero, Nat.mul_one]
      exact l1
  have hq : FP.Core.quantum FP.Core.b64 x 1 e = e + k - 52 := by
    unfold FP.Core.quantum
    rw [hlead, f_qmin, f_pp]
    omega
  unfold FP.Core.roundRatio
  rw [if_neg (by omega), hq]
  unfold FP.Core.roundAt FP.Core.unitsNum FP.Core.unitsDen
  rw [show (e - (e + (k : Int) - 52)).toNat = 52 - k by omega, show (e + (k : Int) - 52 - e).toNat = 0 by omega, Nat.pow_zero, Nat.mul_one]
  have hn : FP.Core.nearest (x * 2 ^ (52 - k)) 1 = x * 2 ^ (52 - k) := by
    unfold FP.Core.nearest
    rw [Nat.mod_one, if_pos (by omega), Nat.div_one]
  rw [hn]
  unfold FP.Core.settle FP.Core.bound
  rw [f_2p, f_qmax, if_pos c2, if_pos (by omega)]
theorem nd_of {c : Nat} {q : Int} (h1 : 4503599627370496 ≤ c) (h2 : c < 9007199254740992) (h3 : -1074 ≤ q) (h4 : q ≤ 971) : FP.Core.decode FP.Core.b64 (UInt64.ofNat (FP.Core.encode FP.Core.b64 (.fin false c q))).toNat = .fin false c q := by
  rw [nd_enc h1 h2 h3 h4, nd_dec (by omega) (by omega) (by omega), show 4503599627370496 + (c - 4503599627370496) = c by omega, show ((q + 1075).toNat : Int) - 1075 = q by omega]

theorem i2d_dec {A : Int32} {a : Nat} (h : A.toInt = a) (h0 : 0 < a) (h1 : a < 9007199254740992) : ∃ k : Nat, k ≤ 52 ∧ 2 ^ k ≤ a ∧ a < 2 ^ (k + 1) ∧ 4503599627370496 ≤ a * 2 ^ (52 - k) ∧ a * 2 ^ (52 - k) < 9007199254740992 ∧ FP.Core.decode FP.Core.b64 (FP.i2d A).toNat = .fin false (a * 2 ^ (52 - k)) ((k : Int) - 52) := by
  obtain ⟨k, b1, b2, b3, b4, b5, b6⟩ := round2 (e := 0) h0 h1 (by omega) (by omega)
  refine ⟨k, b1, b2, b3, b4, b5, ?_⟩
  show FP.Core.decode FP.Core.b64 (UInt64.ofNat (FP.Core.encode FP.Core.b64 (FP.Core.round FP.Core.b64 (FP.Core.ofInt A.toInt)))).toNat = _
  have e1 : FP.Core.round FP.Core.b64 (FP.Core.ofInt A.toInt) = .fin false (a * 2 ^ (52 - k)) ((k : Int) - 52) := by
    unfold FP.Core.ofInt
    rw [h]
    show FP.Core.roundRatio FP.Core.b64 (decide ((a : Int) < 0)) (a : Int).natAbs 1 0 = _
    rw [show decide ((a : Int) < 0) = false from decide_eq_false (by omega), Int.natAbs_natCast, b6, show (0 : Int) + k - 52 = (k : Int) - 52 by omega]
  rw [e1]
  exact nd_of b4 b5 (by omega) (by omega)
theorem near_B {N D lo hi : Nat} (hD : 0 < D) (h1 : lo * D ≤ N) (h2 : N < hi * D) : lo ≤ FP.Core.nearest N D ∧ FP.Core.nearest N D ≤ hi := by
  have q1 : lo ≤ N / D := (Nat.le_div_iff_mul_le hD).mpr h1
  have q2 : N / D < hi := (Nat.div_lt_iff_lt_mul hD).mpr h2
  unfold FP.Core.nearest
  split
  · omega
  · split
    · omega
    · have : N / D % 2 < 2 := Nat.mod_lt _ (by omega)
      omega
theorem lead_eq {A B : Nat} (a1 : 4503599627370496 ≤ A) (a2 : A < 9007199254740992) (b1 : 4503599627370496 ≤ B) (b2 : B < 9007199254740992) : FP.Core.leading A B = if B ≤ A then 0 else -1 := by
  unfold FP.Core.leading
  rw [log_52 a1 a2, log_52 b1 b2]
  show (if B * 2 ^ (((52 : Nat) : Int) - ((52 : Nat) : Int)).toNat ≤ A * 2 ^ (-(((52 : Nat) : Int) - ((52 : Nat) : Int))).toNat then ((52 : Nat) : Int) - ((52 : Nat) : Int) else ((52 : Nat) : Int) - ((52 : Nat) : Int) - 1) = _
  rw [show (((52 : Nat) : Int) - ((52 : Nat) : Int)).toNat = 0 by omega, show (-(((52 : Nat) : Int) - ((52 : Nat) : Int))).toNat = 0 by omega, Nat.pow_zero, Nat.mul_one, Nat.mul_one]
  split <;> omega
theorem div_form {A B : Nat} {e : Int} (a1 : 4503599627370496 ≤ A) (a2 : A < 9007199254740992) (b1 : 4503599627370496 ≤ B) (b2 : B < 9007199254740992) (he : e ≤ 0) (he2 : -20 ≤ e) (h1 : e = 0 → A ≤ B) :
    ∃ (C : Nat) (Q : Int), FP.Core.roundRatio FP.Core.b64 false A B e = .fin false C Q ∧ 4503599627370496 ≤ C ∧ C < 9007199254740992 ∧ Q ≤ -52 ∧ -80 ≤ Q ∧ (Q = -52 → C = 4503599627370496) := by
  unfold FP.Core.roundRatio
  rw [if_neg (by omega)]
  by_cases hBA : B ≤ A
  · have hq : FP.Core.quantum FP.Core.b64 A B e = e - 52 := by
      unfold FP.Core.quantum
      rw [lead_eq a1 a2 b1 b2, if_pos hBA, f_qmin, f_pp]
      omega
    rw [hq]
    unfold FP.Core.roundAt FP.Core.unitsNum FP.Core.unitsDen
    rw [show (e - (e - 52)).toNat = 52 by omega, show (e - 52 - e).toNat = 0 by omega, Nat.pow_zero, Nat.mul_one, f_52]
    have hn := near_B (N := A * 4503599627370496) (D := B) (lo := 4503599627370496) (hi := 9007199254740992) (by omega) (by omega) (by omega)
    by_cases hc : FP.Core.nearest (A * 4503599627370496) B < 9007199254740992
    · refine ⟨_, e - 52, ?_, hn.1, hc, by omega, by omega, fun q => ?_⟩
      rotate_left
      · have hAB : A = B := by have := h1 (by omega); omega
        rw [hAB]
        unfold FP.Core.nearest
        rw [Nat.mul_mod_right, if_pos (by omega), Nat.mul_div_cancel_left _ (by omega)]
      unfold FP.Core.settle FP.Core.bound
      rw [f_2p, f_qmax, if_pos hc, if_pos (by omega)]
    · have he0 : ¬ e = 0 := fun q => by
        have hAB : A = B := by have := h1 q; omega
        apply hc
        rw [hAB]
        unfold FP.Core.nearest
        rw [Nat.mul_mod_right, if_pos (by omega), Nat.mul_div_cancel_left _ (by omega)]
        omega
      refine ⟨4503599627370496, e - 52 + 1, ?_, by omega, by omega, by omega, by omega, fun _ => rfl⟩
      unfold FP.Core.settle FP.Core.bound
      rw [f_2p, f_qmax, if_neg hc, if_pos (by omega), f_tails]
  · have hq : FP.Core.quantum FP.Core.b64 A B e = e - 53 := by
      unfold FP.Core.quantum
      rw [lead_eq a1 a2 b1 b2, if_neg hBA, f_qmin, f_pp]
      omega
    rw [hq]
    unfold FP.Core.roundAt FP.Core.unitsNum FP.Core.unitsDen
    rw [show (e - (e - 53)).toNat = 53 by omega, show (e - 53 - e).toNat = 0 by omega, Nat.pow_zero, Nat.mul_one, show (2 : Nat) ^ 53 = 9007199254740992 by decide +kernel]
    have hn := near_B (N := A * 9007199254740992) (D := B) (lo := 4503599627370496) (hi := 9007199254740992) (by omega) (by omega) (by omega)
    by_cases hc : FP.Core.nearest (A * 9007199254740992) B < 9007199254740992
    · refine ⟨_, e - 53, ?_, hn.1, hc, by omega, by omega, fun q => by omega⟩
      unfold FP.Core.settle FP.Core.bound
      rw [f_2p, f_qmax, if_pos hc, if_pos (by omega)]
    · refine ⟨4503599627370496, e - 53 + 1, ?_, by omega, by omega, by omega, by omega, fun _ => rfl⟩
      unfold FP.Core.settle FP.Core.bound
      rw [f_2p, f_qmax, if_neg hc, if_pos (by omega), f_tails]
theorem ddiv_nd {A B : Int32} {a b : Nat} (hA : A.toInt = a) (hB : B.toInt = b) (h0 : 0 < a) (h1 : a ≤ b) (h2 : b < 8192) : ∃ E T : Nat, 900 ≤ E ∧ E ≤ 1023 ∧ T < 4503599627370496 ∧ (E = 1023 → T = 0) ∧ FP.ddiv (FP.i2d A) (FP.i2d B) = nd E T := by
  obtain ⟨k, k1, k2, k3, k4, k5, k6⟩ := i2d_dec hA h0 (by omega)
  obtain ⟨l, l1, l2, l3, l4, l5, l6⟩ := i2d_dec hB (by omega) (by omega)
  have hkl : k ≤ l := by
    have : 2 ^ k < 2 ^ (l + 1) := by omega
    have := (Nat.pow_lt_pow_iff_right (by omega : 1 < 2)).mp this
    omega
  have hl13 : l < 13 := by
    have : 2 ^ l < 2 ^ 13 := by omega
    exact (Nat.pow_lt_pow_iff_right (by omega : 1 < 2)).mp this
  have hq : FP.Core.quotient FP.Core.b64 (.fin false (a * 2 ^ (52 - k)) ((k : Int) - 52)) (.fin false (b * 2 ^ (52 - l)) ((l : Int) - 52)) = FP.Core.roundRatio FP.Core.b64 false (a * 2 ^ (52 - k)) (b * 2 ^ (52 - l)) (((k : Int) - 52) - ((l : Int) - 52)) := by
    unfold FP.Core.quotient
    show (if b * 2 ^ (52 - l) = 0 then _ else _) = _
    rw [if_neg (by omega)]
    rfl
  obtain ⟨C, Q, r1, r2, r3, r4, r5, r6⟩ := div_form (e := ((k : Int) - 52) - ((l : Int) - 52)) k4 k5 l4 l5 (by omega) (by omega) (fun q => by
    have : k = l := by omega
    subst this
    exact Nat.mul_le_mul_right _ h1)
  refine ⟨(Q + 1075).toNat, C - 4503599627370496, by omega, by omega, by omega, fun q => by have := r6 (by omega); omega, ?_⟩
  show UInt64.ofNat (FP.Core.encode FP.Core.b64 (FP.Core.quotient FP.Core.b64 (FP.Core.decode FP.Core.b64 (FP.i2d A).toNat) (FP.Core.decode FP.Core.b64 (FP.i2d B).toNat))) = _
  rw [k6, l6, hq, r1]
  exact nd_enc r2 r3 (by omega) (by omega)
theorem ddiv_0 {A B : Int32} {b : Nat} (hA : A.toInt = 0) (hB : B.toInt = b) (h1 : 0 < b) (h2 : b < 8192) : FP.ddiv (FP.i2d A) (FP.i2d B) = 0 := by
  obtain ⟨l, l1, l2, l3, l4, l5, l6⟩ := i2d_dec hB h1 (by omega)
  have hA0 : A = 0 := by rw [i_eq, hA]; decide
  have d0 : FP.Core.decode FP.Core.b64 (FP.i2d A).toNat = .fin false 0 (-1074) := by rw [hA0]; decide +kernel
  show UInt64.ofNat (FP.Core.encode FP.Core.b64 (FP.Core.quotient FP.Core.b64 (FP.Core.decode FP.Core.b64 (FP.i2d A).toNat) (FP.Core.decode FP.Core.b64 (FP.i2d B).toNat))) = _
  rw [l6, d0]
  have hq : FP.Core.quotient FP.Core.b64 (.fin false 0 (-1074)) (.fin false (b * 2 ^ (52 - l)) ((l : Int) - 52)) = .fin false 0 (-1074) := by
    unfold FP.Core.quotient
    show (if b * 2 ^ (52 - l) = 0 then _ else _) = _
    rw [if_neg (by omega)]
    unfold FP.Core.roundRatio
    rw [if_pos rfl, f_qmin]
    rfl
  rw [hq]
  decide +kernel

theorem one_dec : FP.Core.decode FP.Core.b64 FP.dconst1.toNat = .fin false 4503599627370496 (-52) := by decide +kernel
theorem zero_dec : FP.Core.decode FP.Core.b64 FP.dconst0.toNat = .fin false 0 (-1074) := by decide +kernel
theorem nd_vf {E T : Nat} (h : E ≤ 2046) (hT : T < 4503599627370496) : vf_n64 (nd E T) := by
  unfold vf_n64
  rw [UInt64.le_iff_toNat_le, UInt64.toNat_and, nd_toNat (by omega) hT]
  have := Nat.and_le_left (n := E * 4503599627370496 + T) (m := (9223372036854775807 : UInt64).toNat)
  have e : (9218868437227405312 : UInt64).toNat = 9218868437227405312 := by decide +kernel
  rw [e]
  omega
theorem cmp_lt1 {E T : Nat} (h1 : 1 ≤ E) (h2 : E < 1023) (hT : T < 4503599627370496) : FP.dcmp (nd E T) FP.dconst1 = some .lt := by
  show FP.Core.order (FP.Core.decode FP.Core.b64 (nd E T).toNat) (FP.Core.decode FP.Core.b64 FP.dconst1.toNat) = _
  rw [nd_dec h1 (by omega) hT, one_dec]
  show some (compare (FP.Core.signed false (FP.Core.inUnits (4503599627370496 + T) ((E : Int) - 1075) (min ((E : Int) - 1075) (-52)))) (FP.Core.signed false (FP.Core.inUnits 4503599627370496 (-52) (min ((E : Int) - 1075) (-52))))) = _
  rw [show min ((E : Int) - 1075) (-52) = (E : Int) - 1075 by omega]
  unfold FP.Core.inUnits FP.Core.signed
  rw [show ((E : Int) - 1075 - ((E : Int) - 1075)).toNat = 0 by omega, Nat.pow_zero, Nat.mul_one]
  obtain ⟨d, hd⟩ : ∃ d, (-52 - ((E : Int) - 1075)).toNat = d + 1 := ⟨(-52 - ((E : Int) - 1075)).toNat - 1, by omega⟩
  rw [hd]
  have h3 := Nat.two_pow_pos d
  have h4 : 4503599627370496 * 2 ^ (d + 1) ≥ 9007199254740992 := by
    rw [Nat.pow_succ]
    omega
  congr 1
  show compare ((4503599627370496 + T : Nat) : Int) ((4503599627370496 * 2 ^ (d + 1) : Nat) : Int) = _
  exact Int.compare_eq_lt.mpr (by omega)
theorem cmp_ge1 {T : Nat} (hT : T < 4503599627370496) : FP.dcmp (nd 1023 T) FP.dconst1 = some .eq ∨ FP.dcmp (nd 1023 T) FP.dconst1 = some .gt := by
  have e : FP.dcmp (nd 1023 T) FP.dconst1 = some (compare ((4503599627370496 + T : Nat) : Int) ((4503599627370496 : Nat) : Int)) := by
    show FP.Core.order (FP.Core.decode FP.Core.b64 (nd 1023 T).toNat) (FP.Core.decode FP.Core.b64 FP.dconst1.toNat) = _
    rw [nd_dec (by omega) (by omega) hT, one_dec]
    show some (compare (FP.Core.signed false (FP.Core.inUnits (4503599627370496 + T) (((1023 : Nat) : Int) - 1075) (min (((1023 : Nat) : Int) - 1075) (-52)))) (FP.Core.signed false (FP.Core.inUnits 4503599627370496 (-52) (min (((1023 : Nat) : Int) - 1075) (-52))))) = _
    rw [show min (((1023 : Nat) : Int) - 1075) (-52) = -52 by omega, show (((1023 : Nat) : Int) - 1075) = -52 by omega]
    unfold FP.Core.inUnits FP.Core.signed
    rw [show ((-52 : Int) - -52).toNat = 0 by omega, Nat.pow_zero, Nat.mul_one, Nat.mul_one]
    rfl
  rw [e]
  by_cases h : T = 0
  · left
    rw [Int.compare_eq_eq.mpr (by omega)]
  · right
    rw [Int.compare_eq_gt.mpr (by omega)]
theorem cmp_gt0 {E T : Nat} (h1 : 1 ≤ E) (h2 : E ≤ 2046) (hT : T < 4503599627370496) : FP.dcmp (nd E T) FP.dconst0 = some .gt := by
  show FP.Core.order (FP.Core.decode FP.Core.b64 (nd E T).toNat) (FP.Core.decode FP.Core.b64 FP.dconst0.toNat) = _
  rw [nd_dec h1 h2 hT, zero_dec]
  show some (compare (FP.Core.signed false (FP.Core.inUnits (4503599627370496 + T) ((E : Int) - 1075) (min ((E : Int) - 1075) (-1074)))) (FP.Core.signed false (FP.Core.inUnits 0 (-1074) (min ((E : Int) - 1075) (-1074))))) = _
  unfold FP.Core.inUnits FP.Core.signed
  have h3 := Nat.two_pow_pos ((E : Int) - 1075 - min ((E : Int) - 1075) (-1074)).toNat
  have h4 : 0 < (4503599627370496 + T) * 2 ^ ((E : Int) - 1075 - min ((E : Int) - 1075) (-1074)).toNat := Nat.mul_pos (by omega) h3
  rw [Nat.zero_mul]
  congr 1
  show compare (((4503599627370496 + T) * 2 ^ ((E : Int) - 1075 - min ((E : Int) - 1075) (-1074)).toNat : Nat) : Int) ((0 : Nat) : Int) = _
  exact Int.compare_eq_gt.mpr (by omega)
theorem soft_B {m : Int} {z : Nat → Int32} {v : ST} (h : okS m v) : ∀ n : Nat, n ≤ sN v → 0 ≤ (c_soft z v n).toInt ∧ (c_soft z v n).toInt ≤ (s_sum (sT v) 0 n).toInt ∧ (s_sum (sT v) 0 n).toInt ≤ 500 * n
  | 0, _ => ⟨by show (0 : Int) ≤ (0 : Int32).toInt; decide, by show (0 : Int32).toInt ≤ (0 : Int32).toInt; decide, by show (0 : Int32).toInt ≤ _; decide⟩
  | n + 1, hn => by
    obtain ⟨a, b, c⟩ := soft_B (z := z) h n (by omega)
    have d := (h.2.1 n (by omega)).1
    have hn10 := h.1
    unfold iB at d
    show 0 ≤ (if g_set (sA v n) (z 1) = 0 then c_soft z v n + sT v n else c_soft z v n).toInt ∧ (if g_set (sA v n) (z 1) = 0 then c_soft z v n + sT v n else c_soft z v n).toInt ≤ (s_sum (sT v) 0 n + sT v (0 + n)).toInt ∧ (s_sum (sT v) 0 n + sT v (0 + n)).toInt ≤ _
    rw [Nat.zero_add, i_add (a := s_sum (sT v) 0 n) (by omega) (by omega)]
    split
    · rw [i_add (by omega) (by omega)]
      omega
    · omega
theorem softY_B {m : Int} {y : YT} (ho : okY m y) : ∀ k : Nat, k ≤ 4 → 0 ≤ (y_soft y k).toInt ∧ (y_soft y k).toInt ≤ (y_silos y k).toInt ∧ (y_silos y k).toInt ≤ 1200 * k
  | 0, _ => ⟨by show (0 : Int) ≤ (0 : Int32).toInt; decide, by show (0 : Int32).toInt ≤ (0 : Int32).toInt; decide, by show (0 : Int32).toInt ≤ _; decide⟩
  | k + 1, hk => by
    obtain ⟨a, b, c⟩ := softY_B ho k (by omega)
    have h := ho.1 k (by omega)
    obtain ⟨d1, d2, d3⟩ := soft_B (z := yZ y) h (sN (yS y k)) (Nat.le_refl _)
    have e := total_B h
    have e2 : s_sum (sT (yS y k)) 0 (sN (yS y k)) = s_total (yS y k) := rfl
    rw [e2] at d2
    show 0 ≤ (y_soft y k + c_soft (yZ y) (yS y k) (sN (yS y k))).toInt ∧ (y_soft y k + c_soft (yZ y) (yS y k) (sN (yS y k))).toInt ≤ (y_silos y k + s_total (yS y k)).toInt ∧ (y_silos y k + s_total (yS y k)).toInt ≤ _
    rw [i_add (a := y_soft y k) (by omega) (by omega), i_add (a := y_silos y k) (by omega) (by omega)]
    omega
/-- softness is a zero, or a double up to 1 -/
theorem soft_form {m : Int} {y : YT} (ho : okY m y) : y_softD y = 0 ∨ ∃ E T : Nat, 900 ≤ E ∧ E ≤ 1023 ∧ T < 4503599627370496 ∧ (E = 1023 → T = 0) ∧ y_softD y = nd E T := by
  obtain ⟨a, b, c⟩ := softY_B ho 4 (by omega)
  unfold y_softD
  by_cases h : y_silos y 4 = 0
  · rw [if_pos h]
    exact Or.inr ⟨1023, 0, by omega, by omega, by omega, fun _ => rfl, by decide +kernel⟩
  · rw [if_neg h]
    have hpos : 0 < (y_silos y 4).toInt := by
      rw [i_eq, i_0] at h
      omega
    by_cases h2 : (y_soft y 4).toInt = 0
    · left
      exact ddiv_0 (b := (y_silos y 4).toInt.toNat) h2 (by omega) (by omega) (by omega)
    · right
      exact ddiv_nd (a := (y_soft y 4).toInt.toNat) (b := (y_silos y 4).toInt.toNat) (by omega) (by omega) (by omega) (by omega) (by omega)
theorem soft_hf {m : Int} {y : YT} (ho : okY m y) : ¬ y_silos y 4 = 0 → vf_n64 (FP.ddiv (FP.i2d (y_soft y 4)) (FP.i2d (y_silos y 4))) := fun h => by
  have f := soft_form ho
  unfold y_softD at f
  rw [if_neg h] at f
  rcases f with f | ⟨E, T, h1, h2, h3, _, f⟩
  · rw [f]; unfold vf_n64; decide +kernel
  · rw [f]; exact nd_vf (by omega) h3
theorem soft_lo {m : Int} {y : YT} (ho : okY m y) : ¬ Op.cmpValue (FP.dcmp (y_softD y) FP.dconst0) .l < 0 := by
  rcases soft_form ho with f | ⟨E, T, h1, h2, h3, h4, f⟩
  · rw [f]; decide +kernel
  · rw [f, cmp_gt0 (by omega) (by omega) h3]; decide
theorem soft_hi {m : Int} {y : YT} (ho : okY m y) : ¬ 0 < Op.cmpValue (FP.dcmp (y_softD y) FP.dconst1) .g := by
  rcases soft_form ho with f | ⟨E, T, h1, h2, h3, h4, f⟩
  · rw [f]; decide +kernel
  · rw [f]
    by_cases h : E = 1023
    · rw [h, h4 h]; decide +kernel
    · rw [cmp_lt1 (by omega) (by omega) h3]; decide
