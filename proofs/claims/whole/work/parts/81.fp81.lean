/-! DOUBLES from 0 to 1, and their bits -/
theorem f_tails : FP.Core.Fmt.tails FP.Core.b64 = 4503599627370496 := by decide +kernel
theorem f_exps : FP.Core.Fmt.exps FP.Core.b64 = 2048 := by decide +kernel
theorem f_qmin : FP.Core.Fmt.qmin FP.Core.b64 = -1074 := by decide +kernel
theorem f_qmax : FP.Core.Fmt.qmax FP.Core.b64 = 971 := by decide +kernel
theorem f_pp : FP.Core.b64.p = 53 := rfl
theorem f_2p : 2 ^ FP.Core.b64.p = 9007199254740992 := by decide +kernel
theorem f_52 : 2 ^ 52 = 4503599627370496 := by decide +kernel
/-- the number of the biased exponent E and the trailing digits T -/
def nd (E T : Nat) : UInt64 := UInt64.ofNat (E * 4503599627370496 + T)
theorem nd_toNat {E T : Nat} (hE : E < 2048) (hT : T < 4503599627370496) : (nd E T).toNat = E * 4503599627370496 + T := by
  unfold nd
  rw [UInt64.toNat_ofNat']
  exact Nat.mod_eq_of_lt (by omega)
theorem nd_dec {E T : Nat} (h1 : 1 ≤ E) (h2 : E ≤ 2046) (hT : T < 4503599627370496) : FP.Core.decode FP.Core.b64 (nd E T).toNat = .fin false (4503599627370496 + T) ((E : Int) - 1075) := by
  rw [nd_toNat (by omega) hT]
  unfold FP.Core.decode FP.Core.fieldE FP.Core.fieldT FP.Core.fieldS
  rw [f_tails, f_exps, f_qmin]
  have e1 : (E * 4503599627370496 + T) / 4503599627370496 = E := by omega
  have e2 : (E * 4503599627370496 + T) % 4503599627370496 = T := by omega
  rw [e1, e2, Nat.mod_eq_of_lt (by omega : E < 2048), if_neg (by omega), if_neg (by omega), Nat.div_eq_of_lt (by omega : E < 2048)]
  rw [show (-1074 : Int) + ((E : Int) - 1) = (E : Int) - 1075 by omega]
  rfl
theorem nd_enc {c : Nat} {q : Int} (h1 : 4503599627370496 ≤ c) (h2 : c < 9007199254740992) (h3 : -1074 ≤ q) (h4 : q ≤ 971) : UInt64.ofNat (FP.Core.encode FP.Core.b64 (.fin false c q)) = nd (q + 1075).toNat (c - 4503599627370496) := by
  unfold FP.Core.encode
  show UInt64.ofNat (if c < FP.Core.b64.tails then FP.Core.assemble FP.Core.b64 false 0 c else FP.Core.assemble FP.Core.b64 false ((q - FP.Core.b64.qmin).toNat + 1) (c - FP.Core.b64.tails)) = _
  rw [f_tails, f_qmin, if_neg (by omega)]
  unfold FP.Core.assemble nd
  rw [f_tails, f_exps]
  refine congrArg UInt64.ofNat ?_
  show (0 * 2048 + ((q - -1074).toNat + 1)) * 4503599627370496 + (c - 4503599627370496) = _
  have : (q - -1074).toNat + 1 = (q + 1075).toNat := by omega
  omega
theorem log_52 {c : Nat} (h1 : 4503599627370496 ≤ c) (h2 : c < 9007199254740992) : c.log2 = 52 := by
  rw [Nat.log2_eq_iff (by omega)]
  exact ⟨by rw [f_52]; exact h1, by rw [show (2 : Nat) ^ (52 + 1) = 9007199254740992 by decide +kernel]; exact h2⟩
/-- what is exact stays as it is -/
theorem round1 {c k : Nat} {e : Int} (h1 : 4503599627370496 ≤ c) (h2 : c < 9007199254740992) (h3 : -1074 ≤ e + k) (h4 : e + k ≤ 971) : FP.Core.roundRatio FP.Core.b64 false (c * 2 ^ k) 1 e = .fin false c (e + k) := by
  have hk := Nat.two_pow_pos k
  have hc : c * 2 ^ k ≠ 0 := Nat.mul_ne_zero (by omega) (by omega)
  have hlog : (c * 2 ^ k).log2 = 52 + k := by
    rw [Nat.log2_eq_iff hc]
    refine ⟨?_, ?_⟩
    · rw [Nat.pow_add, f_52]; exact Nat.mul_le_mul_right _ h1
    · rw [show 52 + k + 1 = 53 + k by omega, Nat.pow_add, show (2 : Nat) ^ 53 = 9007199254740992 by decide +kernel]; exact Nat.mul_lt_mul_of_pos_right h2 hk
  have hlead : FP.Core.leading (c * 2 ^ k) 1 = 52 + k := by
    unfold FP.Core.leading
    rw [hlog, show Nat.log2 1 = 0 by decide +kernel]
    show (if 1 * 2 ^ (((52 + k : Nat) : Int) - ((0 : Nat) : Int)).toNat ≤ c * 2 ^ k * 2 ^ (-(((52 + k : Nat) : Int) - ((0 : Nat) : Int))).toNat then ((52 + k : Nat) : Int) - ((0 : Nat) : Int) else _) = _
    rw [if_pos]
    · omega
    · rw [show (((52 + k : Nat) : Int) - ((0 : Nat) : Int)).toNat = 52 + k by omega, show (-(((52 + k : Nat) : Int) - ((0 : Nat) : Int))).toNat = 0 by omega, Nat.one_mul, Nat.pow_zero, Nat.mul_one, Nat.pow_add, f_52]
      exact Nat.mul_le_mul_right _ h1
  have hq : FP.Core.quantum FP.Core.b64 (c * 2 ^ k) 1 e = e + k := by
    unfold FP.Core.quantum
    rw [hlead, f_qmin, f_pp]
    omega
  unfold FP.Core.roundRatio
  rw [if_neg hc, hq]
  unfold FP.Core.roundAt FP.Core.unitsNum FP.Core.unitsDen
  rw [show (e - (e + (k : Int))).toNat = 0 by omega, show (e + (k : Int) - e).toNat = k by omega, Nat.pow_zero, Nat.mul_one, Nat.one_mul]
  have hn : FP.Core.nearest (c * 2 ^ k) (2 ^ k) = c := by
    unfold FP.Core.nearest
    rw [Nat.mul_mod_left, if_pos (by omega), Nat.mul_div_cancel _ hk]
  rw [hn]
  unfold FP.Core.settle FP.Core.bound
  rw [f_2p, f_qmax, if_pos h2, if_pos h4]
/-- a whole number of at most 53 digits -/
theorem round2 {x : Nat} {e : Int} (h0 : 0 < x) (hx : x < 9007199254740992) (h3 : -1022 ≤ e) (h4 : e ≤ 900) : ∃ k : Nat, k ≤ 52 ∧ 2 ^ k ≤ x ∧ x < 2 ^ (k + 1) ∧ 4503599627370496 ≤ x * 2 ^ (52 - k) ∧ x * 2 ^ (52 - k) < 9007199254740992 ∧ FP.Core.roundRatio FP.Core.b64 false x 1 e = .fin false (x * 2 ^ (52 - k)) (e + k - 52) := by
  have l1 : 2 ^ x.log2 ≤ x := Nat.log2_self_le (by omega)
  have l2 : x < 2 ^ (x.log2 + 1) := Nat.lt_log2_self
  have hk : x.log2 ≤ 52 := by
    have : x.log2 < 53 := (Nat.log2_lt (by omega)).mpr (by rw [show (2 : Nat) ^ 53 = 9007199254740992 by decide +kernel]; exact hx)
    omega
  generalize hl : x.log2 = k at l1 l2 hk
  have hp : 2 ^ k * 2 ^ (52 - k) = 4503599627370496 := by rw [← Nat.pow_add, show k + (52 - k) = 52 by omega, f_52]
  have hp1 : 2 ^ (k + 1) * 2 ^ (52 - k) = 9007199254740992 := by rw [← Nat.pow_add, show k + 1 + (52 - k) = 53 by omega]
  have hpos := Nat.two_pow_pos (52 - k)
  have c1 : 4503599627370496 ≤ x * 2 ^ (52 - k) := by rw [← hp]; exact Nat.mul_le_mul_right _ l1
  have c2 : x * 2 ^ (52 - k) < 9007199254740992 := by rw [← hp1]; exact Nat.mul_lt_mul_of_pos_right l2 hpos
  refine ⟨k, hk, l1, l2, c1, c2, ?_⟩
  have hlead : FP.Core.leading x 1 = k := by
    unfold FP.Core.leading
    rw [hl, show Nat.log2 1 = 0 by decide +kernel]
    show (if 1 * 2 ^ ((k : Int) - ((0 : Nat) : Int)).toNat ≤ x * 2 ^ (-((k : Int) - ((0 : Nat) : Int))).toNat then (k : Int) - ((0 : Nat) : Int) else _) = _
    rw [if_pos]
    · omega
    · rw [show ((k : Int) - ((0 : Nat) : Int)).toNat = k by omega, show (-((k : Int) - ((0 : Nat) : Int))).toNat = 0 by omega, Nat.one_mul, Nat.pow_zero, Nat.mul_one]
      exact l1
  have hq : FP.Core.quantum FP.Core.b64 x 1 e = e + k - 52 := by
    unfold FP.Core.quantum
    rw [hlead, f_qmin, f_pp]
    omega
  unfold FP.Core.roundRatio
  rw [if_neg (by omega), hq]
  unfold FP.Core.roundAt FP.Core.unitsNum FP.Core.unitsDen
  rw [show (e - (e + (k : Int) - 52)).toNat = 52 - k by omega, show (e + (k : Int) - 52 - e).toNat = 0 by omega, Nat.pow_zero, Nat.mul_one]
  have hn : FP.Core.nearest (x * 2 ^ (52 - k)) 1 = x * 2 ^ (52 - k) := by
    unfold FP.Core.nearest
    rw [Nat.mod_one, if_pos (by omega), Nat.div_one]
  rw [hn]
  unfold FP.Core.settle FP.Core.bound
  rw [f_2p, f_qmax, if_pos c2, if_pos (by omega)]
theorem nd_of {c : Nat} {q : Int} (h1 : 4503599627370496 ≤ c) (h2 : c < 9007199254740992) (h3 : -1074 ≤ q) (h4 : q ≤ 971) : FP.Core.decode FP.Core.b64 (UInt64.ofNat (FP.Core.encode FP.Core.b64 (.fin false c q))).toNat = .fin false c q := by
  rw [nd_enc h1 h2 h3 h4, nd_dec (by omega) (by omega) (by omega), show 4503599627370496 + (c - 4503599627370496) = c by omega, show ((q + 1075).toNat : Int) - 1075 = q by omega]
