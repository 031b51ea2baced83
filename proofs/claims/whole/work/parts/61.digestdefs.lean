/-! THE DIGEST of the class: its loops -/
def d_S (y : YT) (k : Nat) (h : Int64) : Nat → Int64
  | 0 => h
  | v + 1 => 31 * d_S y k h v + (y_tellS y k (nI v)).toInt64
def d_L1 (y : YT) (k j : Nat) (h : Int64) : Nat → Int64
  | 0 => h
  | v + 1 => 31 * d_L1 y k j h v + (y_tellL y k j (nI v)).toInt64
def d_L (y : YT) (k : Nat) (h : Int64) : Nat → Int64
  | 0 => h
  | j + 1 => d_L1 y k j (d_L y k h j) 3
def d_hs (C : CT) (h : Int64) (k : Nat) : Int64 :=
  31 * (31 * (31 * d_L (cY C) k (d_S (cY C) k h 6) (sN (yS (cY C) k)) + (c_brk (yZ (cY C)) (yS (cY C) k)).toInt64) + (y_why (cY C) k 0).toInt64) + (c_ifR C k 0 4 4).toInt64
def b_h (x : UInt64) : Nat → UInt64
  | 0 => x
  | i + 1 => FP.dmul (b_h x i) 4611686018427387904
def b_e : Nat → Int64
  | 0 => 1023
  | i + 1 => b_e i - 1
def b_v (x : UInt64) (m : Nat) : Int64 := b_e m <<< ((52 : Int32).toInt64 &&& 63) + FP.d2l (FP.dmul (FP.dsub (b_h x m) FP.dconst1) 4841369599423283200)
def d_N (C : CT) (h : Int64) : Nat → Int64
  | 0 => h
  | v + 1 => 31 * d_N C h v + (c_count C (nI v)).toInt64
def d_C (C : CT) : Nat → CT
  | 0 => C
  | k + 1 => c_ifS (cY C, cV C, cM C, cQ C, cB C, cL C, cR C, cT (d_C C k), cU (d_C C k)) k 0 4 4
def d_T (C : CT) (k : Nat) : CT := (cY C, cV C, cM C, cQ C, cB C, cL C, cR C, cT (d_C C k), cU (d_C C k))
def d_K (C : CT) (h : Int64) : Nat → Int64
  | 0 => h
  | k + 1 => d_hs (d_T C k) (d_K C h k) k
def d_J (C : CT) (h : Int64) : Nat → Int64
  | 0 => h
  | j + 1 => 31 * (31 * d_J C h j + (y_tellH (cY C) j 0).toInt64) + (y_tellH (cY C) j 1).toInt64
def d_B (C : CT) (h : Int64) : Nat → Int64
  | 0 => h
  | i + 1 => 31 * d_B C h i + (cB C i).toInt64
def d_1 (C : CT) (h : Int64) : Int64 := d_J C (d_K C (d_N C h 15) 4) 6
def d_2 (C : CT) (h : Int64) (b : Int64) : Int64 :=
  d_B C (31 * (31 * (31 * (31 * d_1 C h + (g_bestI (y_best (cY C) 4)).toInt64) + (y_next (cY C) 4).toInt64) + b) + (nI (cL C)).toInt64) (cL C)
