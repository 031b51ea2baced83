/-! THE DIGEST of the reference: its loops -/
def g_dN (h : Int64) (s : Nat → Int32) (mn : Int32) : Nat → Int64
  | 0 => h
  | v + 1 => 31 * g_dN h s mn v + (g_count s mn (nI v)).toInt64
def g_dK (h : Int64) (s : Nat → Int32) : Nat → Int64
  | 0 => h
  | k + 1 => g_hsh (g_dK h s k) s k (Nn s k)
def g_dJ (h : Int64) (s : Nat → Int32) : Nat → Int64
  | 0 => h
  | i + 1 => 31 * g_dJ h s i + (s (106 + i)).toInt64
def g_dB (h : Int64) (b : Nat → Int32) : Nat → Int64
  | 0 => h
  | i + 1 => 31 * g_dB h b i + (b i).toInt64
def g_d1 (s : Nat → Int32) (mn : Int32) : Int64 := g_dJ (g_dK (g_dN 3533 s mn 15) s 4) s 12
def g_d2 (s : Nat → Int32) (mn : Int32) (n : Nat) : Int64 := 31 * (31 * (31 * (31 * g_d1 s mn + (g_bestI (g_best s 4)).toInt64) + (g_ah s (g_stop s 60 0)).toInt64) + (g_softD s).toInt64) + (nI n).toInt64
