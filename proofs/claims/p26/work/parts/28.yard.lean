/-! what a yard's methods answer -/
def y_silos (y : YT) : Nat → Int32
  | 0 => 0
  | k + 1 => y_silos y k + s_total (yS y k)
def y_ships (y : YT) : Nat → Int32
  | 0 => 0
  | k + 1 => y_ships y k + hT (yH y k)
def y_pads (y : YT) : Nat → Int32
  | 0 => 0
  | k + 1 => y_pads y k + sP (yS y k)
def y_arches (y : YT) : Nat → Int32
  | 0 => 0
  | k + 1 => y_arches y k + (if sC (yS y k) = 0 then 0 else 1)
def s_like (v v2 : ST) : ST := (cpN (sT v) (sT v2) (0) (0) 10, cpN (sA v) (sA v2) (0) (0) 10, sN v2, sP v2, sC v2, sK v2)
def y_lS (y y2 : YT) : Nat → YT
  | 0 => y
  | k + 1 => ySetS (y_lS y y2 k) k (s_like (yS (y_lS y y2 k) k) (yS y2 k))
def y_lH (y y2 : YT) : Nat → YT
  | 0 => y
  | k + 1 => ySetH (y_lH y y2 k) k (hT (yH y2 k), hH (yH y2 k))
def y_lZ (y y2 : YT) (k : Nat) : YT := (yS y, yH y, cpN (yZ y) (yZ y2) (0) (0) k, yC y)
theorem y_lZ_0 {y y2 : YT} : y_lZ y y2 0 = y := by
  unfold y_lZ
  rw [cpN_0]
theorem y_lZ_s {y y2 : YT} {k : Nat} : (yS y, yH y, upd (cpN (yZ y) (yZ y2) (0) (0) k) k (yZ y2 k), yC y) = y_lZ y y2 (k + 1) := by
  unfold y_lZ
  rw [cpN_z]
def y_like (y y2 : YT) : YT :=
  (yS (y_lZ (y_lH (y_lS y y2 4) y2 6) y2 4), yH (y_lZ (y_lH (y_lS y y2 4) y2 6) y2 4), yZ (y_lZ (y_lH (y_lS y y2 4) y2 6) y2 4),
    upd (upd (upd (upd (upd (upd (yC (y_lZ (y_lH (y_lS y y2 4) y2 6) y2 4)) 0 (yC y2 0)) 1 (yC y2 1)) 2 (yC y2 2)) 3 (yC y2 3)) 4 (yC y2 4)) 5 (yC y2 5))
theorem yy_S0 {cy : Nat → ClassId} {L : Nat → Nat} {F : Nat → va_E} {b b2 k : Nat} {y y2 : YT} (hd : b2 + 22 ≤ b ∨ b + 22 ≤ b2) (hk : k < 4) : sW cy L (yW cy L (yW cy L F b2 y2) b y) (b2 + 4 + 3 * k) (yS y2 k) = yW cy L (yW cy L F b2 y2) b y := by
  rw [yy_comm (b := b2) (b2 := b) (by omega), yW_S0 hk]
theorem yy_H0 {cy : Nat → ClassId} {L : Nat → Nat} {F : Nat → va_E} {b b2 j : Nat} {y y2 : YT} (hd : b2 + 22 ≤ b ∨ b + 22 ≤ b2) (hj : j < 6) : hW (yW cy L (yW cy L F b2 y2) b y) (b2 + 16 + j) (yH y2 j) = yW cy L (yW cy L F b2 y2) b y := by
  rw [yy_comm (b := b2) (b2 := b) (by omega), yW_H0 hj]
