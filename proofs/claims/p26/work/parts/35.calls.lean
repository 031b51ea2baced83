/-! what the whole object's calls answer -/
def c_setY (C : CT) (y : YT) : CT := (y, cV C, cM C, cQ C, cB C, cL C, cR C, cT C, cU C)
def c_unl (C : CT) (k j : Nat) (t : Int32) : CT :=
  c_setY C (ySetH (ySetS (cY C) k (s_fill (yS (cY C) k) (c_brR (yS (cY C) k) (yH (cY C) j) t))) j (hT (yH (cY C) j) - c_brR (yS (cY C) k) (yH (cY C) j) t, hH (yH (cY C) j)))
def y_ship1 (y : YT) (j : Nat) (u t : Int32) : YT := ySetH (ySetH y j (t, hH (yH y j))) j (hT (yH (ySetH y j (t, hH (yH y j))) j), u)
def y_ship (y : YT) (j : Nat) (u t : Int32) : YT :=
  (yS (y_ship1 y j u t), yH (y_ship1 y j u t), yZ (y_ship1 y j u t), upd (upd (yC (y_ship1 y j u t)) 2 (yC (y_ship1 y j u t) 2 + t)) 3 (upd (yC (y_ship1 y j u t)) 2 (yC (y_ship1 y j u t) 2 + t) 3 + hT (yH y j)))
theorem ySetH_two {y : YT} {j : Nat} {h h2 : HT} : ySetH (ySetH y j h) j h2 = ySetH y j h2 := by
  unfold ySetH
  have e : (fun i => if i = j then h2 else (fun i => if i = j then h else y.2.1 i) i) = fun i => if i = j then h2 else y.2.1 i := by
    funext i
    by_cases hi : i = j <;> simp [hi]
  exact congrArg (fun z => ((y.1, z, y.2.2) : YT)) e
def y_padsS (y : YT) (k : Nat) (q : Int32) : YT := ySetS y k (sT (yS y k), sA (yS y k), sN (yS y k), q, sC (yS y k), sK (yS y k))
def y_shakeR (y : YT) (k : Nat) : Int32 := if c_brk (yZ y) (yS y k) = 1 then 1 else 0
def y_sh0 (y : YT) (k : Nat) : YT := ySetS y k (sT (yS y k), sA (yS y k), sN (yS y k), sP (yS y k), sC (yS y k), sK (yS y k) + 1)
def y_sh1 (y : YT) (k : Nat) : YT := (yS (y_sh0 y k), yH (y_sh0 y k), yZ (y_sh0 y k), upd (yC (y_sh0 y k)) 4 (yC (y_sh0 y k) 4 + 1))
def y_shake1 (y : YT) (k : Nat) : YT := ySetS (y_sh1 y k) k (sT (yS (y_sh1 y k) k), s_young (sA (yS (y_sh1 y k) k)), sN (yS (y_sh1 y k) k), sP (yS (y_sh1 y k) k), sC (yS (y_sh1 y k) k), sK (yS (y_sh1 y k) k))
def y_shake (y : YT) (k : Nat) : YT :=
  if c_brk (yZ y) (yS y k) = 1 then ySetS (y_shake1 y k) k (sT (yS (y_shake1 y k) k), sA (yS (y_shake1 y k) k), sN (yS (y_shake1 y k) k), sP (yS (y_shake1 y k) k), 0, sK (yS (y_shake1 y k) k)) else y_shake1 y k
def y_setZ (y : YT) (i : Nat) (v : Int32) : YT := (yS y, yH y, upd (yZ y) i v, yC y)
def y_tellS (y : YT) (k : Nat) (v : Int32) : Int32 :=
  if v = 0 then s_total (yS y k) else if v = 1 then nI (sN (yS y k)) else if v = 2 then sP (yS y k) else if v = 3 then (if sC (yS y k) = 0 then 0 else 1) else if v = 4 then sK (yS y k) else c_outH (yZ y) (yS y k) (sP (yS y k))
def y_tellL (y : YT) (k j : Nat) (v : Int32) : Int32 :=
  if v = 0 then sT (yS y k) j else if v = 1 then sA (yS y k) j else g_set (sA (yS y k) j) (yZ y 1)
def y_tellH (y : YT) (j : Nat) (v : Int32) : Int32 := if v = 0 then hT (yH y j) else hH (yH y j)
def c_count (C : CT) (v : Int32) : Int32 :=
  if v = 0 then yC (cY C) 0 else if v = 1 then y_silos (cY C) 4 else if v = 2 then y_ships (cY C) 6 else if v = 3 then yC (cY C) 1 else if v = 4 then yC (cY C) 2 else if v = 5 then yC (cY C) 3
  else if v = 6 then y_pads (cY C) 4 else if v = 7 then y_arches (cY C) 4 else if v = 8 then yC (cY C) 4 else if v = 9 then yC (cY C) 5 else if v = 10 then yZ (cY C) 0 else if v = 11 then yZ (cY C) 1 else if v = 12 then yZ (cY C) 2 else if v = 13 then yZ (cY C) 3 else nI (cQ C)
def y_why (y : YT) (k j : Nat) : Int32 :=
  if sN (yS y k) = 0 then 1 else if sC (yS y k) = 2 then 2 else if hH (yH y j) - hT (yH y j) = 0 then 3 else if c_outH (yZ y) (yS y k) (sP (yS y k)) = 0 then 4 else 0
/-- the trial silo and ship, made like the silo k (with u pads) and the ship j -/
def c_tr (C : CT) (k : Nat) (u : Int32) : ST := (cpN (sT (cT C)) (sT (yS (cY C) k)) (0) (0) 10, cpN (sA (cT C)) (sA (yS (cY C) k)) (0) (0) 10, sN (yS (cY C) k), u, sC (yS (cY C) k), sK (yS (cY C) k))
def c_tu (C : CT) (j : Nat) : HT := (hT (yH (cY C) j), hH (yH (cY C) j))
def c_ifR (C : CT) (k j q : Nat) (u : Int32) : Int32 := c_poR (yZ (cY C)) (c_tr C k u) (c_tu C j) q
def c_ifS (C : CT) (k j q : Nat) (u : Int32) : CT :=
  (cY C, cV C, cM C, cQ C, cB C, cL C, cR C, (c_poS (yZ (cY C)) (c_tr C k u) (c_tu C j) q).1, (c_poS (yZ (cY C)) (c_tr C k u) (c_tu C j) q).2)
