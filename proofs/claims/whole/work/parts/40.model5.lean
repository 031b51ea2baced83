/-! the reference's calls -/
def g_least (i : Int32) : Int32 := if i = 1 then 1 else if i = 2 then 5 else 0
def g_most (i : Int32) : Int32 := if i = 0 then 16 else if i = 1 then 20 else if i = 2 then 100 else 900
def g_shipS (s : Nat → Int32) (j : Nat) (u t : Int32) : Nat → Int32 :=
  upd (upd (upd (upd s (106 + 2 * j) t) (106 + 2 * j + 1) u) 2 (upd (upd s (106 + 2 * j) t) (106 + 2 * j + 1) u 2 + t)) 3 (upd (upd (upd s (106 + 2 * j) t) (106 + 2 * j + 1) u) 2 (upd (upd s (106 + 2 * j) t) (106 + 2 * j + 1) u 2 + t) 3 + s (106 + 2 * j))
