/-! rows of the whole object's cells, and what a store leaves -/
section CWROWS
variable {cy : Nat → ClassId} {L : Nat → Nat} {F : Nat → va_E} {k j p : Nat} {C : CT}
theorem cW_to : cW cy L F C 26 = .inr (1, [.ref (L 27), .ref (L 28), .int (nI (sN (cT C))), .int (sP (cT C)), .int (sC (cT C)), .int (sK (cT C))]) := cW_i (by omega)
theorem cW_ho : cW cy L F C 29 = .inr (0, [.int (hT (cU C)), .int (hH (cU C))]) := cW_i (by omega)
theorem cW_yo : cW cy L F C 1 = .inr (3, [.ref (L 2), .ref (L 3), .ref (L 4), .int (yC (cY C) 0), .int (yC (cY C) 1), .int (yC (cY C) 2), .int (yC (cY C) 3), .int (yC (cY C) 4), .int (yC (cY C) 5)]) := cW_i (by omega)
theorem cW_ys : cW cy L F C 2 = .inl (cy 1, 4, .inr (.inr (.inr (.inr (fun k => some (L (1 + 4 + 3 * k))))))) := cW_i (by omega)
theorem cW_yh : cW cy L F C 3 = .inl (cy 2, 6, .inr (.inr (.inr (.inr (fun j => some (L (1 + 16 + j))))))) := cW_i (by omega)
theorem cW_yz : cW cy L F C 4 = .inl (cy 0, 4, .inl (yZ (cY C))) := cW_i (by omega)
theorem cW_so (hk : k < 4) : cW cy L F C (1 + 4 + 3 * k) = .inr (1, [.ref (L (1 + 4 + 3 * k + 1)), .ref (L (1 + 4 + 3 * k + 2)), .int (nI (sN (yS (cY C) k))), .int (sP (yS (cY C) k)), .int (sC (yS (cY C) k)), .int (sK (yS (cY C) k))]) := by
  rw [show cW cy L F C = yW cy L (cW cy L F C) 1 (cY C) from cW_Y0.symm, yW_so hk]
theorem cW_st (hk : k < 4) : cW cy L F C (1 + 4 + 3 * k + 1) = .inl (cy 0, 10, .inl (sT (yS (cY C) k))) := by
  rw [show cW cy L F C = yW cy L (cW cy L F C) 1 (cY C) from cW_Y0.symm, yW_st hk]
theorem cW_sa (hk : k < 4) : cW cy L F C (1 + 4 + 3 * k + 2) = .inl (cy 0, 10, .inl (sA (yS (cY C) k))) := by
  rw [show cW cy L F C = yW cy L (cW cy L F C) 1 (cY C) from cW_Y0.symm, yW_sa hk]
theorem cW_sh (hj : j < 6) : cW cy L F C (1 + 16 + j) = .inr (0, [.int (hT (yH (cY C) j)), .int (hH (yH (cY C) j))]) := by
  rw [show cW cy L F C = yW cy L (cW cy L F C) 1 (cY C) from cW_Y0.symm, yW_ho hj]
theorem cW_vo (hp : p < 6) : cW cy L F C (30 + 22 * p) = .inr (3, [.ref (L (30 + 22 * p + 1)), .ref (L (30 + 22 * p + 2)), .ref (L (30 + 22 * p + 3)), .int (yC (cV C p) 0), .int (yC (cV C p) 1), .int (yC (cV C p) 2), .int (yC (cV C p) 3), .int (yC (cV C p) 4), .int (yC (cV C p) 5)]) := by
  rw [show cW cy L F C = yW cy L (cW cy L F C) (30 + 22 * p) (cV C p) from (cW_V0 hp).symm, yW_o]
theorem cW_uto {n : Nat} {a b d : Int32} : gup (cW cy L F C) 26 (.inr (1, [.ref (L 27), .ref (L 28), .int (nI n), .int a, .int b, .int d])) = cW cy L F (cMk (cY C) (cV C) (cM C) (cQ C) (cB C) (cL C) (cR C) (sT (cT C), sA (cT C), n, a, b, d) (cU C)) := by
  rw [show cW cy L F C = sW cy L (cW cy L F C) 26 (cT C) from cW_T0.symm]
  exact sW_uo.trans cW_T
theorem cW_uso (hk : k < 4) {n : Nat} {a b d : Int32} : gup (cW cy L F C) (1 + 4 + 3 * k) (.inr (1, [.ref (L (1 + 4 + 3 * k + 1)), .ref (L (1 + 4 + 3 * k + 2)), .int (nI n), .int a, .int b, .int d])) = cW cy L F (cMk (ySetS (cY C) k (sT (yS (cY C) k), sA (yS (cY C) k), n, a, b, d)) (cV C) (cM C) (cQ C) (cB C) (cL C) (cR C) (cT C) (cU C)) := by
  rw [show cW cy L F C = sW cy L (cW cy L F C) (1 + 4 + 3 * k) (yS (cY C) k) from (cW_S0 hk).symm]
  exact sW_uo.trans (cW_S hk)
theorem cW_usho (hj : j < 6) {a b : Int32} : gup (cW cy L F C) (1 + 16 + j) (.inr (0, [.int a, .int b])) = cW cy L F (cMk (ySetH (cY C) j (a, b)) (cV C) (cM C) (cQ C) (cB C) (cL C) (cR C) (cT C) (cU C)) := by
  rw [show cW cy L F C = hW (cW cy L F C) (1 + 16 + j) (yH (cY C) j) from (cW_H0 hj).symm]
  exact hW_uo.trans (cW_H hj)
theorem cW_uyz {f : Nat → Int32} : gup (cW cy L F C) 4 (.inl (cy 0, 4, .inl f)) = cW cy L F (cMk (yS (cY C), yH (cY C), f, yC (cY C)) (cV C) (cM C) (cQ C) (cB C) (cL C) (cR C) (cT C) (cU C)) := by
  rw [show cW cy L F C = yW cy L (cW cy L F C) 1 (cY C) from cW_Y0.symm]
  exact (yW_uz (b := 1)).trans cW_Y
theorem cW_uy0 {x9 : Int32} : gup (cW cy L F C) 1 (.inr (3, [.ref (L 2), .ref (L 3), .ref (L 4), .int x9, .int (yC (cY C) 1), .int (yC (cY C) 2), .int (yC (cY C) 3), .int (yC (cY C) 4), .int (yC (cY C) 5)])) = cW cy L F (cMk (yS (cY C), yH (cY C), yZ (cY C), upd (yC (cY C)) 0 x9) (cV C) (cM C) (cQ C) (cB C) (cL C) (cR C) (cT C) (cU C)) := by
  rw [show cW cy L F C = yW cy L (cW cy L F C) 1 (cY C) from cW_Y0.symm]
  exact (yW_u0 (b := 1)).trans cW_Y
theorem cW_uy1 {x9 : Int32} : gup (cW cy L F C) 1 (.inr (3, [.ref (L 2), .ref (L 3), .ref (L 4), .int (yC (cY C) 0), .int x9, .int (yC (cY C) 2), .int (yC (cY C) 3), .int (yC (cY C) 4), .int (yC (cY C) 5)])) = cW cy L F (cMk (yS (cY C), yH (cY C), yZ (cY C), upd (yC (cY C)) 1 x9) (cV C) (cM C) (cQ C) (cB C) (cL C) (cR C) (cT C) (cU C)) := by
  rw [show cW cy L F C = yW cy L (cW cy L F C) 1 (cY C) from cW_Y0.symm]
  exact (yW_u1 (b := 1)).trans cW_Y
theorem cW_uy2 {x9 : Int32} : gup (cW cy L F C) 1 (.inr (3, [.ref (L 2), .ref (L 3), .ref (L 4), .int (yC (cY C) 0), .int (yC (cY C) 1), .int x9, .int (yC (cY C) 3), .int (yC (cY C) 4), .int (yC (cY C) 5)])) = cW cy L F (cMk (yS (cY C), yH (cY C), yZ (cY C), upd (yC (cY C)) 2 x9) (cV C) (cM C) (cQ C) (cB C) (cL C) (cR C) (cT C) (cU C)) := by
  rw [show cW cy L F C = yW cy L (cW cy L F C) 1 (cY C) from cW_Y0.symm]
  exact (yW_u2 (b := 1)).trans cW_Y
theorem cW_uy3 {x9 : Int32} : gup (cW cy L F C) 1 (.inr (3, [.ref (L 2), .ref (L 3), .ref (L 4), .int (yC (cY C) 0), .int (yC (cY C) 1), .int (yC (cY C) 2), .int x9, .int (yC (cY C) 4), .int (yC (cY C) 5)])) = cW cy L F (cMk (yS (cY C), yH (cY C), yZ (cY C), upd (yC (cY C)) 3 x9) (cV C) (cM C) (cQ C) (cB C) (cL C) (cR C) (cT C) (cU C)) := by
  rw [show cW cy L F C = yW cy L (cW cy L F C) 1 (cY C) from cW_Y0.symm]
  exact (yW_u3 (b := 1)).trans cW_Y
theorem cW_uy4 {x9 : Int32} : gup (cW cy L F C) 1 (.inr (3, [.ref (L 2), .ref (L 3), .ref (L 4), .int (yC (cY C) 0), .int (yC (cY C) 1), .int (yC (cY C) 2), .int (yC (cY C) 3), .int x9, .int (yC (cY C) 5)])) = cW cy L F (cMk (yS (cY C), yH (cY C), yZ (cY C), upd (yC (cY C)) 4 x9) (cV C) (cM C) (cQ C) (cB C) (cL C) (cR C) (cT C) (cU C)) := by
  rw [show cW cy L F C = yW cy L (cW cy L F C) 1 (cY C) from cW_Y0.symm]
  exact (yW_u4 (b := 1)).trans cW_Y
theorem cW_uy5 {x9 : Int32} : gup (cW cy L F C) 1 (.inr (3, [.ref (L 2), .ref (L 3), .ref (L 4), .int (yC (cY C) 0), .int (yC (cY C) 1), .int (yC (cY C) 2), .int (yC (cY C) 3), .int (yC (cY C) 4), .int x9])) = cW cy L F (cMk (yS (cY C), yH (cY C), yZ (cY C), upd (yC (cY C)) 5 x9) (cV C) (cM C) (cQ C) (cB C) (cL C) (cR C) (cT C) (cU C)) := by
  rw [show cW cy L F C = yW cy L (cW cy L F C) 1 (cY C) from cW_Y0.symm]
  exact (yW_u5 (b := 1)).trans cW_Y
end CWROWS
