/-- the whole object: now, the six saved yards by their places, which of them each row of saved names, how many are saved, the buffer, the reader, the trial silo and ship -/
abbrev CT : Type := YT × (Nat → YT) × (Nat → Nat) × Nat × (Nat → Int32) × Nat × RT × ST × HT
abbrev cY (c : CT) : YT := c.1
abbrev cV (c : CT) : Nat → YT := c.2.1
abbrev cM (c : CT) : Nat → Nat := c.2.2.1
abbrev cQ (c : CT) : Nat := c.2.2.2.1
abbrev cB (c : CT) : Nat → Int32 := c.2.2.2.2.1
abbrev cL (c : CT) : Nat := c.2.2.2.2.2.1
abbrev cR (c : CT) : RT := c.2.2.2.2.2.2.1
abbrev cT (c : CT) : ST := c.2.2.2.2.2.2.2.1
abbrev cU (c : CT) : HT := c.2.2.2.2.2.2.2.2
abbrev cMk (y : YT) (v : Nat → YT) (m : Nat → Nat) (q : Nat) (b : Nat → Int32) (l : Nat) (r : RT) (t : ST) (u : HT) : CT := (y, v, m, q, b, l, r, t, u)
def vSet (v : Nat → YT) (p : Nat) (y : YT) : Nat → YT := fun i => if i = p then y else v i
def nSet (m : Nat → Nat) (k p : Nat) : Nat → Nat := fun i => if i = k then p else m i
def cCell (cy : Nat → ClassId) (L : Nat → Nat) (c : CT) (i : Nat) : va_E :=
  if i = 0 then .inr (4, [.ref (L 1), .ref (L 23), .int (nI c.2.2.2.1), .ref (L 24), .int (nI c.2.2.2.2.2.1), .ref (L 25), .ref (L 26), .ref (L 29)])
  else if i < 23 then yCell cy L 1 c.1 (i - 1)
  else if i = 23 then .inl (cy 3, 6, .inr (.inr (.inr (.inr (fun k => some (L (30 + 22 * c.2.2.1 k)))))))
  else if i = 24 then .inl (cy 0, 60, .inl c.2.2.2.2.1)
  else if i = 25 then .inr (2, [.int c.2.2.2.2.2.2.1.1, .int c.2.2.2.2.2.2.1.2.1, .int c.2.2.2.2.2.2.1.2.2.1, .int c.2.2.2.2.2.2.1.2.2.2.1, .int c.2.2.2.2.2.2.1.2.2.2.2])
  else if i < 29 then sCell cy L 26 c.2.2.2.2.2.2.2.1 (i - 26)
  else if i = 29 then .inr (0, [.int c.2.2.2.2.2.2.2.2.1, .int c.2.2.2.2.2.2.2.2.2])
  else yCell cy L (30 + 22 * ((i - 30) / 22)) (c.2.1 ((i - 30) / 22)) ((i - 30) % 22)
def cW (cy : Nat → ClassId) (L : Nat → Nat) (F : Nat → va_E) (c : CT) : Nat → va_E := fun i => if 162 ≤ i then F i else cCell cy L c i
section CWHOLE
variable {cy : Nat → ClassId} {L : Nat → Nat} {F : Nat → va_E} {k j p : Nat} {c : CT} {y y2 : YT} {v : ST} {h : HT} {r : RT}
theorem cW_n {i : Nat} (hi : 162 ≤ i) : cW cy L F c i = F i := by
  unfold cW
  rw [if_pos hi]
theorem cW_i {i : Nat} (hi : i < 162) : cW cy L F c i = cCell cy L c i := by
  unfold cW
  rw [if_neg (by omega)]
theorem cW_o : cW cy L F c 0 = .inr (4, [.ref (L 1), .ref (L 23), .int (nI c.2.2.2.1), .ref (L 24), .int (nI c.2.2.2.2.2.1), .ref (L 25), .ref (L 26), .ref (L 29)]) := cW_i (by omega)
theorem cW_v : cW cy L F c 23 = .inl (cy 3, 6, .inr (.inr (.inr (.inr (fun k => some (L (30 + 22 * c.2.2.1 k))))))) := cW_i (by omega)
theorem cW_b : cW cy L F c 24 = .inl (cy 0, 60, .inl c.2.2.2.2.1) := cW_i (by omega)
theorem cW_r : cW cy L F c 25 = .inr (2, [.int c.2.2.2.2.2.2.1.1, .int c.2.2.2.2.2.2.1.2.1, .int c.2.2.2.2.2.2.1.2.2.1, .int c.2.2.2.2.2.2.1.2.2.2.1, .int c.2.2.2.2.2.2.1.2.2.2.2]) := cW_i (by omega)
theorem cCell_y {q : Nat} (hq : q < 22) : cCell cy L c (1 + q) = yCell cy L 1 c.1 q := by
  unfold cCell
  rw [if_neg (by omega), if_pos (by omega), show 1 + q - 1 = q by omega]
theorem cCell_v {q : Nat} (hq : q < 22) : cCell cy L c (30 + 22 * p + q) = yCell cy L (30 + 22 * p) (c.2.1 p) q := by
  unfold cCell
  rw [if_neg (by omega), if_neg (by omega), if_neg (by omega), if_neg (by omega), if_neg (by omega), if_neg (by omega), if_neg (by omega), show (30 + 22 * p + q - 30) / 22 = p by omega, show (30 + 22 * p + q - 30) % 22 = q by omega]
/-- a place's cell speaks of one part of the whole alone -/
theorem cCell_eq {c2 : CT} {i : Nat} (h0 : i = 0 → c.2.2.2.1 = c2.2.2.2.1 ∧ c.2.2.2.2.2.1 = c2.2.2.2.2.2.1) (h1 : 0 < i → i < 23 → c.1 = c2.1) (h2 : i = 23 → c.2.2.1 = c2.2.2.1) (h3 : i = 24 → c.2.2.2.2.1 = c2.2.2.2.2.1) (h4 : i = 25 → c.2.2.2.2.2.2.1 = c2.2.2.2.2.2.2.1) (h5 : 25 < i → i < 29 → c.2.2.2.2.2.2.2.1 = c2.2.2.2.2.2.2.2.1) (h6 : i = 29 → c.2.2.2.2.2.2.2.2 = c2.2.2.2.2.2.2.2.2) (h7 : 30 ≤ i → c.2.1 ((i - 30) / 22) = c2.2.1 ((i - 30) / 22)) : cCell cy L c i = cCell cy L c2 i := by
  unfold cCell
  split
  · rename_i e
    rw [(h0 e).1, (h0 e).2]
  · split
    · rw [h1 (by omega) (by omega)]
    · split
      · rename_i e
        rw [h2 e]
      · split
        · rename_i e
          rw [h3 e]
        · split
          · rename_i e
            rw [h4 e]
          · split
            · rw [h5 (by omega) (by omega)]
            · split
              · rename_i e
                rw [h6 e]
              · rw [h7 (by omega)]
theorem cW_eq {G : Nat → va_E} {c2 : CT} (hF : ∀ i, 162 ≤ i → G i = F i) (hC : ∀ i, i < 162 → G i = cCell cy L c2 i) : G = cW cy L F c2 := by
  funext i
  by_cases h : 162 ≤ i
  · rw [hF i h, cW_n h]
  · rw [hC i (by omega), cW_i (by omega)]
theorem cW_Y : yW cy L (cW cy L F c) 1 y = cW cy L F (y, c.2) := by
  refine cW_eq (fun i hi => by rw [yW_n (by omega), cW_n hi]) (fun i hi => ?_)
  by_cases h : i < 1 ∨ 1 + 22 ≤ i
  · rw [yW_n h, cW_i hi]
    exact cCell_eq (fun _ => ⟨rfl, rfl⟩) (fun _ _ => absurd h (by omega)) (fun _ => rfl) (fun _ => rfl) (fun _ => rfl) (fun _ _ => rfl) (fun _ => rfl) (fun _ => rfl)
  · obtain ⟨q, rfl⟩ : ∃ q, i = 1 + q := ⟨i - 1, by omega⟩
    rw [yW_i (by omega), cCell_y (by omega)]
theorem cW_Y0 : yW cy L (cW cy L F c) 1 (cY c) = cW cy L F c := cW_Y
theorem cW_V (hp : p < 6) : yW cy L (cW cy L F c) (30 + 22 * p) y = cW cy L F (c.1, vSet c.2.1 p y, c.2.2) := by
  refine cW_eq (fun i hi => by rw [yW_n (by omega), cW_n hi]) (fun i hi => ?_)
  by_cases h : i < 30 + 22 * p ∨ 30 + 22 * p + 22 ≤ i
  · rw [yW_n h, cW_i hi]
    refine cCell_eq (fun _ => ⟨rfl, rfl⟩) (fun _ _ => rfl) (fun _ => rfl) (fun _ => rfl) (fun _ => rfl) (fun _ _ => rfl) (fun _ => rfl) (fun h7 => ?_)
    have h8 : ¬ (i - 30) / 22 = p := by omega
    simp only [vSet, if_neg h8]
  · obtain ⟨q, rfl⟩ : ∃ q, i = 30 + 22 * p + q := ⟨i - (30 + 22 * p), by omega⟩
    rw [yW_i (by omega), cCell_v (by omega)]
    simp [vSet]
theorem vSet_id {V : Nat → YT} : vSet V p (V p) = V := by
  funext i
  unfold vSet
  split
  · rename_i e
    rw [e]
  · rfl
theorem cW_V0 (hp : p < 6) : yW cy L (cW cy L F c) (30 + 22 * p) (cV c p) = cW cy L F c := by rw [cW_V hp, vSet_id]
theorem cW_S (hk : k < 4) : sW cy L (cW cy L F c) (1 + 4 + 3 * k) v = cW cy L F (ySetS c.1 k v, c.2) := by
  rw [show cW cy L F c = yW cy L (cW cy L F c) 1 c.1 from cW_Y.symm, yW_S hk, cW_Y]
theorem cW_S0 (hk : k < 4) : sW cy L (cW cy L F c) (1 + 4 + 3 * k) (yS (cY c) k) = cW cy L F c := by rw [cW_S hk, ySetS_id]
theorem cW_H (hj : j < 6) : hW (cW cy L F c) (1 + 16 + j) h = cW cy L F (ySetH c.1 j h, c.2) := by
  rw [show cW cy L F c = yW cy L (cW cy L F c) 1 c.1 from cW_Y.symm, yW_H hj, cW_Y]
theorem cW_H0 (hj : j < 6) : hW (cW cy L F c) (1 + 16 + j) (yH (cY c) j) = cW cy L F c := by rw [cW_H hj, ySetH_id]
theorem cW_T : sW cy L (cW cy L F c) 26 v = cW cy L F (cMk c.1 c.2.1 c.2.2.1 c.2.2.2.1 c.2.2.2.2.1 c.2.2.2.2.2.1 c.2.2.2.2.2.2.1 v c.2.2.2.2.2.2.2.2) := by
  refine cW_eq (fun i hi => by rw [sW_n (by omega), cW_n hi]) (fun i hi => ?_)
  by_cases h : i < 26 ∨ 26 + 3 ≤ i
  · rw [sW_n h, cW_i hi]
    exact cCell_eq (fun _ => ⟨rfl, rfl⟩) (fun _ _ => rfl) (fun _ => rfl) (fun _ => rfl) (fun _ => rfl) (fun _ _ => absurd h (by omega)) (fun _ => rfl) (fun _ => rfl)
  · rcases (show i = 26 ∨ i = 27 ∨ i = 28 by omega) with rfl | rfl | rfl
    · rw [sW_o]
      rfl
    · rw [show sW cy L (cW cy L F c) 26 v 27 = _ from sW_t]
      rfl
    · rw [show sW cy L (cW cy L F c) 26 v 28 = _ from sW_a]
      rfl
theorem cW_T0 : sW cy L (cW cy L F c) 26 (cT c) = cW cy L F c := cW_T
theorem cW_U : hW (cW cy L F c) 29 h = cW cy L F (cMk c.1 c.2.1 c.2.2.1 c.2.2.2.1 c.2.2.2.2.1 c.2.2.2.2.2.1 c.2.2.2.2.2.2.1 c.2.2.2.2.2.2.2.1 h) := by
  refine cW_eq (fun i hi => by rw [hW_n (by omega), cW_n hi]) (fun i hi => ?_)
  by_cases h1 : i = 29
  · subst h1
    rw [hW_o]
    rfl
  · rw [hW_n h1, cW_i hi]
    exact cCell_eq (fun _ => ⟨rfl, rfl⟩) (fun _ _ => rfl) (fun _ => rfl) (fun _ => rfl) (fun _ => rfl) (fun _ _ => rfl) (fun e => absurd e h1) (fun _ => rfl)
theorem cW_U0 : hW (cW cy L F c) 29 (cU c) = cW cy L F c := cW_U
theorem cW_R : rW (cW cy L F c) 25 r = cW cy L F (cMk c.1 c.2.1 c.2.2.1 c.2.2.2.1 c.2.2.2.2.1 c.2.2.2.2.2.1 r c.2.2.2.2.2.2.2.1 c.2.2.2.2.2.2.2.2) := by
  refine cW_eq (fun i hi => by rw [rW_n (by omega), cW_n hi]) (fun i hi => ?_)
  by_cases h1 : i = 25
  · subst h1
    rw [rW_o]
    rfl
  · rw [rW_n h1, cW_i hi]
    exact cCell_eq (fun _ => ⟨rfl, rfl⟩) (fun _ _ => rfl) (fun _ => rfl) (fun _ => rfl) (fun e => absurd e h1) (fun _ _ => rfl) (fun _ => rfl) (fun _ => rfl)
theorem cW_R0 : rW (cW cy L F c) 25 (cR c) = cW cy L F c := cW_R
theorem cW_u {i : Nat} {e : va_E} {c2 : CT} (hi : i < 162) (he : cCell cy L c2 i = e) (hne : ∀ q, q < 162 → q ≠ i → cCell cy L c q = cCell cy L c2 q) : gup (cW cy L F c) i e = cW cy L F c2 := by
  refine cW_eq (fun q hq => by rw [gup_n (by omega), cW_n hq]) (fun q hq => ?_)
  by_cases h1 : q = i
  · subst h1
    rw [gup_s, he]
  · rw [gup_n h1, cW_i hq, hne q hq h1]
theorem cW_uo {sn ln : Nat} : gup (cW cy L F c) 0 (.inr (4, [.ref (L 1), .ref (L 23), .int (nI sn), .ref (L 24), .int (nI ln), .ref (L 25), .ref (L 26), .ref (L 29)])) = cW cy L F (cMk c.1 c.2.1 c.2.2.1 sn c.2.2.2.2.1 ln c.2.2.2.2.2.2.1 c.2.2.2.2.2.2.2.1 c.2.2.2.2.2.2.2.2) :=
  cW_u (by omega) rfl (fun q hq h => cCell_eq (fun e => absurd e h) (fun _ _ => rfl) (fun _ => rfl) (fun _ => rfl) (fun _ => rfl) (fun _ _ => rfl) (fun _ => rfl) (fun _ => rfl))
theorem cW_ub {f : Nat → Int32} : gup (cW cy L F c) 24 (.inl (cy 0, 60, .inl f)) = cW cy L F (cMk c.1 c.2.1 c.2.2.1 c.2.2.2.1 f c.2.2.2.2.2.1 c.2.2.2.2.2.2.1 c.2.2.2.2.2.2.2.1 c.2.2.2.2.2.2.2.2) :=
  cW_u (by omega) rfl (fun q hq h => cCell_eq (fun _ => ⟨rfl, rfl⟩) (fun _ _ => rfl) (fun _ => rfl) (fun e => absurd e h) (fun _ => rfl) (fun _ _ => rfl) (fun _ => rfl) (fun _ => rfl))
theorem cW_uv : gup (cW cy L F c) 23 (.inl (cy 3, 6, .inr (.inr (.inr (.inr (va_up (fun k => some (L (30 + 22 * c.2.2.1 k))) k (some (L (30 + 22 * p))))))))) = cW cy L F (cMk c.1 c.2.1 (nSet c.2.2.1 k p) c.2.2.2.1 c.2.2.2.2.1 c.2.2.2.2.2.1 c.2.2.2.2.2.2.1 c.2.2.2.2.2.2.2.1 c.2.2.2.2.2.2.2.2) := by
  refine cW_u (by omega) ?_ (fun q hq h => cCell_eq (fun _ => ⟨rfl, rfl⟩) (fun _ _ => rfl) (fun e => absurd e h) (fun _ => rfl) (fun _ => rfl) (fun _ _ => rfl) (fun _ => rfl) (fun _ => rfl))
  have e1 : (fun i => some (L (30 + 22 * nSet c.2.2.1 k p i))) = va_up (fun i => some (L (30 + 22 * c.2.2.1 i))) k (some (L (30 + 22 * p))) := by
    funext i
    unfold va_up nSet
    split <;> rfl
  show cCell cy L _ 23 = _
  unfold cCell
  rw [if_neg (by omega), if_neg (by omega), if_pos rfl]
  exact congrArg (fun z => (Sum.inl (cy 3, 6, Sum.inr (Sum.inr (Sum.inr (Sum.inr z)))) : va_E)) e1
/-- what the methods that read the settings find -/
theorem cE_cW : cE cy L (cW cy L F c) (yZ (cY c)) := by
  refine ⟨⟨_, cW_o⟩, ?_, cW_i (by omega)⟩
  refine ⟨.ref (L 2), .ref (L 3), [.int (c.1.2.2.2 0), .int (c.1.2.2.2 1), .int (c.1.2.2.2 2), .int (c.1.2.2.2 3), .int (c.1.2.2.2 4), .int (c.1.2.2.2 5)], cW_i (by omega)⟩
end CWHOLE
