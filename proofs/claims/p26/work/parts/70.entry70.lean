/-! AT THE LAW'S ENTRY: what the new object holds, and what the tables and the start say -/
theorem y0_ok : okY 0 y0 := by
  refine ⟨fun k hk => ⟨?_, fun j hj => absurd hj (Nat.not_lt_zero j), ?_, ?_, ?_, ?_, ?_⟩, fun j hj => ?_, ?_⟩
  · exact Nat.zero_le 10
  · show (0 : Int32).toInt ≤ 1200
    decide
  · show (0 : Int) ≤ (0 : Int32).toInt ∧ (0 : Int32).toInt ≤ 4
    decide
  · exact Or.inl rfl
  · intro h
    exact absurd (show (0 : Int32) = 1 from h) (by decide)
  · exact Or.inl rfl
  · show 0 ≤ (0 : Int32).toInt ∧ (0 : Int32).toInt ≤ (500 : Int32).toInt ∧ (500 : Int32).toInt ≤ 900
    decide
  · show ((0 : Int) ≤ (z_first 0).toInt ∧ (z_first 0).toInt ≤ 16) ∧ ((1 : Int) ≤ (z_first 1).toInt ∧ (z_first 1).toInt ≤ 20) ∧ ((5 : Int) ≤ (z_first 2).toInt ∧ (z_first 2).toInt ≤ 100) ∧ ((0 : Int) ≤ (z_first 3).toInt ∧ (z_first 3).toInt ≤ 900)
    decide +kernel
theorem y0_cn : cnY y0 := ⟨fun _ _ => rfl, fun _ _ _ _ => ⟨rfl, rfl⟩, fun _ _ => rfl, fun _ _ => rfl, fun _ _ => rfl⟩
theorem IY_0 : IY 0 y0 := by
  refine ⟨y0_ok, y0_cn, ?_, fun _ k _ j hj => absurd hj (Nat.not_lt_zero (j + 1)), ?_, ?_⟩
  · show (0 : Int) ≤ (0 : Int32).toInt ∧ (0 : Int32).toInt ≤ ((0 : Nat) : Int)
    decide
  · have e1 : y_silos y0 4 = 0 := by decide +kernel
    have e2 : y_ships y0 6 = 0 := by decide +kernel
    rw [e1, e2]
    decide
  · have e1 : y_pads y0 4 = 0 := by decide +kernel
    rw [e1]
    decide +kernel
theorem LI_0 : LI 0 c0C := ⟨IY_0, Nat.zero_le 6, fun i hi => hi, fun i j _ _ h => h, fun _ _ => y0_cn, fun i hi => absurd hi (Nat.not_lt_zero i)⟩
/-- a static row of four ints, out of the start's words -/
theorem gsa_of {n : String} {f : Nat → Int32} {A : Array Value} {s : State} {B : Nat → Prop} (hl : (Cond.laysStatic "SiloPads" n "[I").before A s = true) (hi : (Cond.initialized "SiloPads").before A s = true) (harr : (Cond.arrayOf (.static "SiloPads" n "[I") .int).before A s = true) (hlen : (Cond.eq (.length (.static "SiloPads" n "[I")) (.int 4)).before A s = true)
    (h0 : (Cond.eq (.elem (.static "SiloPads" n "[I") (.int 0)) (.int (f 0))).before A s = true) (h1 : (Cond.eq (.elem (.static "SiloPads" n "[I") (.int 1)) (.int (f 1))).before A s = true) (h2 : (Cond.eq (.elem (.static "SiloPads" n "[I") (.int 2)) (.int (f 2))).before A s = true) (h3 : (Cond.eq (.elem (.static "SiloPads" n "[I") (.int 3)) (.int (f 3))).before A s = true)
    (hA : ∀ a : Nat, a < s.heap.size → ¬ B a) : gsa n f B s s.heap := by
  obtain ⟨t, ht, hT⟩ := va_Tof (N := 4) (f := fun j => .int (f j)) (by decide) harr (va_eqt hlen) (fun j hj => by
    rcases (show j = 0 ∨ j = 1 ∨ j = 2 ∨ j = 3 by omega) with rfl | rfl | rfl | rfl
    · exact va_eqt h0
    · exact va_eqt h1
    · exact va_eqt h2
    · exact va_eqt h3) hA
  exact ⟨t, va_Zof hl hi ht hA, hT⟩
theorem len_small {A : Array Value} {s : State} {t : Term} {v : Value} {a : Nat} {cell : Cell} (ht : t.eval A s none [] s = some (.ref a)) (harr : s.arrayAt? a = some cell) (hv : (Term.length t).eval A s none [] s = some v) : cell.slots.size < 2 ^ 31 := by
  simp only [Term.eval, ht, harr, Option.bind_eq_bind, Option.bind_some] at hv
  by_cases hlt : cell.slots.size < 2147483648
  · exact hlt
  · simp [hlt] at hv
theorem gcl_of {cy : Nat → ClassId} {A : Array Value} {s : State} {B : Nat → Prop} (hc : s.vm.findClass "[I" = some (cy 0)) (hex : (Cond.exactly (.static "SiloPads" "SETTING_FIRST" "[I") "[I").before A s = true) (hlen : (Cond.eq (.length (.static "SiloPads" "SETTING_FIRST" "[I")) (.int 4)).before A s = true) (h : gsa "SETTING_FIRST" z_first B s s.heap) (ht : ∀ t, va_Z "SiloPads" "SETTING_FIRST" "[I" (.ref t) B s s.heap → (Term.static "SiloPads" "SETTING_FIRST" "[I").eval A s none [] s = some (.ref t)) : gcl cy B s s.heap := by
  obtain ⟨t, hZ, cell, h1, h2, h3, h4, h5, h6, h7⟩ := h
  obtain ⟨a, c, cell2, k, e1, e2, e3, e4, e5, e6, -⟩ := Cond.exactly_spec hex
  have et := ht t hZ
  cases et.symm.trans e1
  cases h1.symm.trans e3
  cases e2.symm.trans hc
  have hsz : cell.slots.size = 4 := by
    have hv := va_eqt hlen
    obtain ⟨b, cell3, q1, harr, q3⟩ := Term.length_spec hv
    cases et.symm.trans q1
    cases h1.symm.trans (State.arrayAt?_spec harr).1
    have hlt := len_small et harr hv
    have q3 : (Value.int 4) = .int cell.slots.size.toInt32 := q3
    have q4 : Int32.ofNat 4 = Int32.ofNat cell.slots.size := Value.int.inj q3
    have q5 := congrArg Int32.toInt q4
    rw [show (Int32.ofNat cell.slots.size).toInt = (cell.slots.size : Int) from nI_toInt hlt, show (Int32.ofNat 4).toInt = 4 from by decide] at q5
    omega
  refine ⟨t, cell, hZ, h1, e6, ?_, fun k hk => ?_, h3, h7⟩
  · apply Array.ext_getElem?
    intro j
    by_cases hj : j < 4
    · rw [h6 j hj]
      exact (arrV_read (cy 0) (N := 4) (fun j => Value.int (z_first j)) hj).symm
    · rw [Array.getElem?_eq_none (by omega), Array.getElem?_eq_none (by rw [show (vp_cell (cy 0) (4, .inl z_first)).slots.size = 4 from arrV_size _ _ _]; omega)]
  · rw [hk] at e5
    cases e5

