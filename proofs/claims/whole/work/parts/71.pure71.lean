/-! AN HOUR OF FLOWING on both sides -/
theorem i_div {a b : Int32} {x y : Int} (ha : a.toInt = x) (hb : b.toInt = y) (h0 : 0 ≤ x) (h1 : 0 < y) (h2 : x < 2147483648) : (a / b).toInt = x / y := by
  rw [Int32.toInt_div, ha, hb, Int.tdiv_eq_ediv_of_nonneg h0]
  have h3 : 0 ≤ x / y := Int.ediv_nonneg h0 (by omega)
  have h4 : x / y ≤ x := Int.ediv_le_self y h0
  rw [Int.bmod_eq_of_le (by omega) (by omega)]
theorem out_eq {s : Nat → Int32} {k j : Nat} {v : ST} {h : HT} {z : Nat → Int32} (hS : RS s k v) (hH9 : RH s j h) (hn : sN v ≤ 10) (hz : s 7 = z 1) (h0 : ¬ sN v = 0) (h2 : ¬ sC v = 2) (h012 : sC v = 0 ∨ sC v = 1 ∨ sC v = 2) : g_out s k j = c_out z v h := by
  unfold g_out
  rw [hS.1, if_neg (fun e => h0 ((nI_le0 (by omega)).mp e)), hS.2.2.1, if_neg, flows_eq hS hn hz, (hS.2.2.2.2 0 (by omega)).1, hH9.1, hH9.2]
  · unfold c_out
    rw [i_eq, i_gmin, i_gmin, i_smin, i_smin]
    omega
  · rcases h012 with e | e | e
    · rw [e]; decide
    · rw [e]; decide
    · exact absurd e h2
theorem out_0 {s : Nat → Int32} {k j : Nat} {v : ST} (hS : RS s k v) (hn : sN v ≤ 10) (h : sN v = 0 ∨ sC v = 2) : g_out s k j = 0 := by
  unfold g_out
  rcases h with h | h
  · rw [if_pos (by rw [hS.1, h]; decide)]
  · split
    · rfl
    · rw [if_pos (by rw [hS.2.2.1, h]; decide)]
theorem out_B {m : Int} {z : Nat → Int32} {v : ST} {h : HT} (ho : okS m v) (hh : okH h) (h0 : ¬ sN v = 0) : 0 ≤ (c_out z v h).toInt ∧ (c_out z v h).toInt ≤ 160 ∧ (c_out z v h).toInt ≤ (sT v 0).toInt ∧ (c_out z v h).toInt ≤ (hH h).toInt - (hT h).toInt := by
  have h1 := outH_B (z := z) ho
  have h2 := (ho.2.1 0 (by omega)).1
  unfold iB at h2
  unfold okH at hh
  have h3 : (hH h - hT h).toInt = (hH h).toInt - (hT h).toInt := i_sub (by omega) (by omega)
  unfold c_out
  rw [i_smin, i_smin, h3]
  omega
theorem dust_B {z : Nat → Int32} {o : Int32} (hz : okZ z) (h0 : 0 ≤ o.toInt) : c_dust z o = o / z 2 ∧ 0 ≤ (o / z 2).toInt ∧ (o / z 2).toInt ≤ o.toInt := by
  have h2 := hz.2.2.1
  unfold iB at h2
  refine ⟨?_, ?_⟩
  · unfold c_dust
    rw [if_neg (by rw [i_le, i_0]; omega)]
  · have h9 := Int32.toInt_lt o
    rw [i_div rfl rfl h0 (by omega) (by omega)]
    exact ⟨Int.ediv_nonneg h0 (by omega), Int.ediv_le_self _ h0⟩
theorem upd_self {f : Nat → Int32} {i : Nat} : upd f i (f i) = f := by
  funext j
  by_cases h : j = i
  · rw [h, pk_us]
  · rw [pk_un h]
theorem cpN_down {f : Nat → Int32} {n j : Nat} (h : j < n) : cpN f f (0) (1) n j = f (j + 1) := by
  unfold cpN
  rw [if_pos (by omega)]
  rfl
theorem s_gone_T {v : ST} {o : Int32} {j : Nat} (h : j < sN v - 1) : sT (s_gone v o) j = sT v (j + 1) := by
  show cpN _ _ (0) (1) (sN v - 1) j = _
  rw [cpN_down h, pk_un (by omega)]
theorem s_gone_A {v : ST} {o : Int32} {j : Nat} (h : j < sN v - 1) : sA (s_gone v o) j = sA v (j + 1) := by
  show cpN _ _ (0) (1) (sN v - 1) j = _
  rw [cpN_down h]
theorem g_drop_at {s : Nat → Int32} {k n i : Nat} (h1 : i < 2 * (n - 1)) (hn : n ≤ 10) : g_drops s k n (10 + 24 * k + (4 + i)) = s (10 + 24 * k + (4 + (i + 2))) := by
  unfold g_drops g_drop3 g_drop2
  rw [pk_un (by omega), pk_un (by omega), pk_un (by omega)]
  unfold cpN
  rw [if_pos (by omega)]
  unfold g_drop1
  rw [pk_un (by omega)]
  congr 1
  omega
theorem g_drop_C {s : Nat → Int32} {k n : Nat} (h1 : 1 ≤ n) : g_drops s k n (10 + 24 * k + 1) = if s (10 + 24 * k + 1) = 1 then 2 else s (10 + 24 * k + 1) := by
  have e : g_drop3 s k n (10 + 24 * k + 1) = s (10 + 24 * k + 1) := by
    unfold g_drop3 g_drop2
    rw [pk_un (by omega), pk_un (by omega)]
    unfold cpN
    rw [if_neg (by omega)]
    unfold g_drop1
    rw [pk_un (by omega)]
  unfold g_drops
  rw [pk_us, e]
theorem g_drop_PK {s : Nat → Int32} {k n i : Nat} (h1 : 1 ≤ n) (hi : i = 0 ∨ i = 2) : g_drops s k n (10 + 24 * k + i) = s (10 + 24 * k + i) := by
  unfold g_drops g_drop3 g_drop2
  rw [pk_un (by omega), pk_un (by omega), pk_un (by omega)]
  unfold cpN
  rw [if_neg (by omega)]
  unfold g_drop1
  rw [pk_un (by omega)]
theorem RS_gone {s : Nat → Int32} {k : Nat} {v : ST} {o : Int32} (h : RS s k (sT (s_take v o), sA v, sN v, sP v, sC v, sK v)) (hn : sN v ≤ 10) (h1 : 1 ≤ sN v) (e : ∀ j, 1 ≤ j → j < sN v → sT (s_take v o) j = sT v j) : RS (g_drops s k (sN v)) k (s_gone v o) := by
  obtain ⟨a1, a2, a3, a4, a5⟩ := h
  refine ⟨g_drops_many h1, ?_, ?_, ?_, fun j hj => ?_⟩
  · rw [g_drop_PK h1 (Or.inl rfl)]; exact a2
  · rw [g_drop_C h1, a3]; rfl
  · rw [g_drop_PK h1 (Or.inr rfl)]; exact a4
  · have hj : j < sN v - 1 := hj
    have b := a5 (j + 1) (by show j + 1 < sN v; omega)
    rw [s_gone_T hj, s_gone_A hj]
    refine ⟨?_, ?_⟩
    · rw [g_drop_at (by omega) hn, show 10 + 24 * k + (4 + (2 * j + 2)) = 10 + 24 * k + (4 + 2 * (j + 1)) by omega, b.1]
      exact e (j + 1) (by omega) (by omega)
    · rw [show 10 + 24 * k + (4 + 2 * j + 1) = 10 + 24 * k + (4 + (2 * j + 1)) by omega, g_drop_at (by omega) hn, show 10 + 24 * k + (4 + (2 * j + 1 + 2)) = 10 + 24 * k + (4 + 2 * (j + 1) + 1) by omega, b.2]
theorem total_upd0 {t : Nat → Int32} {n : Nat} {x : Int32} (h : 1 ≤ n) : s_sum (upd t 0 x) 0 n = x + s_sum t 1 (n - 1) := by
  obtain ⟨q, rfl⟩ : ∃ q, n = q + 1 := ⟨n - 1, by omega⟩
  rw [sum_first, pk_us, show q + 1 - 1 = q from rfl, sum_cong (t := t) (t2 := upd t 0 x) q (fun i h1 h2 => pk_un (by omega))]
theorem total_0 {t : Nat → Int32} {n : Nat} (h : 1 ≤ n) : s_sum t 0 n = t 0 + s_sum t 1 (n - 1) := by
  obtain ⟨q, rfl⟩ : ∃ q, n = q + 1 := ⟨n - 1, by omega⟩
  rw [sum_first]
  rfl
theorem i_sac {a b o : Int32} : a - o + b = a + b - o := by
  apply Int32.toBitVec_inj.mp
  simp only [Int32.toBitVec_add, Int32.toBitVec_sub]
  rw [BitVec.sub_eq_add_neg, BitVec.sub_eq_add_neg, BitVec.add_assoc, BitVec.add_comm (-o.toBitVec), BitVec.add_assoc]
theorem take_total {v : ST} {o : Int32} (h : 1 ≤ sN v) (ho : o.toInt ≤ (sT v 0).toInt) (h0 : 0 ≤ o.toInt) : s_total (s_take v o) = s_total v - o := by
  have e9 : s_total v = sT v 0 + s_sum (sT v) 1 (sN v - 1) := total_0 h
  have h9 := Int32.toInt_lt (sT v 0)
  unfold s_take
  split
  · rename_i hz
    rw [pk_us] at hz
    have ez : sT v 0 - o = 0 := i_z hz (by rw [i_sub (by omega) (by omega)]; omega)
    have e1 : s_total (s_gone v o) = s_sum (sT v) 1 (sN v - 1) := sum_shift (t := sT v) (t2 := sT (s_gone v o)) (j := 0) (i := 1) (sN v - 1) (fun q hq => by rw [Nat.zero_add, s_gone_T hq, Nat.add_comm])
    rw [e1, e9, ← i_sac, ez, Int32.zero_add]
  · have e1 : s_total (upd (sT v) 0 (sT v 0 - o), sA v, sN v, sP v, sC v, sK v) = sT v 0 - o + s_sum (sT v) 1 (sN v - 1) := total_upd0 h
    rw [e1, e9, i_sac]
theorem okS_take {m : Int} {v : ST} {o : Int32} (hs : okS m v) (h : 1 ≤ sN v) (ho : o.toInt ≤ (sT v 0).toInt) (h0 : 0 ≤ o.toInt) : okS m (s_take v o) := by
  have ht := take_total h ho h0
  have hB := total_B hs
  obtain ⟨a1, a2, a3, a4, a5, a6, a7⟩ := hs
  have b0 := (a2 0 (by omega)).1
  unfold iB at b0
  have htt : (s_total (s_take v o)).toInt ≤ 1200 := by
    rw [ht, i_sub (by omega) (by omega)]
    omega
  revert htt
  unfold s_take
  split
  · intro htt
    refine ⟨by show sN v - 1 ≤ 10; omega, fun j hj => ?_, htt, a4, ?_, ?_, ?_⟩
    · have hj : j < sN v - 1 := hj
      rw [s_gone_T hj, s_gone_A hj]
      exact a2 (j + 1) (by omega)
    · rw [show sC (s_gone v o) = if sC v = 1 then 2 else sC v from rfl]
      split
      · exact Or.inr (Or.inr rfl)
      · exact a5
    · rw [show sC (s_gone v o) = if sC v = 1 then 2 else sC v from rfl]
      split
      · intro e; exact absurd e (by decide)
      · rename_i e; intro e2; exact absurd e2 e
    · rw [show sC (s_gone v o) = if sC v = 1 then 2 else sC v from rfl]
      split
      · rename_i e
        refine Or.inr ?_
        rcases a7 with a7 | a7
        · rw [e] at a7; exact absurd a7 (by decide)
        · exact a7
      · exact a7
  · rename_i hz
    rw [pk_us, i_le, i_0, i_sub (by omega) (by omega)] at hz
    intro htt
    refine ⟨a1, fun j hj => ?_, htt, a4, a5, a6, a7⟩
    have c := a2 j hj
    refine ⟨?_, c.2⟩
    show iB 1 500 (upd (sT v) 0 (sT v 0 - o) j)
    by_cases h9 : j = 0
    · subst h9
      rw [pk_us]
      unfold iB
      rw [i_sub (by omega) (by omega)]
      omega
    · rw [pk_un h9]; exact c.1
/-- what an hour leaves on the row, said beside what it leaves of silo and ship -/
def HourOK (m : Int) (s s2 : Nat → Int32) (k j : Nat) (v v2 : ST) (h h2 : HT) (r : Int32) : Prop :=
  RS s2 k v2 ∧ RH s2 j h2 ∧ okS m v2 ∧ okH h2 ∧ s2 1 = s 1 + (s_total v - s_total v2 - r) ∧ ∀ i, i ≠ 1 → i ≠ 106 + 2 * j → (i < 10 + 24 * k ∨ 10 + 24 * k + 24 ≤ i) → s2 i = s i
theorem i_sub0 {a : Int32} : a - 0 = a := by
  apply Int32.toBitVec_inj.mp
  simp
theorem i_subs {a : Int32} : a - a = 0 := by
  apply Int32.toBitVec_inj.mp
  simp
theorem i_0div {a : Int32} : (0 : Int32) / a = 0 := by
  rw [i_eq, Int32.toInt_div]
  simp
theorem hour_same {m : Int} {s : Nat → Int32} {k j : Nat} {v : ST} {h : HT} (hS : RS s k v) (hH9 : RH s j h) (ho : okS m v) (hh : okH h) : HourOK m s s k j v v h h 0 := by
  refine ⟨hS, hH9, ho, hh, ?_, fun i _ _ _ => rfl⟩
  rw [i_subs, i_sub0, Int32.add_zero]
theorem i_oo {T o d : Int32} : d = T - (T - o) - (o - d) := by grind
