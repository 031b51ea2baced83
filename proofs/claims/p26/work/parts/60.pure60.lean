/-! PURE: silos, ships, yards in order (taken from whole) -/
theorem i_add {a b : Int32} (h1 : -2147483648 ≤ a.toInt + b.toInt) (h2 : a.toInt + b.toInt < 2147483648) : (a + b).toInt = a.toInt + b.toInt := by
  rw [Int32.toInt_add, Int.bmod_eq_of_le (by omega) (by omega)]
theorem i_sub {a b : Int32} (h1 : -2147483648 ≤ a.toInt - b.toInt) (h2 : a.toInt - b.toInt < 2147483648) : (a - b).toInt = a.toInt - b.toInt := by
  rw [Int32.toInt_sub, Int.bmod_eq_of_le (by omega) (by omega)]
theorem i_mul {a b : Int32} (h1 : -2147483648 ≤ a.toInt * b.toInt) (h2 : a.toInt * b.toInt < 2147483648) : (a * b).toInt = a.toInt * b.toInt := by
  rw [Int32.toInt_mul, Int.bmod_eq_of_le (by omega) (by omega)]
theorem i_le {a b : Int32} : a ≤ b ↔ a.toInt ≤ b.toInt := Int32.le_iff_toInt_le
theorem i_lt {a b : Int32} : a < b ↔ a.toInt < b.toInt := Int32.lt_iff_toInt_lt
theorem i_eq {a b : Int32} : a = b ↔ a.toInt = b.toInt := Int32.toInt_inj.symm
theorem i_0 : (0 : Int32).toInt = 0 := by decide
theorem i_1 : (1 : Int32).toInt = 1 := by decide
theorem i_2 : (2 : Int32).toInt = 2 := by decide
theorem i_3 : (3 : Int32).toInt = 3 := by decide
theorem i_4 : (4 : Int32).toInt = 4 := by decide
theorem i_5 : (5 : Int32).toInt = 5 := by decide
theorem i_10 : (10 : Int32).toInt = 10 := by decide
theorem i_20 : (20 : Int32).toInt = 20 := by decide
theorem i_40 : (40 : Int32).toInt = 40 := by decide
theorem i_500 : (500 : Int32).toInt = 500 := by decide
theorem i_900 : (900 : Int32).toInt = 900 := by decide
theorem i_1200 : (1200 : Int32).toInt = 1200 := by decide
def iB (lo hi : Int) (x : Int32) : Prop := lo ≤ x.toInt ∧ x.toInt ≤ hi
theorem i_smin {a b : Int32} : (s_min a b).toInt = min a.toInt b.toInt := by
  unfold s_min
  split
  · rename_i h; rw [i_lt] at h; omega
  · rename_i h; rw [i_lt] at h; omega
theorem nI_z {n : Nat} (h : n < 2 ^ 31) : nI n = 0 ↔ n = 0 := nI_eq (b := 0) h (by omega)
theorem nI_le0 {n : Nat} (h : n < 2 ^ 31) : nI n ≤ 0 ↔ n = 0 := by
  rw [show (0 : Int32) = nI 0 from rfl, nI_leI h (by omega)]
  omega
theorem i_z {x : Int32} (h : x ≤ 0) (h0 : 0 ≤ x.toInt) : x = 0 := by rw [i_le, i_0] at h; rw [i_eq, i_0]; omega
def okS (m : Int) (v : ST) : Prop :=
  sN v ≤ 10 ∧ (∀ j, j < sN v → iB 1 500 (sT v j) ∧ iB 0 m (sA v j)) ∧ (s_total v).toInt ≤ 1200 ∧ iB 0 4 (sP v) ∧ (sC v = 0 ∨ sC v = 1 ∨ sC v = 2) ∧ (sC v = 1 → 1 ≤ sN v) ∧ (sC v = 0 ∨ iB 0 2 (sK v))
def okH (h : HT) : Prop := 0 ≤ (hT h).toInt ∧ (hT h).toInt ≤ (hH h).toInt ∧ (hH h).toInt ≤ 900
def okZ (z : Nat → Int32) : Prop := iB 0 16 (z 0) ∧ iB 1 20 (z 1) ∧ iB 5 100 (z 2) ∧ iB 0 900 (z 3)
def okY (m : Int) (y : YT) : Prop := (∀ k, k < 4 → okS m (yS y k)) ∧ (∀ j, j < 6 → okH (yH y j)) ∧ okZ (yZ y)
theorem okY.wf {m : Int} {y : YT} (h : okY m y) : wfY y := fun k hk => (h.1 k hk).1
theorem iB.mono {a b c : Int} {x : Int32} (h : iB a b x) (hc : b ≤ c) : iB a c x := ⟨h.1, Int.le_trans h.2 hc⟩
theorem okS.mono {m m2 : Int} {v : ST} (h : okS m v) (hm : m ≤ m2) : okS m2 v := ⟨h.1, fun j hj => ⟨(h.2.1 j hj).1, (h.2.1 j hj).2.mono hm⟩, h.2.2⟩
theorem okY.mono {m m2 : Int} {y : YT} (h : okY m y) (hm : m ≤ m2) : okY m2 y := ⟨fun k hk => (h.1 k hk).mono hm, h.2⟩
theorem sum_cong {t t2 : Nat → Int32} {j : Nat} : ∀ n, (∀ i, j ≤ i → i < j + n → t2 i = t i) → s_sum t2 j n = s_sum t j n
  | 0, _ => rfl
  | n + 1, h => by
    show s_sum t2 j n + t2 (j + n) = s_sum t j n + t (j + n)
    rw [sum_cong n (fun i h1 h2 => h i h1 (by omega)), h (j + n) (by omega) (by omega)]
theorem sum_B {t : Nat → Int32} {j : Nat} : ∀ n, n ≤ 10 → (∀ i, j ≤ i → i < j + n → iB 0 1200 (t i)) → 0 ≤ (s_sum t j n).toInt ∧ (s_sum t j n).toInt ≤ 1200 * n
  | 0, _, _ => ⟨by show (0 : Int) ≤ (0 : Int32).toInt; decide, by show (0 : Int32).toInt ≤ _; decide⟩
  | n + 1, hn, h => by
    have ih := sum_B (t := t) (j := j) n (by omega) (fun i h1 h2 => h i h1 (by omega))
    have h2 := h (j + n) (by omega) (by omega)
    unfold iB at h2
    show 0 ≤ (s_sum t j n + t (j + n)).toInt ∧ (s_sum t j n + t (j + n)).toInt ≤ _
    rw [i_add (by omega) (by omega)]
    omega
theorem sum_first {t : Nat → Int32} {j : Nat} : ∀ n, s_sum t j (n + 1) = t j + s_sum t (j + 1) n
  | 0 => by
    show s_sum t j 0 + t (j + 0) = t j + 0
    show (0 : Int32) + t j = t j + 0
    rw [Int32.zero_add, Int32.add_zero]
  | n + 1 => by
    show s_sum t j (n + 1) + t (j + (n + 1)) = t j + (s_sum t (j + 1) n + t (j + 1 + n))
    rw [sum_first n, Int32.add_assoc, show j + (n + 1) = j + 1 + n by omega]
theorem sum_shift {t t2 : Nat → Int32} {j i : Nat} : ∀ n, (∀ q, q < n → t2 (j + q) = t (i + q)) → s_sum t2 j n = s_sum t i n
  | 0, _ => rfl
  | n + 1, h => by
    show s_sum t2 j n + t2 (j + n) = s_sum t i n + t (i + n)
    rw [sum_shift n (fun q hq => h q (by omega)), h n (by omega)]
theorem total_B {m : Int} {v : ST} (h : okS m v) : 0 ≤ (s_total v).toInt ∧ (s_total v).toInt ≤ 1200 := by
  refine ⟨?_, h.2.2.1⟩
  exact (sum_B (t := sT v) (j := 0) (sN v - 0) (by have := h.1; omega) (fun i _ hi => ⟨by have := (h.2.1 i (by omega)).1.1; omega, by have := (h.2.1 i (by omega)).1.2; omega⟩)).1
theorem outH_B {m : Int} {z : Nat → Int32} {v : ST} (h : okS m v) : 0 ≤ (c_outH z v (sP v)).toInt ∧ (c_outH z v (sP v)).toInt ≤ 160 := by
  have h4 := h.2.2.2.1
  unfold iB at h4
  unfold c_outH
  split
  · decide
  · split
    · split
      · decide
      · rename_i h9
        rw [i_mul (by rw [i_40]; omega) (by rw [i_40]; omega), i_40]; omega
    · split
      · split
        · decide
        · rename_i h9
          rw [i_eq, i_0] at h9
          have : (sP v - 1).toInt = (sP v).toInt - 1 := by rw [i_sub (by rw [i_1]; omega) (by rw [i_1]; omega), i_1]
          rw [i_mul (by rw [this, i_20]; omega) (by rw [this, i_20]; omega), this, i_20]; omega
      · split
        · rename_i e; rw [e]; decide
        · decide

theorem i_div {a b : Int32} {x y : Int} (ha : a.toInt = x) (hb : b.toInt = y) (h0 : 0 ≤ x) (h1 : 0 < y) (h2 : x < 2147483648) : (a / b).toInt = x / y := by
  rw [Int32.toInt_div, ha, hb, Int.tdiv_eq_ediv_of_nonneg h0]
  have h3 : 0 ≤ x / y := Int.ediv_nonneg h0 (by omega)
  have h4 : x / y ≤ x := Int.ediv_le_self y h0
  rw [Int.bmod_eq_of_le (by omega) (by omega)]
theorem out_B {m : Int} {z : Nat → Int32} {v : ST} {h : HT} (ho : okS m v) (hh : okH h) (h0 : ¬ sN v = 0) : 0 ≤ (c_out z v h).toInt ∧ (c_out z v h).toInt ≤ 160 ∧ (c_out z v h).toInt ≤ (sT v 0).toInt ∧ (c_out z v h).toInt ≤ (hH h).toInt - (hT h).toInt := by
  have h1 := outH_B (z := z) ho
  have h2 := (ho.2.1 0 (by omega)).1
  unfold iB at h2
  unfold okH at hh
  have h3 : (hH h - hT h).toInt = (hH h).toInt - (hT h).toInt := i_sub (by omega) (by omega)
  unfold c_out
  rw [i_smin, i_smin, h3]
  omega
theorem dust_B {z : Nat → Int32} {o : Int32} (hz : okZ z) (h0 : 0 ≤ o.toInt) : c_dust z o = o / z 2 ∧ 0 ≤ (o / z 2).toInt ∧ (o / z 2).toInt ≤ o.toInt := by
  have h2 := hz.2.2.1
  unfold iB at h2
  refine ⟨?_, ?_⟩
  · unfold c_dust
    rw [if_neg (by rw [i_le, i_0]; omega)]
  · have h9 := Int32.toInt_lt o
    rw [i_div rfl rfl h0 (by omega) (by omega)]
    exact ⟨Int.ediv_nonneg h0 (by omega), Int.ediv_le_self _ h0⟩
theorem upd_self {f : Nat → Int32} {i : Nat} : upd f i (f i) = f := by
  funext j
  by_cases h : j = i
  · rw [h, pk_us]
  · rw [pk_un h]
theorem cpN_down {f : Nat → Int32} {n j : Nat} (h : j < n) : cpN f f (0) (1) n j = f (j + 1) := by
  unfold cpN
  rw [if_pos (by omega)]
  rfl
theorem s_gone_T {v : ST} {o : Int32} {j : Nat} (h : j < sN v - 1) : sT (s_gone v o) j = sT v (j + 1) := by
  show cpN _ _ (0) (1) (sN v - 1) j = _
  rw [cpN_down h, pk_un (by omega)]
theorem s_gone_A {v : ST} {o : Int32} {j : Nat} (h : j < sN v - 1) : sA (s_gone v o) j = sA v (j + 1) := by
  show cpN _ _ (0) (1) (sN v - 1) j = _
  rw [cpN_down h]
theorem total_upd0 {t : Nat → Int32} {n : Nat} {x : Int32} (h : 1 ≤ n) : s_sum (upd t 0 x) 0 n = x + s_sum t 1 (n - 1) := by
  obtain ⟨q, rfl⟩ : ∃ q, n = q + 1 := ⟨n - 1, by omega⟩
  rw [sum_first, pk_us, show q + 1 - 1 = q from rfl, sum_cong (t := t) (t2 := upd t 0 x) q (fun i h1 h2 => pk_un (by omega))]
theorem total_0 {t : Nat → Int32} {n : Nat} (h : 1 ≤ n) : s_sum t 0 n = t 0 + s_sum t 1 (n - 1) := by
  obtain ⟨q, rfl⟩ : ∃ q, n = q + 1 := ⟨n - 1, by omega⟩
  rw [sum_first]
  rfl
theorem i_sac {a b o : Int32} : a - o + b = a + b - o := by
  apply Int32.toBitVec_inj.mp
  simp only [Int32.toBitVec_add, Int32.toBitVec_sub]
  rw [BitVec.sub_eq_add_neg, BitVec.sub_eq_add_neg, BitVec.add_assoc, BitVec.add_comm (-o.toBitVec), BitVec.add_assoc]
theorem take_total {v : ST} {o : Int32} (h : 1 ≤ sN v) (ho : o.toInt ≤ (sT v 0).toInt) (h0 : 0 ≤ o.toInt) : s_total (s_take v o) = s_total v - o := by
  have e9 : s_total v = sT v 0 + s_sum (sT v) 1 (sN v - 1) := total_0 h
  have h9 := Int32.toInt_lt (sT v 0)
  unfold s_take
  split
  · rename_i hz
    rw [pk_us] at hz
    have ez : sT v 0 - o = 0 := i_z hz (by rw [i_sub (by omega) (by omega)]; omega)
    have e1 : s_total (s_gone v o) = s_sum (sT v) 1 (sN v - 1) := sum_shift (t := sT v) (t2 := sT (s_gone v o)) (j := 0) (i := 1) (sN v - 1) (fun q hq => by rw [Nat.zero_add, s_gone_T hq, Nat.add_comm])
    rw [e1, e9, ← i_sac, ez, Int32.zero_add]
  · have e1 : s_total (upd (sT v) 0 (sT v 0 - o), sA v, sN v, sP v, sC v, sK v) = sT v 0 - o + s_sum (sT v) 1 (sN v - 1) := total_upd0 h
    rw [e1, e9, i_sac]
theorem okS_take {m : Int} {v : ST} {o : Int32} (hs : okS m v) (h : 1 ≤ sN v) (ho : o.toInt ≤ (sT v 0).toInt) (h0 : 0 ≤ o.toInt) : okS m (s_take v o) := by
  have ht := take_total h ho h0
  have hB := total_B hs
  obtain ⟨a1, a2, a3, a4, a5, a6, a7⟩ := hs
  have b0 := (a2 0 (by omega)).1
  unfold iB at b0
  have htt : (s_total (s_take v o)).toInt ≤ 1200 := by
    rw [ht, i_sub (by omega) (by omega)]
    omega
  revert htt
  unfold s_take
  split
  · intro htt
    refine ⟨by show sN v - 1 ≤ 10; omega, fun j hj => ?_, htt, a4, ?_, ?_, ?_⟩
    · have hj : j < sN v - 1 := hj
      rw [s_gone_T hj, s_gone_A hj]
      exact a2 (j + 1) (by omega)
    · rw [show sC (s_gone v o) = if sC v = 1 then 2 else sC v from rfl]
      split
      · exact Or.inr (Or.inr rfl)
      · exact a5
    · rw [show sC (s_gone v o) = if sC v = 1 then 2 else sC v from rfl]
      split
      · intro e; exact absurd e (by decide)
      · rename_i e; intro e2; exact absurd e2 e
    · rw [show sC (s_gone v o) = if sC v = 1 then 2 else sC v from rfl]
      split
      · rename_i e
        refine Or.inr ?_
        rcases a7 with a7 | a7
        · rw [e] at a7; exact absurd a7 (by decide)
        · exact a7
      · exact a7
  · rename_i hz
    rw [pk_us, i_le, i_0, i_sub (by omega) (by omega)] at hz
    intro htt
    refine ⟨a1, fun j hj => ?_, htt, a4, a5, a6, a7⟩
    have c := a2 j hj
    refine ⟨?_, c.2⟩
    show iB 1 500 (upd (sT v) 0 (sT v 0 - o) j)
    by_cases h9 : j = 0
    · subst h9
      rw [pk_us]
      unfold iB
      rw [i_sub (by omega) (by omega)]
      omega
    · rw [pk_un h9]; exact c.1
theorem i_sub0 {a : Int32} : a - 0 = a := by
  apply Int32.toBitVec_inj.mp
  simp
theorem i_subs {a : Int32} : a - a = 0 := by
  apply Int32.toBitVec_inj.mp
  simp
theorem i_0div {a : Int32} : (0 : Int32) / a = 0 := by
  rw [i_eq, Int32.toInt_div]
  simp
theorem sum_last {t : Nat → Int32} {n : Nat} {x : Int32} (h : 1 ≤ n) : s_sum (upd t (n - 1) (t (n - 1) + x)) 0 n = s_sum t 0 n + x := by
  obtain ⟨q, rfl⟩ : ∃ q, n = q + 1 := ⟨n - 1, by omega⟩
  show s_sum (upd t q (t q + x)) 0 q + upd t q (t q + x) (0 + q) = s_sum t 0 q + t (0 + q) + x
  rw [Nat.zero_add, pk_us, sum_cong (t := t) (t2 := upd t q (t q + x)) q (fun i h1 h2 => pk_un (by omega)), Int32.add_assoc]
theorem sum_new {t : Nat → Int32} {n : Nat} {x : Int32} : s_sum (upd t n x) 0 (n + 1) = s_sum t 0 n + x := by
  show s_sum (upd t n x) 0 n + upd t n x (0 + n) = s_sum t 0 n + x
  rw [Nat.zero_add, pk_us, sum_cong (t := t) (t2 := upd t n x) n (fun i h1 h2 => pk_un (by omega))]
theorem onTop_B {m : Int} {v : ST} (ho : okS m v) : 0 ≤ (s_onTop v).toInt ∧ (s_onTop v).toInt ≤ 500 := by
  unfold s_onTop
  split
  · decide
  · split
    · have h := (ho.2.1 (sN v - 1) (by omega)).1
      unfold iB at h
      rw [i_sub (by rw [i_500]; omega) (by rw [i_500]; omega), i_500]
      omega
    · decide
theorem place_I {m : Int} {v : ST} (ho : okS m v) : (s_place v).toInt = min ((s_onTop v).toInt + (if 10 ≤ sN v then 0 else 500)) (1200 - (s_total v).toInt) := by
  have h1 := onTop_B ho
  have h2 := total_B ho
  have e1 : (1200 - s_total v).toInt = 1200 - (s_total v).toInt := by rw [i_sub (by rw [i_1200]; omega) (by rw [i_1200]; omega), i_1200]
  have e2 : (s_onTop v + (if 10 ≤ sN v then 0 else 500)).toInt = (s_onTop v).toInt + (if 10 ≤ sN v then 0 else 500) := by
    split
    · rw [Int32.add_zero, Int.add_zero]
    · rw [i_add (by rw [i_500]; omega) (by rw [i_500]; omega), i_500]
  show (s_min (1200 - s_total v) (s_onTop v + (if 10 ≤ sN v then 0 else 500))).toInt = _
  rw [i_smin, e1, e2, Int.min_comm]
theorem br_I {m : Int} {v : ST} {h : HT} {t : Int32} (ho : okS m v) : (c_brR v h t).toInt = min t.toInt (min (hT h).toInt (min ((s_onTop v).toInt + (if 10 ≤ sN v then 0 else 500)) (1200 - (s_total v).toInt))) := by
  unfold c_brR
  rw [i_smin, i_smin, place_I ho]
theorem s_top_I {v : ST} {a : Int32} : (s_top v a).toInt = min (s_onTop v).toInt a.toInt := by
  unfold s_top
  split
  · rename_i h; rw [i_lt] at h; omega
  · rename_i h; rw [i_lt] at h; omega
theorem br_B {m : Int} {v : ST} {h : HT} {t : Int32} (ho : okS m v) (hh : okH h) (ht1 : 1 ≤ t.toInt) : 0 ≤ (c_brR v h t).toInt ∧ (c_brR v h t).toInt ≤ t.toInt ∧ (c_brR v h t).toInt ≤ (hT h).toInt ∧ (c_brR v h t).toInt + (s_total v).toInt ≤ 1200 := by
  have h1 := onTop_B ho
  have h2 := total_B ho
  unfold okH at hh
  rw [br_I ho]
  split <;> omega
theorem rest_B {m : Int} {v : ST} {h : HT} {t : Int32} (ho : okS m v) (hh : okH h) (ht1 : 1 ≤ t.toInt) : (s_rest v (c_brR v h t)).toInt = (c_brR v h t).toInt - (s_top v (c_brR v h t)).toInt ∧ 0 ≤ (s_top v (c_brR v h t)).toInt ∧ (s_top v (c_brR v h t)).toInt ≤ (c_brR v h t).toInt ∧ (s_top v (c_brR v h t)).toInt ≤ (s_onTop v).toInt := by
  have h1 := onTop_B ho
  have hb := br_B ho hh ht1 (t := t)
  have e := s_top_I (v := v) (a := c_brR v h t)
  unfold s_rest
  have h9 := Int32.toInt_lt t
  rw [i_sub (by omega) (by omega)]
  omega
theorem fillT_at {v : ST} {a : Int32} {i : Nat} (h : i ≠ sN v - 1) : s_fillT v a i = sT v i := by
  unfold s_fillT
  split
  · rfl
  · split
    · rfl
    · exact pk_un h
theorem fillT_top {m : Int} {v : ST} {a : Int32} (ho : okS m v) (h : 1 ≤ sN v) (h0 : 0 ≤ a.toInt) : s_fillT v a (sN v - 1) = sT v (sN v - 1) + s_top v a := by
  have h1 := onTop_B ho
  unfold s_fillT
  split
  · rename_i q
    rw [i_z q (by rw [s_top_I]; omega), Int32.add_zero]
  · rw [if_neg (by omega), pk_us]
theorem fill_sum {m : Int} {v : ST} {a : Int32} (ho : okS m v) (h0 : 0 ≤ a.toInt) : s_sum (s_fillT v a) 0 (sN v) = s_total v + s_top v a := by
  have h1 := onTop_B ho
  by_cases q0 : sN v = 0
  · have e0 : s_onTop v = 0 := by unfold s_onTop; rw [if_pos q0]
    have e1 : s_top v a = 0 := by rw [i_eq, s_top_I, e0, i_0]; omega
    show _ = s_sum (sT v) 0 (sN v - 0) + _
    rw [e1, q0]
    rfl
  · have e : s_sum (s_fillT v a) 0 (sN v) = s_sum (upd (sT v) (sN v - 1) (sT v (sN v - 1) + s_top v a)) 0 (sN v) := by
      refine sum_cong _ (fun i _ hi => ?_)
      by_cases q : i = sN v - 1
      · rw [q, pk_us]
        exact fillT_top ho (by omega) h0
      · rw [fillT_at q, pk_un q]
    rw [e, sum_last (by omega)]
    rfl
theorem fillT_B {m : Int} {v : ST} {a : Int32} (ho : okS m v) (h0 : 0 ≤ a.toInt) {i : Nat} (hi : i < sN v) : iB 1 500 (s_fillT v a i) := by
  have h1 := onTop_B ho
  have b := (ho.2.1 i hi).1
  by_cases q : i = sN v - 1
  · subst q
    rw [fillT_top ho (by omega) h0]
    unfold iB at b ⊢
    have e := s_top_I (v := v) (a := a)
    have e2 : (s_onTop v).toInt ≤ 500 - (sT v (sN v - 1)).toInt := by
      unfold s_onTop
      rw [if_neg (by omega)]
      split
      · rw [i_sub (by rw [i_500]; omega) (by rw [i_500]; omega), i_500]; omega
      · rw [i_0]; omega
    have h9 := Int32.toInt_lt a
    rw [i_add (by omega) (by omega)]
    omega
  · rw [fillT_at q]; exact b
theorem okS_fill {m : Int} {v : ST} {h : HT} {t : Int32} (ho : okS m v) (hh : okH h) (ht1 : 1 ≤ t.toInt) (ht2 : t.toInt ≤ 500) (hm : 0 ≤ m) : okS m (s_fill v (c_brR v h t)) ∧ s_total (s_fill v (c_brR v h t)) = s_total v + c_brR v h t := by
  have hb := br_B ho hh ht1 (t := t)
  have hr := rest_B ho hh ht1 (t := t)
  have hfs := fill_sum (a := c_brR v h t) ho hb.1
  have htB := total_B ho
  generalize hga : c_brR v h t = a at *
  have eT : s_top v a + s_rest v a = a := by unfold s_rest; grind
  obtain ⟨a1, a2, a3, a4, a5, a6, a7⟩ := id ho
  have hadd : (s_total v + a).toInt = (s_total v).toInt + a.toInt := i_add (by omega) (by omega)
  have first : s_rest v a ≤ 0 → s_top v a = a := fun q => by
    have := i_z q (by omega)
    rw [this, Int32.add_zero] at eT
    exact eT
  have c1 : s_top v a = a → okS m (s_fillT v a, sA v, sN v, sP v, sC v, sK v) ∧ s_total (s_fillT v a, sA v, sN v, sP v, sC v, sK v) = s_total v + a := fun q => by
    have e : s_total (s_fillT v a, sA v, sN v, sP v, sC v, sK v) = s_total v + a := by
      rw [q] at hfs
      exact hfs
    refine ⟨⟨a1, fun i hi => ⟨fillT_B ho hb.1 hi, (a2 i hi).2⟩, by rw [e, hadd]; omega, a4, a5, a6, a7⟩, e⟩
  unfold s_fill
  split
  · rename_i q
    exact c1 (first q)
  · rename_i q
    split
    · rename_i q10
      refine c1 ?_
      rw [i_eq, s_top_I, ← hga, br_I ho, if_pos q10]
      have h1 := onTop_B ho
      omega
    · have e : s_total (upd (s_fillT v a) (sN v) (s_rest v a), upd (sA v) (sN v) 0, sN v + 1, sP v, sC v, (0 : Int32)) = s_total v + a := by
        show s_sum (upd (s_fillT v a) (sN v) (s_rest v a)) 0 (sN v + 1) = _
        rw [sum_new, hfs, Int32.add_assoc, eT]
      refine ⟨⟨by show sN v + 1 ≤ 10; omega, fun i hi => ?_, by rw [e, hadd]; omega, a4, a5, fun _ => by show 1 ≤ sN v + 1; omega, Or.inr (by show iB 0 2 (0 : Int32); unfold iB; decide)⟩, e⟩
      show iB 1 500 (upd (s_fillT v a) (sN v) (s_rest v a) i) ∧ iB 0 m (upd (sA v) (sN v) 0 i)
      by_cases qi : i = sN v
      · subst qi
        rw [pk_us, pk_us]
        unfold iB
        rw [i_le, i_0] at q
        rw [i_0]
        omega
      · have hi : i < sN v + 1 := hi
        rw [pk_un qi, pk_un qi]
        exact ⟨fillT_B ho hb.1 (by omega), (a2 i (by omega)).2⟩
theorem g_set_3 (a d : Int32) : g_set a d = 0 ∨ g_set a d = 1 ∨ g_set a d = 2 := by
  unfold g_set
  split
  · split
    · exact Or.inr (Or.inr rfl)
    · exact Or.inr (Or.inl rfl)
  · exact Or.inl rfl
theorem g_set_0 {a d : Int32} : g_set a d = 0 ↔ ¬ d < a := by
  unfold g_set
  split
  · rename_i h
    refine ⟨fun e => ?_, fun e => absurd h e⟩
    split at e
    · exact absurd e (by decide)
    · exact absurd e (by decide)
  · rename_i h
    exact ⟨fun _ => h, fun _ => rfl⟩
theorem s_old_at {a : Nat → Int32} {j : Nat} : ∀ n, s_old a n j = if j < n then a j + 1 else a j
  | 0 => by rw [if_neg (by omega)]; rfl
  | n + 1 => by
    show upd (s_old a n) n (s_old a n n + 1) j = _
    by_cases h : j = n
    · subst h
      rw [pk_us, s_old_at j, if_neg (by omega), if_pos (by omega)]
    · rw [pk_un h, s_old_at n]
      by_cases h2 : j < n
      · rw [if_pos h2, if_pos (by omega)]
      · rw [if_neg h2, if_neg (by omega)]
def v_arch (z : Nat → Int32) (v : ST) : ST := if s_can v = 0 then v else if g_set (sA v 0) (z 1) = 0 then v else (sT v, sA v, sN v, sP v, 1, 0)
def v_archN (z : Nat → Int32) (v : ST) : Int32 := if s_can v = 0 then 0 else if g_set (sA v 0) (z 1) = 0 then 0 else 1
theorem c_dayV_arch {z : Nat → Int32} {v : ST} : c_dayV z v = v_arch z (c_old v) := rfl
theorem c_dayR_arch {z : Nat → Int32} {v : ST} : c_dayR z v = v_archN z (c_old v) := rfl
theorem v_archN_01 (z : Nat → Int32) (v : ST) : v_archN z v = 0 ∨ v_archN z v = 1 := by
  unfold v_archN
  split
  · exact Or.inl rfl
  · split
    · exact Or.inl rfl
    · exact Or.inr rfl
theorem v_arch_0 {z : Nat → Int32} {v : ST} (h : v_archN z v = 0) : v_arch z v = v := by
  unfold v_archN at h
  unfold v_arch
  split
  · rfl
  · split
    · rfl
    · rename_i a b
      rw [if_neg a, if_neg b] at h
      exact absurd h (by decide)
theorem v_arch_1 {z : Nat → Int32} {v : ST} (h : ¬ v_archN z v = 0) : v_arch z v = (sT v, sA v, sN v, sP v, 1, 0) ∧ 2 ≤ sN v ∧ sC v = 0 := by
  unfold v_archN at h
  unfold v_arch
  split
  · rename_i a; rw [if_pos a] at h; exact absurd rfl h
  · rename_i a
    split
    · rename_i b; rw [if_neg a, if_pos b] at h; exact absurd rfl h
    · refine ⟨rfl, ?_⟩
      unfold s_can at a
      split at a
      · exact absurd rfl a
      · split at a
        · rename_i p q; exact ⟨by omega, q⟩
        · exact absurd rfl a
theorem okS_old {m : Int} {v : ST} (h : okS m v) (hm : m < 2147483647) : okS (m + 1) (c_old v) := by
  obtain ⟨a1, a2, a3, a4, a5, a6, a7⟩ := h
  refine ⟨a1, fun j hj => ⟨(a2 j hj).1, ?_⟩, a3, a4, a5, a6, a7⟩
  have hj : j < sN v := hj
  show iB 0 (m + 1) (s_old (sA v) (sN v) j)
  rw [s_old_at, if_pos hj]
  have b := (a2 j hj).2
  unfold iB at b ⊢
  rw [i_add (by rw [i_1]; omega) (by rw [i_1]; omega), i_1]
  omega
theorem okS_arch {m : Int} {z : Nat → Int32} {v : ST} (h : okS m v) : okS m (v_arch z v) := by
  by_cases e : v_archN z v = 0
  · rw [v_arch_0 e]; exact h
  · have q := v_arch_1 e
    rw [q.1]
    obtain ⟨a1, a2, a3, a4, a5, a6, a7⟩ := h
    exact ⟨a1, a2, a3, a4, Or.inr (Or.inl rfl), fun _ => by show 1 ≤ sN v; omega, Or.inr (by show iB 0 2 (0 : Int32); unfold iB; decide)⟩
theorem y_dS_H (y : YT) : ∀ k, yH (y_dS y k) = yH y ∧ yZ (y_dS y k) = yZ y ∧ yC (y_dS y k) = upd (yC y) 0 (yC y 0 + 1)
  | 0 => ⟨rfl, rfl, rfl⟩
  | k + 1 => y_dS_H y k
theorem y_dS_S (y : YT) {i : Nat} : ∀ k, yS (y_dS y k) i = if i < k then c_dayV (yZ y) (yS y i) else yS y i
  | 0 => by rw [if_neg (by omega)]; rfl
  | k + 1 => by
    show yS (ySetS (y_dS y k) k (c_dayV (yZ (y_dS y k)) (yS (y_dS y k) k))) i = _
    by_cases h : i = k
    · subst h
      rw [yS_set, (y_dS_H y i).2.1, y_dS_S y i, if_neg (by omega), if_pos (by omega)]
    · rw [yS_ne h, y_dS_S y k]
      by_cases h2 : i < k
      · rw [if_pos h2, if_pos (by omega)]
      · rw [if_neg h2, if_neg (by omega)]
theorem y_dR_eq (y : YT) (a : Int32) : ∀ k, y_dR y a k = a + y_dR y 0 k
  | 0 => by show a = a + 0; rw [Int32.add_zero]
  | k + 1 => by
    show y_dR y a k + _ = a + (y_dR y 0 k + _)
    rw [y_dR_eq y a k, Int32.add_assoc]
theorem brk_1 {m : Int} {v : ST} {z : Nat → Int32} (ho : okS m v) : c_brk z v = 1 ↔ ¬ sC v = 0 ∧ (s_held v < z 3 → ¬ sK v + 1 < 3) := by
  obtain ⟨a1, a2, a3, a4, a5, a6, a7⟩ := ho
  unfold c_brk
  by_cases q : sC v = 0
  · rw [if_pos q]
    exact ⟨fun e => absurd e (by decide), fun e => absurd q e.1⟩
  · rw [if_neg q]
    have b : iB 0 2 (sK v) := by
      rcases a7 with e | e
      · exact absurd e q
      · exact e
    unfold iB at b
    have e : (3 - sK v).toInt = 3 - (sK v).toInt := by rw [i_sub (by rw [i_3]; omega) (by rw [i_3]; omega), i_3]
    have e2 : (sK v + 1).toInt = (sK v).toInt + 1 := by rw [i_add (by rw [i_1]; omega) (by rw [i_1]; omega), i_1]
    by_cases q2 : s_held v < z 3
    · rw [if_pos q2]
      have e3 : sK v + 1 < 3 ↔ (sK v).toInt + 1 < 3 := by rw [i_lt, e2, i_3]
      rw [e3]
      split
      · rename_i q3
        rw [i_lt, i_1, e] at q3
        rw [i_eq, e, i_1]
        exact ⟨fun _ => ⟨q, fun _ => by omega⟩, fun h => by have := h.2 q2; omega⟩
      · rename_i q3
        rw [i_lt, i_1, e] at q3
        exact ⟨fun _ => ⟨q, fun _ => by omega⟩, fun _ => rfl⟩
    · rw [if_neg q2]
      exact ⟨fun _ => ⟨q, fun h => absurd h q2⟩, fun _ => rfl⟩
/-- the shaken silo -/
def v_shake (z : Nat → Int32) (v : ST) : ST := (sT v, s_young (sA v), sN v, sP v, (if c_brk z v = 1 then 0 else sC v), sK v + 1)
theorem ySetS_two {y : YT} {k : Nat} {v w : ST} : ySetS (ySetS y k v) k w = ySetS y k w := by
  unfold ySetS
  have e : (fun i => if i = k then w else (fun i => if i = k then v else y.1 i) i) = fun i => if i = k then w else y.1 i := by
    funext i
    by_cases hi : i = k <;> simp [hi]
  exact congrArg (fun q => ((q, y.2) : YT)) e
theorem y_shake_eq (y : YT) (k : Nat) : (∀ i, yS (y_shake y k) i = if i = k then v_shake (yZ y) (yS y k) else yS y i) ∧ yH (y_shake y k) = yH y ∧ yZ (y_shake y k) = yZ y ∧ yC (y_shake y k) = upd (yC y) 4 (yC y 4 + 1) := by
  have e : yS (y_sh1 y k) k = (sT (yS y k), sA (yS y k), sN (yS y k), sP (yS y k), sC (yS y k), sK (yS y k) + 1) := by
    show yS (y_sh0 y k) k = _
    exact yS_set
  have e1 : ∀ i, yS (y_shake1 y k) i = if i = k then (sT (yS y k), s_young (sA (yS y k)), sN (yS y k), sP (yS y k), sC (yS y k), sK (yS y k) + 1) else yS y i := fun i => by
    unfold y_shake1
    by_cases q : i = k
    · subst q; rw [if_pos rfl, yS_set, e]
    · rw [if_neg q, yS_ne q]
      show yS (y_sh0 y k) i = _
      exact yS_ne q
  refine ⟨fun i => ?_, ?_, ?_, ?_⟩
  · unfold y_shake v_shake
    by_cases c : c_brk (yZ y) (yS y k) = 1
    · rw [if_pos c, if_pos c]
      by_cases q : i = k
      · subst q; rw [yS_set, if_pos rfl, e1 i, if_pos rfl]
      · rw [yS_ne q, if_neg q, e1 i, if_neg q]
    · rw [if_neg c, if_neg c]
      exact e1 i
  · unfold y_shake; split <;> rfl
  · unfold y_shake; split <;> rfl
  · unfold y_shake; split <;> rfl
theorem s_young_at {m : Int} {a : Nat → Int32} (h : iB 0 m (a 0)) : s_young a = upd a 0 (if a 0 ≤ 0 then 0 else a 0 - 1) ∧ (m < 2147483648 → iB 0 m (if a 0 ≤ 0 then 0 else a 0 - 1)) := by
  unfold iB at h
  have h9 := Int32.toInt_lt (a 0)
  have e : (a 0 - 1).toInt = (a 0).toInt - 1 := by rw [i_sub (by rw [i_1]; omega) (by rw [i_1]; omega), i_1]
  refine ⟨?_, fun _ => ?_⟩
  · unfold s_young
    congr 1
    by_cases q : a 0 ≤ 0
    · rw [if_pos q, if_neg]
      rw [i_lt, e, i_0]
      rw [i_le, i_0] at q
      omega
    · rw [if_neg q]
      split
      · rfl
      · rename_i q2
        rw [i_lt, e, i_0] at q2
        rw [i_le, i_0] at q
        rw [i_eq, e, i_0]
        omega
  · unfold iB
    split
    · rw [i_0]; omega
    · rename_i q
      rw [i_le, i_0] at q
      rw [e]
      omega
theorem dR_0 (y : YT) : ∀ k : Nat, k ≤ 4 → 0 ≤ (y_dR y 0 k).toInt ∧ (y_dR y 0 k).toInt ≤ k ∧ ((y_dR y 0 k).toInt = 0 ↔ ∀ i, i < k → c_dayR (yZ y) (yS y i) = 0)
  | 0, _ => ⟨by show (0 : Int) ≤ (0 : Int32).toInt; decide, by show (0 : Int32).toInt ≤ _; decide, fun _ i hi => absurd hi (by omega), fun _ => by show (0 : Int32).toInt = 0; decide⟩
  | k + 1, hk => by
    obtain ⟨a, b, c⟩ := dR_0 y k (by omega)
    show 0 ≤ (y_dR y 0 k + c_dayR (yZ (y_dS y k)) (yS (y_dS y k) k)).toInt ∧ (y_dR y 0 k + c_dayR (yZ (y_dS y k)) (yS (y_dS y k) k)).toInt ≤ _ ∧ ((y_dR y 0 k + c_dayR (yZ (y_dS y k)) (yS (y_dS y k) k)).toInt = 0 ↔ _)
    rw [(y_dS_H y k).2.1, y_dS_S y k, if_neg (show ¬ k < k by omega)]
    rcases v_archN_01 (yZ y) (c_old (yS y k)) with e | e
    · rw [c_dayR_arch, e, Int32.add_zero]
      refine ⟨a, by omega, fun h i hi => ?_, fun h => c.mpr (fun i hi => h i (by omega))⟩
      by_cases q : i = k
      · subst q; rw [c_dayR_arch]; exact e
      · exact c.mp h i (by omega)
    · rw [c_dayR_arch, e, i_add (by rw [i_1]; omega) (by rw [i_1]; omega), i_1]
      refine ⟨by omega, by omega, fun h => by omega, fun h => ?_⟩
      have := h k (by omega)
      rw [c_dayR_arch, e] at this
      exact absurd this (by decide)
