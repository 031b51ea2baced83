/-! CEMENT COMES INTO A SILO -/
theorem sum_last {t : Nat → Int32} {n : Nat} {x : Int32} (h : 1 ≤ n) : s_sum (upd t (n - 1) (t (n - 1) + x)) 0 n = s_sum t 0 n + x := by
  obtain ⟨q, rfl⟩ : ∃ q, n = q + 1 := ⟨n - 1, by omega⟩
  show s_sum (upd t q (t q + x)) 0 q + upd t q (t q + x) (0 + q) = s_sum t 0 q + t (0 + q) + x
  rw [Nat.zero_add, pk_us, sum_cong (t := t) (t2 := upd t q (t q + x)) q (fun i h1 h2 => pk_un (by omega)), Int32.add_assoc]
theorem sum_new {t : Nat → Int32} {n : Nat} {x : Int32} : s_sum (upd t n x) 0 (n + 1) = s_sum t 0 n + x := by
  show s_sum (upd t n x) 0 n + upd t n x (0 + n) = s_sum t 0 n + x
  rw [Nat.zero_add, pk_us, sum_cong (t := t) (t2 := upd t n x) n (fun i h1 h2 => pk_un (by omega))]
theorem onTop_B {m : Int} {v : ST} (ho : okS m v) : 0 ≤ (s_onTop v).toInt ∧ (s_onTop v).toInt ≤ 500 := by
  unfold s_onTop
  split
  · decide
  · split
    · have h := (ho.2.1 (sN v - 1) (by omega)).1
      unfold iB at h
      rw [i_sub (by rw [i_500]; omega) (by rw [i_500]; omega), i_500]
      omega
    · decide
theorem place_I {m : Int} {v : ST} (ho : okS m v) : (s_place v).toInt = min ((s_onTop v).toInt + (if 10 ≤ sN v then 0 else 500)) (1200 - (s_total v).toInt) := by
  have h1 := onTop_B ho
  have h2 := total_B ho
  have e1 : (1200 - s_total v).toInt = 1200 - (s_total v).toInt := by rw [i_sub (by rw [i_1200]; omega) (by rw [i_1200]; omega), i_1200]
  have e2 : (s_onTop v + (if 10 ≤ sN v then 0 else 500)).toInt = (s_onTop v).toInt + (if 10 ≤ sN v then 0 else 500) := by
    split
    · rw [Int32.add_zero, Int.add_zero]
    · rw [i_add (by rw [i_500]; omega) (by rw [i_500]; omega), i_500]
  show (s_min (1200 - s_total v) (s_onTop v + (if 10 ≤ sN v then 0 else 500))).toInt = _
  rw [i_smin, e1, e2, Int.min_comm]
theorem br_I {m : Int} {v : ST} {h : HT} {t : Int32} (ho : okS m v) : (c_brR v h t).toInt = min t.toInt (min (hT h).toInt (min ((s_onTop v).toInt + (if 10 ≤ sN v then 0 else 500)) (1200 - (s_total v).toInt))) := by
  unfold c_brR
  rw [i_smin, i_smin, place_I ho]
theorem s_top_I {v : ST} {a : Int32} : (s_top v a).toInt = min (s_onTop v).toInt a.toInt := by
  unfold s_top
  split
  · rename_i h; rw [i_lt] at h; omega
  · rename_i h; rw [i_lt] at h; omega
theorem comes_top {m : Int} {s : Nat → Int32} {k j : Nat} {v : ST} {h : HT} {t : Int32} (hS : RS s k v) (hH9 : RH s j h) (ho : okS m v) (hh : okH h) (ht1 : 1 ≤ t.toInt) (ht2 : t.toInt ≤ 500) :
    (g_left s k (sN v) (g_min t (s (106 + 2 * j)))).toInt = min (min t.toInt (hT h).toInt) (1200 - (s_total v).toInt) ∧ g_top s k (sN v) (g_min t (s (106 + 2 * j))) = s_top v (c_brR v h t) := by
  have h1 := onTop_B ho
  have h2 := total_B ho
  unfold okH at hh
  have e1 : (1200 - s_total v).toInt = 1200 - (s_total v).toInt := by rw [i_sub (by rw [i_1200]; omega) (by rw [i_1200]; omega), i_1200]
  have eL : (g_left s k (sN v) (g_min t (s (106 + 2 * j)))).toInt = min (min t.toInt (hT h).toInt) (1200 - (s_total v).toInt) := by
    unfold g_left
    rw [i_gmin, i_gmin, hH9.1, total_eq hS, e1]
  refine ⟨eL, ?_⟩
  have hbr := br_I (h := h) (t := t) ho
  rw [i_eq, s_top_I, hbr]
  unfold g_top
  have e0 : sN v = 0 → s_onTop v = 0 := fun q => by unfold s_onTop; rw [if_pos q]
  by_cases q0 : sN v = 0
  · rw [if_pos (by omega), e0 q0, i_0]
    split at hbr <;> split <;> omega
  · rw [if_neg (by omega)]
    have hA := (hS.2.2.2.2 (sN v - 1) (by omega))
    rw [hA.2]
    by_cases qa : sA v (sN v - 1) = 0
    · rw [if_neg (fun e => e qa), i_gmin, eL, hA.1]
      have e5 : s_onTop v = 500 - sT v (sN v - 1) := by unfold s_onTop; rw [if_neg q0, if_pos qa]
      rw [← e5]
      split <;> omega
    · rw [if_pos qa]
      have e5 : s_onTop v = 0 := by unfold s_onTop; rw [if_neg q0, if_neg qa]
      rw [e5, i_0]
      split <;> omega
theorem br_B {m : Int} {v : ST} {h : HT} {t : Int32} (ho : okS m v) (hh : okH h) (ht1 : 1 ≤ t.toInt) : 0 ≤ (c_brR v h t).toInt ∧ (c_brR v h t).toInt ≤ t.toInt ∧ (c_brR v h t).toInt ≤ (hT h).toInt ∧ (c_brR v h t).toInt + (s_total v).toInt ≤ 1200 := by
  have h1 := onTop_B ho
  have h2 := total_B ho
  unfold okH at hh
  rw [br_I ho]
  split <;> omega
theorem rest_B {m : Int} {v : ST} {h : HT} {t : Int32} (ho : okS m v) (hh : okH h) (ht1 : 1 ≤ t.toInt) : (s_rest v (c_brR v h t)).toInt = (c_brR v h t).toInt - (s_top v (c_brR v h t)).toInt ∧ 0 ≤ (s_top v (c_brR v h t)).toInt ∧ (s_top v (c_brR v h t)).toInt ≤ (c_brR v h t).toInt ∧ (s_top v (c_brR v h t)).toInt ≤ (s_onTop v).toInt := by
  have h1 := onTop_B ho
  have hb := br_B ho hh ht1 (t := t)
  have e := s_top_I (v := v) (a := c_brR v h t)
  unfold s_rest
  have h9 := Int32.toInt_lt t
  rw [i_sub (by omega) (by omega)]
  omega
theorem cs1_at {s : Nat → Int32} {k n i : Nat} {t : Int32} (h : i ≠ 10 + 24 * k + (4 + 2 * (n - 1))) : g_cs1 s k n t i = s i := by
  unfold g_cs1
  split
  · rfl
  · split
    · rfl
    · exact pk_un h
theorem cs2_at {s : Nat → Int32} {k n i : Nat} {x : Int32} (h1 : i ≠ 10 + 24 * k + (4 + 2 * n)) (h2 : i ≠ 10 + 24 * k + (4 + 2 * n + 1)) (h3 : i ≠ 10 + 24 * k + 3) (h4 : i ≠ 10 + 24 * k + 2) : g_cs2 s k n x i = s i := by
  unfold g_cs2
  rw [pk_un h4, pk_un h3, pk_un h2, pk_un h1]
theorem fillT_at {v : ST} {a : Int32} {i : Nat} (h : i ≠ sN v - 1) : s_fillT v a i = sT v i := by
  unfold s_fillT
  split
  · rfl
  · split
    · rfl
    · exact pk_un h
theorem fillT_top {m : Int} {v : ST} {a : Int32} (ho : okS m v) (h : 1 ≤ sN v) (h0 : 0 ≤ a.toInt) : s_fillT v a (sN v - 1) = sT v (sN v - 1) + s_top v a := by
  have h1 := onTop_B ho
  unfold s_fillT
  split
  · rename_i q
    rw [i_z q (by rw [s_top_I]; omega), Int32.add_zero]
  · rw [if_neg (by omega), pk_us]
theorem fill_sum {m : Int} {v : ST} {a : Int32} (ho : okS m v) (h0 : 0 ≤ a.toInt) : s_sum (s_fillT v a) 0 (sN v) = s_total v + s_top v a := by
  have h1 := onTop_B ho
  by_cases q0 : sN v = 0
  · have e0 : s_onTop v = 0 := by unfold s_onTop; rw [if_pos q0]
    have e1 : s_top v a = 0 := by rw [i_eq, s_top_I, e0, i_0]; omega
    show _ = s_sum (sT v) 0 (sN v - 0) + _
    rw [e1, q0]
    rfl
  · have e : s_sum (s_fillT v a) 0 (sN v) = s_sum (upd (sT v) (sN v - 1) (sT v (sN v - 1) + s_top v a)) 0 (sN v) := by
      refine sum_cong _ (fun i _ hi => ?_)
      by_cases q : i = sN v - 1
      · rw [q, pk_us]
        exact fillT_top ho (by omega) h0
      · rw [fillT_at q, pk_un q]
    rw [e, sum_last (by omega)]
    rfl
theorem fillT_B {m : Int} {v : ST} {a : Int32} (ho : okS m v) (h0 : 0 ≤ a.toInt) {i : Nat} (hi : i < sN v) : iB 1 500 (s_fillT v a i) := by
  have h1 := onTop_B ho
  have b := (ho.2.1 i hi).1
  by_cases q : i = sN v - 1
  · subst q
    rw [fillT_top ho (by omega) h0]
    unfold iB at b ⊢
    have e := s_top_I (v := v) (a := a)
    have e2 : (s_onTop v).toInt ≤ 500 - (sT v (sN v - 1)).toInt := by
      unfold s_onTop
      rw [if_neg (by omega)]
      split
      · rw [i_sub (by rw [i_500]; omega) (by rw [i_500]; omega), i_500]; omega
      · rw [i_0]; omega
    have h9 := Int32.toInt_lt a
    rw [i_add (by omega) (by omega)]
    omega
  · rw [fillT_at q]; exact b
theorem okS_fill {m : Int} {v : ST} {h : HT} {t : Int32} (ho : okS m v) (hh : okH h) (ht1 : 1 ≤ t.toInt) (ht2 : t.toInt ≤ 500) (hm : 0 ≤ m) : okS m (s_fill v (c_brR v h t)) ∧ s_total (s_fill v (c_brR v h t)) = s_total v + c_brR v h t := by
  have hb := br_B ho hh ht1 (t := t)
  have hr := rest_B ho hh ht1 (t := t)
  have hfs := fill_sum (a := c_brR v h t) ho hb.1
  have htB := total_B ho
  generalize hga : c_brR v h t = a at *
  have eT : s_top v a + s_rest v a = a := by unfold s_rest; grind
  obtain ⟨a1, a2, a3, a4, a5, a6, a7⟩ := id ho
  have hadd : (s_total v + a).toInt = (s_total v).toInt + a.toInt := i_add (by omega) (by omega)
  have first : s_rest v a ≤ 0 → s_top v a = a := fun q => by
    have := i_z q (by omega)
    rw [this, Int32.add_zero] at eT
    exact eT
  have c1 : s_top v a = a → okS m (s_fillT v a, sA v, sN v, sP v, sC v, sK v) ∧ s_total (s_fillT v a, sA v, sN v, sP v, sC v, sK v) = s_total v + a := fun q => by
    have e : s_total (s_fillT v a, sA v, sN v, sP v, sC v, sK v) = s_total v + a := by
      rw [q] at hfs
      exact hfs
    refine ⟨⟨a1, fun i hi => ⟨fillT_B ho hb.1 hi, (a2 i hi).2⟩, by rw [e, hadd]; omega, a4, a5, a6, a7⟩, e⟩
  unfold s_fill
  split
  · rename_i q
    exact c1 (first q)
  · rename_i q
    split
    · rename_i q10
      refine c1 ?_
      rw [i_eq, s_top_I, ← hga, br_I ho, if_pos q10]
      have h1 := onTop_B ho
      omega
    · have e : s_total (upd (s_fillT v a) (sN v) (s_rest v a), upd (sA v) (sN v) 0, sN v + 1, sP v, sC v, (0 : Int32)) = s_total v + a := by
        show s_sum (upd (s_fillT v a) (sN v) (s_rest v a)) 0 (sN v + 1) = _
        rw [sum_new, hfs, Int32.add_assoc, eT]
      refine ⟨⟨by show sN v + 1 ≤ 10; omega, fun i hi => ?_, by rw [e, hadd]; omega, a4, a5, fun _ => by show 1 ≤ sN v + 1; omega, Or.inr (by show iB 0 2 (0 : Int32); unfold iB; decide)⟩, e⟩
      show iB 1 500 (upd (s_fillT v a) (sN v) (s_rest v a) i) ∧ iB 0 m (upd (sA v) (sN v) 0 i)
      by_cases qi : i = sN v
      · subst qi
        rw [pk_us, pk_us]
        unfold iB
        rw [i_le, i_0] at q
        rw [i_0]
        omega
      · have hi : i < sN v + 1 := hi
        rw [pk_un qi, pk_un qi]
        exact ⟨fillT_B ho hb.1 (by omega), (a2 i (by omega)).2⟩
theorem unl_ok {m : Int} {s : Nat → Int32} {k j : Nat} {v : ST} {h : HT} {t : Int32} (hS : RS s k v) (hH9 : RH s j h) (ho : okS m v) (hh : okH h) (ht1 : 1 ≤ t.toInt) (ht2 : t.toInt ≤ 500) (hm : 0 ≤ m) (hk : k < 4) (hj : j < 6) :
    g_unlR s k j (sN v) t = c_brR v h t ∧ RS (g_unlS s k j (sN v) t) k (s_fill v (c_brR v h t)) ∧ RH (g_unlS s k j (sN v) t) j (hT h - c_brR v h t, hH h) ∧ okS m (s_fill v (c_brR v h t)) ∧ okH (hT h - c_brR v h t, hH h) ∧ ∀ i, i ≠ 106 + 2 * j → (i < 10 + 24 * k ∨ 10 + 24 * k + 24 ≤ i) → g_unlS s k j (sN v) t i = s i := by
  have hb := br_B ho hh ht1 (t := t)
  have hr := rest_B ho hh ht1 (t := t)
  obtain ⟨eL, eT⟩ := comes_top hS hH9 ho hh ht1 ht2
  have hok := (okS_fill ho hh ht1 ht2 hm).1
  have hbI := br_I (h := h) (t := t) ho
  have hn := ho.1
  have hot := onTop_B ho
  have htB := total_B ho
  have hh9 := hh
  unfold okH at hh9
  generalize htt : g_min t (s (106 + 2 * j)) = t9 at *
  generalize hga : c_brR v h t = a at *
  have eTI := s_top_I (v := v) (a := a)
  have eR : s_rest v a = a - s_top v a := rfl
  -- what is left is the rest
  have hlr : ¬ sN v = 10 → g_left s k (sN v) t9 - g_top s k (sN v) t9 = s_rest v a := fun q => by
    rw [eT, eR]
    refine congrArg (fun x => x - s_top v a) ?_
    rw [i_eq, eL, hbI, if_neg (by omega)]
    omega
  have h10 : sN v = 10 → s_rest v a = 0 := fun q => by
    rw [i_eq, hr.1, i_0, eTI, hbI, if_pos (by omega)]
    omega
  have hcR : g_comesR s k (sN v) t9 = a := by
    unfold g_comesR
    by_cases q : sN v = 10
    · have e : g_top s k (sN v) t9 = a := by
        rw [eT]
        have := h10 q
        rw [eR] at this
        grind
      rw [if_pos q, e]
      split <;> rfl
    · rw [if_neg q, hlr q, eT]
      split
      · rename_i e; rw [eR] at e; grind
      · rw [eR]; grind
  have hcS : g_comesS s k (sN v) t9 = if s_rest v a = 0 then g_cs1 s k (sN v) t9 else g_cs2 (g_cs1 s k (sN v) t9) k (sN v) (s_rest v a) := by
    unfold g_comesS
    by_cases q : sN v = 10
    · rw [if_pos q, if_pos (h10 q)]
      split <;> rfl
    · rw [if_neg q, hlr q]
  have hR9 : g_unlR s k j (sN v) t = a := by unfold g_unlR; rw [htt]; exact hcR
  have hcs1 : RS (g_cs1 s k (sN v) t9) k (s_fillT v a, sA v, sN v, sP v, sC v, sK v) := by
    obtain ⟨b1, b2, b3, b4, b5⟩ := id hS
    refine ⟨?_, ?_, ?_, ?_, fun i hi => ⟨?_, ?_⟩⟩
    · rw [cs1_at (by omega)]; exact b1
    · rw [cs1_at (by omega)]; exact b2
    · rw [cs1_at (by omega)]; exact b3
    · rw [cs1_at (by omega)]; exact b4
    · have hi : i < sN v := hi
      show _ = s_fillT v a i
      by_cases q : i = sN v - 1
      · subst q
        rw [fillT_top ho (by omega) hb.1]
        unfold g_cs1
        rw [if_neg (by omega)]
        have c := b5 (sN v - 1) hi
        split
        · rename_i qa
          rw [c.2] at qa
          have e0 : s_onTop v = 0 := by unfold s_onTop; rw [if_neg (by omega), if_neg qa]
          have e1 : s_top v a = 0 := by rw [i_eq, eTI, e0, i_0]; omega
          rw [c.1, e1, Int32.add_zero]
        · rw [pk_us, c.1, eT]
      · rw [cs1_at (by omega), fillT_at q]
        exact (b5 i hi).1
    · have hi : i < sN v := hi
      rw [cs1_at (by omega)]
      exact (b5 i hi).2
  have hcs2 : RS (g_comesS s k (sN v) t9) k (s_fill v a) := by
    rw [hcS]
    unfold s_fill
    by_cases q : s_rest v a = 0
    · rw [if_pos q, if_pos (by rw [q]; decide)]
      exact hcs1
    · have q1 : ¬ s_rest v a ≤ 0 := fun e => q (i_z e (by omega))
      have q2 : ¬ 10 ≤ sN v := fun e => q (h10 (by omega))
      rw [if_neg q, if_neg q1, if_neg q2]
      obtain ⟨b1, b2, b3, b4, b5⟩ := hcs1
      refine ⟨?_, ?_, ?_, ?_, fun i hi => ?_⟩
      · unfold g_cs2; rw [pk_un (by omega), pk_us]
      · rw [cs2_at (by omega) (by omega) (by omega) (by omega)]; exact b2
      · rw [cs2_at (by omega) (by omega) (by omega) (by omega)]; exact b3
      · unfold g_cs2; rw [pk_us]
      · have hi : i < sN v + 1 := hi
        show _ = upd (s_fillT v a) (sN v) (s_rest v a) i ∧ _ = upd (sA v) (sN v) 0 i
        by_cases qi : i = sN v
        · subst qi
          rw [pk_us, pk_us]
          refine ⟨?_, ?_⟩
          · unfold g_cs2; rw [pk_un (by omega), pk_un (by omega), pk_un (by omega), pk_us]
          · unfold g_cs2; rw [pk_un (by omega), pk_un (by omega), pk_us]
        · have c := b5 i (by show i < sN v; omega)
          rw [pk_un qi, pk_un qi, cs2_at (by omega) (by omega) (by omega) (by omega), cs2_at (by omega) (by omega) (by omega) (by omega)]
          exact c
  have hfr : ∀ i, (i < 10 + 24 * k ∨ 10 + 24 * k + 24 ≤ i) → g_comesS s k (sN v) t9 i = s i := fun i hi => by
    rw [hcS]
    split
    · exact cs1_at (by omega)
    · rename_i q
      have q2 : ¬ 10 ≤ sN v := fun e => q (h10 (by omega))
      rw [cs2_at (by omega) (by omega) (by omega) (by omega)]
      exact cs1_at (by omega)
  have hS9 : g_unlS s k j (sN v) t = upd (g_comesS s k (sN v) t9) (106 + 2 * j) (s (106 + 2 * j) - a) := by
    unfold g_unlS
    rw [hR9, htt, hfr (106 + 2 * j) (by omega)]
  rw [hS9]
  refine ⟨hR9, hcs2.cong hok.1 (fun i h1 h2 => pk_un (by omega)), ⟨?_, ?_⟩, hok, ?_, fun i q1 q2 => ?_⟩
  · rw [pk_us, hH9.1]
  · rw [pk_un (by omega), hfr _ (by omega)]; exact hH9.2
  · unfold okH
    show 0 ≤ (hT h - a).toInt ∧ (hT h - a).toInt ≤ (hH h).toInt ∧ (hH h).toInt ≤ 900
    rw [i_sub (by omega) (by omega)]
    omega
  · rw [pk_un q1]; exact hfr i q2
