theorem s_take_0 {m : Int} {v : ST} (ho : okS m v) (h : 1 ≤ sN v) : s_take v 0 = v := by
  have h1 := (ho.2.1 0 (by omega)).1
  unfold iB at h1
  unfold s_take
  rw [if_neg]
  · rw [i_sub0, upd_self]
  · rw [pk_us, i_sub0, i_le, i_0]
    omega
theorem g_hour1_d {s : Nat → Int32} {k j : Nat} : g_hour1 s k j 1 = s 1 + g_out s k j / s 8 := by
  unfold g_hour1
  rw [pk_un (by omega), pk_us, pk_un (by omega)]
theorem g_hour1_h {s : Nat → Int32} {k j : Nat} (hk : k < 4) : g_hour1 s k j (106 + 2 * j) = s (106 + 2 * j) + (g_out s k j - g_out s k j / s 8) := by
  unfold g_hour1
  rw [pk_us, pk_un (by omega), pk_un (by omega)]
theorem g_hour1_t {s : Nat → Int32} {k j : Nat} (hk : k < 4) : g_hour1 s k j (10 + 24 * k + 4) = s (10 + 24 * k + 4) - g_out s k j := by
  unfold g_hour1
  rw [pk_un (by omega), pk_un (by omega), pk_us]
theorem hour_ok {m : Int} {s z : Nat → Int32} {k j : Nat} {v : ST} {h : HT} (hS : RS s k v) (hH9 : RH s j h) (ho : okS m v) (hh : okH h) (hz : okZ z) (h7 : s 7 = z 1) (h8 : s 8 = z 2) (hk : k < 4) (hj : j < 6) :
    g_hourR s k j = c_hourR z v h ∧ HourOK m s (g_hourS s k j (sN v)) k j v (c_hourV z v h) h (c_hourH z v h) (c_hourR z v h) := by
  have hn := ho.1
  by_cases hc : sN v = 0 ∨ sC v = 2
  · have e := out_0 (j := j) hS hn hc
    have e1 : c_hourR z v h = 0 := by
      unfold c_hourR
      rcases hc with hc | hc
      · rw [if_pos hc]
      · rw [if_pos hc]; split <;> rfl
    have e2 : c_hourV z v h = v := by
      unfold c_hourV
      rcases hc with hc | hc
      · rw [if_pos hc]
      · rw [if_pos hc]; split <;> rfl
    have e3 : c_hourH z v h = h := by
      unfold c_hourH
      rcases hc with hc | hc
      · rw [if_pos hc]
      · rw [if_pos hc]; split <;> rfl
    have e4 : g_hourS s k j (sN v) = s := by
      unfold g_hourS
      rw [if_pos (by rw [e]; decide)]
    rw [e1, e2, e3, e4]
    refine ⟨?_, hour_same hS hH9 ho hh⟩
    unfold g_hourR
    rw [e, i_0div, i_sub0]
  · have h0 : ¬ sN v = 0 := fun q => hc (Or.inl q)
    have h2 : ¬ sC v = 2 := fun q => hc (Or.inr q)
    have e := out_eq hS hH9 hn h7 h0 h2 ho.2.2.2.2.1
    have hB := out_B (z := z) ho hh h0
    have hd := dust_B (o := c_out z v h) hz hB.1
    have e1 : c_hourR z v h = c_out z v h - c_out z v h / z 2 := by
      unfold c_hourR
      rw [if_neg h0, if_neg h2, hd.1]
    have e2 : c_hourV z v h = s_take v (c_out z v h) := by
      unfold c_hourV
      rw [if_neg h0, if_neg h2]
    have e3 : c_hourH z v h = (hT h + (c_out z v h - c_out z v h / z 2), hH h) := by
      unfold c_hourH
      rw [if_neg h0, if_neg h2, hd.1]
    rw [e1, e2, e3]
    refine ⟨by unfold g_hourR; rw [e, h8], ?_⟩
    have ht9 := take_total (o := c_out z v h) (by omega : 1 ≤ sN v) hB.2.2.1 hB.1
    have hok := okS_take (o := c_out z v h) ho (by omega) hB.2.2.1 hB.1
    generalize ho9 : c_out z v h = o at *
    have hh9 := hh
    unfold okH at hh9
    have hHok : okH (hT h + (o - o / z 2), hH h) := by
      have q1 : (o - o / z 2).toInt = o.toInt - (o / z 2).toInt := i_sub (by omega) (by omega)
      unfold okH
      show 0 ≤ (hT h + (o - o / z 2)).toInt ∧ (hT h + (o - o / z 2)).toInt ≤ (hH h).toInt ∧ (hH h).toInt ≤ 900
      rw [i_add (by omega) (by omega), q1]
      omega
    by_cases hz9 : o ≤ 0
    · have hz0 : o = 0 := i_z hz9 hB.1
      subst hz0
      have e4 : g_hourS s k j (sN v) = s := by
        unfold g_hourS
        rw [if_pos (by rw [e]; decide)]
      rw [e4, s_take_0 ho (by omega), i_0div, i_sub0, Int32.add_zero]
      exact hour_same hS hH9 ho hh
    · have hg : ¬ g_out s k j ≤ 0 := by rw [e]; exact hz9
      have hT0 := (hS.2.2.2.2 0 (by omega)).1
      have hb1 : RS (g_hour1 s k j) k (upd (sT v) 0 (sT v 0 - o), sA v, sN v, sP v, sC v, sK v) := by
        obtain ⟨a1, a2, a3, a4, a5⟩ := hS
        refine ⟨?_, ?_, ?_, ?_, fun q hq => ?_⟩
        · rw [g_hour1_at (by omega) (by omega) (by omega)]; exact a1
        · rw [g_hour1_at (by omega) (by omega) (by omega)]; exact a2
        · rw [g_hour1_at (by omega) (by omega) (by omega)]; exact a3
        · rw [g_hour1_at (by omega) (by omega) (by omega)]; exact a4
        · have hq : q < sN v := hq
          refine ⟨?_, ?_⟩
          · show _ = upd (sT v) 0 (sT v 0 - o) q
            by_cases h9 : q = 0
            · subst h9
              rw [pk_us, show 10 + 24 * k + (4 + 2 * 0) = 10 + 24 * k + 4 from rfl, g_hour1_t hk, e]
              rw [show s (10 + 24 * k + 4) = sT v 0 from hT0]
            · rw [pk_un h9, g_hour1_at (by omega) (by omega) (by omega)]
              exact (a5 q hq).1
          · rw [g_hour1_at (by omega) (by omega) (by omega)]
            exact (a5 q hq).2
      have hb2 : RH (g_hour1 s k j) j (hT h + (o - o / z 2), hH h) := by
        refine ⟨?_, ?_⟩
        · rw [g_hour1_h hk, e, h8, hH9.1]
        · rw [g_hour1_at (by omega) (by omega) (by omega)]; exact hH9.2
      have hb3 : g_hour1 s k j 1 = s 1 + (s_total v - s_total (s_take v o) - (o - o / z 2)) := by
        rw [g_hour1_d, e, h8, ht9, ← i_oo]
      have hb4 : ∀ i, i ≠ 1 → i ≠ 106 + 2 * j → (i < 10 + 24 * k ∨ 10 + 24 * k + 24 ≤ i) → g_hour1 s k j i = s i := fun i q1 q2 q3 => g_hour1_at (by omega) q1 q2
      have hv : g_hour1 s k j (10 + 24 * k + (4 + 2 * 0)) = sT v 0 - o := by
        rw [show 10 + 24 * k + (4 + 2 * 0) = 10 + 24 * k + 4 from rfl, g_hour1_t hk, e]
        rw [show s (10 + 24 * k + 4) = sT v 0 from hT0]
      have hiv := (ho.2.1 0 (by omega)).1
      unfold iB at hiv
      unfold g_hourS
      rw [if_neg hg, hv]
      have hsub : (sT v 0 - o).toInt = (sT v 0).toInt - o.toInt := i_sub (by omega) (by omega)
      by_cases hx : sT v 0 - o = 0
      · rw [if_pos hx]
        have et : s_take v o = s_gone v o := by
          unfold s_take
          rw [if_pos (by rw [pk_us, hx]; decide)]
        have hdr : ∀ i, (i < 10 + 24 * k ∨ 10 + 24 * k + 24 ≤ i) → g_drops (g_hour1 s k j) k (sN v) i = g_hour1 s k j i := fun i hi => g_drops_out hn hi (by omega)
        rw [et] at hok hb3 ⊢
        refine ⟨?_, ?_, hok, hHok, ?_, fun i q1 q2 q3 => ?_⟩
        · obtain ⟨a1, a2, a3, a4, a5⟩ := hb1
          refine ⟨g_drops_many (by omega), ?_, ?_, ?_, fun q hq => ?_⟩
          · rw [g_drop_PK (by omega) (Or.inl rfl)]; exact a2
          · rw [g_drop_C (by omega), a3]; rfl
          · rw [g_drop_PK (by omega) (Or.inr rfl)]; exact a4
          · have hq : q < sN v - 1 := hq
            have b := a5 (q + 1) (by show q + 1 < sN v; omega)
            rw [s_gone_T hq, s_gone_A hq]
            refine ⟨?_, ?_⟩
            · rw [g_drop_at (by omega) hn, show 10 + 24 * k + (4 + (2 * q + 2)) = 10 + 24 * k + (4 + 2 * (q + 1)) by omega, b.1]
              show upd (sT v) 0 (sT v 0 - o) (q + 1) = sT v (q + 1)
              exact pk_un (by omega)
            · rw [show 10 + 24 * k + (4 + 2 * q + 1) = 10 + 24 * k + (4 + (2 * q + 1)) by omega, g_drop_at (by omega) hn, show 10 + 24 * k + (4 + (2 * q + 1 + 2)) = 10 + 24 * k + (4 + 2 * (q + 1) + 1) by omega, b.2]
        · exact hb2.cong (fun i _ _ => hdr i (by omega))
        · rw [hdr 1 (by omega)]; exact hb3
        · rw [hdr i q3]; exact hb4 i q1 q2 q3
      · rw [if_neg hx]
        have et : s_take v o = (upd (sT v) 0 (sT v 0 - o), sA v, sN v, sP v, sC v, sK v) := by
          unfold s_take
          rw [if_neg]
          rw [pk_us, i_le, i_0, hsub]
          rw [i_eq, i_0, hsub] at hx
          omega
        rw [et] at hok hb3 ⊢
        exact ⟨hb1, hb2, hok, hHok, hb3, hb4⟩
/-! HOURS -/
theorem i_tel {D T T1 T2 r r1 : Int32} : D + (T - T1 - r) + (T1 - T2 - r1) = D + (T - T2 - (r + r1)) := by grind
theorem hours_ok {m : Int} {s z : Nat → Int32} {k j : Nat} {v : ST} {h : HT} (hS : RS s k v) (hH9 : RH s j h) (ho : okS m v) (hh : okH h) (hz : okZ z) (h7 : s 7 = z 1) (h8 : s 8 = z 2) (hk : k < 4) (hj : j < 6) : ∀ q,
    g_hoursR s k j q = c_poR z v h q ∧ HourOK m s (g_hoursS s k j q) k j v (c_poS z v h q).1 h (c_poS z v h q).2 (c_poR z v h q)
  | 0 => ⟨rfl, hour_same hS hH9 ho hh⟩
  | q + 1 => by
    obtain ⟨e, b1, b2, b3, b4, b5, b6⟩ := hours_ok hS hH9 ho hh hz h7 h8 hk hj q
    have e7 : g_hoursS s k j q 7 = z 1 := by rw [b6 7 (by omega) (by omega) (by omega)]; exact h7
    have e8 : g_hoursS s k j q 8 = z 2 := by rw [b6 8 (by omega) (by omega) (by omega)]; exact h8
    obtain ⟨f, c1, c2, c3, c4, c5, c6⟩ := hour_ok b1 b2 b3 b4 hz e7 e8 hk hj
    have hN : Nn (g_hoursS s k j q) k = sN (c_poS z v h q).1 := b1.Nn b3.1
    have eS : g_hoursS s k j (q + 1) = g_hourS (g_hoursS s k j q) k j (sN (c_poS z v h q).1) := by rw [← hN]; rfl
    refine ⟨?_, ?_⟩
    · show g_hoursR s k j q + g_hourR (g_hoursS s k j q) k j = c_poR z v h q + c_hourR z (c_poS z v h q).1 (c_poS z v h q).2
      rw [e, f]
    · rw [eS]
      refine ⟨c1, c2, c3, c4, ?_, fun i q1 q2 q3 => ?_⟩
      · rw [c5, b5]
        exact i_tel
      · rw [c6 i q1 q2 q3]; exact b6 i q1 q2 q3
