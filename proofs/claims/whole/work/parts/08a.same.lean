/-! a row's cell knows its contents up to its length alone -/
theorem gv_cell {cA : ClassId} {n : Nat} {f g : Nat → Int32} (h : ∀ j, j < n → f j = g j) : vp_cell cA (n, .inl f) = vp_cell cA (n, .inl g) := by
  rw [vp_cell_i, vp_cell_i]
  unfold arrV
  have e : (fun j : Fin n => Value.int (f j.val)) = fun j : Fin n => Value.int (g j.val) := funext fun j => by rw [h j.val j.isLt]
  rw [e]
theorem gv_cellq {cA : ClassId} {n : Nat} {f g : Nat → Option Nat} (h : ∀ j, j < n → f j = g j) : vp_cell cA (n, .inr (.inr (.inr (.inr f)))) = vp_cell cA (n, .inr (.inr (.inr (.inr g)))) := by
  rw [vp_cell_q, vp_cell_q]
  unfold arrV
  have e : (fun j : Fin n => va_rf (f j.val)) = fun j : Fin n => va_rf (g j.val) := funext fun j => by rw [h j.val j.isLt]
  rw [e]
def gv_eq (e e2 : va_E) : Prop := e = e2 ∨ (∃ (c : ClassId) (n : Nat) (f g : Nat → Int32), e = .inl (c, n, .inl f) ∧ e2 = .inl (c, n, .inl g) ∧ ∀ j, j < n → f j = g j) ∨ ∃ (c : ClassId) (n : Nat) (f g : Nat → Option Nat), e = .inl (c, n, .inr (.inr (.inr (.inr f)))) ∧ e2 = .inl (c, n, .inr (.inr (.inr (.inr g)))) ∧ ∀ j, j < n → f j = g j
theorem GW.cell {D : va_G} {N : Nat} {L : Nat → Nat} {A : Nat → Prop} {F F2 : Nat → va_E} {H : Heap} (h : GW D N L A F H) (e : ∀ i, i < N → gv_eq (F i) (F2 i)) : GW D N L A F2 H := by
  refine ⟨fun k q hq => ?_, gw_D h.2 (fun i hi => h.2.2 i (L i, F i) (gw_at hi))⟩
  obtain ⟨hk, rfl⟩ := gw_of hq
  have h1 := h.1 k (L k, F k) (gw_at hk)
  rcases e k hk with e1 | ⟨c, n, f, g, e1, e2, e3⟩ | ⟨c, n, f, g, e1, e2, e3⟩
  · rw [← e1]
    exact h1
  · rw [e1] at h1
    rw [e2]
    have h2 : H[L k]? = some (vp_cell c (n, .inl f)) := h1
    rw [gv_cell e3] at h2
    exact h2
  · rw [e1] at h1
    rw [e2]
    have h2 : H[L k]? = some (vp_cell c (n, .inr (.inr (.inr (.inr f))))) := h1
    rw [gv_cellq e3] at h2
    exact h2
theorem mW_ms {D : va_G} {N : Nat} {A : Nat → Prop} {H : Heap} {cy : Nat → ClassId} {L : Nat → Nat} {F : Nat → va_E} {mt : Int32} {ms ma mv : Nat → Int32} {mn : Int32} {mb : Nat → Int32} {ml mp mw : Int32} {mr : Nat → Int32} {mq : Int32} {mh : Int64} {g : Nat → Int32}
    (h : GW D N L A (mW cy L F mt ms ma mv mn mb ml mp mw mr mq mh) H) (e : ∀ i, i < 118 → ms i = g i) : GW D N L A (mW cy L F mt g ma mv mn mb ml mp mw mr mq mh) H := by
  refine h.cell (fun i hi => ?_)
  by_cases h1 : i = 163
  · subst h1
    exact Or.inr (Or.inl ⟨_, _, _, _, mW_a163, mW_a163, e⟩)
  · left
    unfold mW
    rw [if_neg h1, if_neg h1]
theorem cpN_back {f a s : Nat → Int32} {i : Nat} (hi : i < 118) : cpN f (cpN a s (0) (0) 118) (0) (0) 118 i = s i := by
  unfold cpN
  rw [if_pos (by omega), if_pos (by omega)]
  congr 1
theorem cpN_idem {a s : Nat → Int32} : cpN (cpN a s (0) (0) 118) s (0) (0) 118 = cpN a s (0) (0) 118 := by
  funext i
  unfold cpN
  by_cases h : 0 ≤ i ∧ i < 0 + 118
  · rw [if_pos h, if_pos h]
  · rw [if_neg h, if_neg h]
def g_asd (a s : Nat → Int32) (k : Nat) : Nat → Int32 := if k = 0 then a else cpN a s (0) (0) 118
theorem g_asd_s {a s : Nat → Int32} {k : Nat} : cpN (g_asd a s k) s (0) (0) 118 = g_asd a s (k + 1) := by
  unfold g_asd
  rw [if_neg (show ¬ k + 1 = 0 by omega)]
  split
  · rfl
  · exact cpN_idem
theorem g_in_silo {k : Nat} (h : k < 4) : g_in (nI k) 0 3 = 1 := by
  rcases (show k = 0 ∨ k = 1 ∨ k = 2 ∨ k = 3 by omega) with rfl | rfl | rfl | rfl <;> rfl
theorem g_in_ship {j : Nat} (h : j < 6) : g_in (nI j) 0 5 = 1 := by
  rcases (show j = 0 ∨ j = 1 ∨ j = 2 ∨ j = 3 ∨ j = 4 ∨ j = 5 by omega) with rfl | rfl | rfl | rfl | rfl | rfl <;> rfl
theorem g_in_1 {v a b : Int32} (h1 : ¬ v < a) (h2 : ¬ b < v) : g_in v a b = 1 := by
  unfold g_in
  rw [if_neg h1, if_neg h2]
theorem g_in_0 {v a b : Int32} (h : v < a ∨ b < v) : g_in v a b = 0 := by
  unfold g_in
  rcases h with h | h
  · rw [if_pos h]
  · rw [if_pos h]
    split <;> rfl
theorem g_in_n {q a b : Nat} (h1 : a ≤ q) (h2 : q ≤ b) (hb : b < 2 ^ 31) : g_in (nI q) (nI a) (nI b) = 1 := g_in_1 (nI_nlt h1 (by omega)) (nI_nlt h2 hb)
