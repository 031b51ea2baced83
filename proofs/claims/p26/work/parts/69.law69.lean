/-! THE LAW. cell: a number of the script, or one made of its place -/
def l_cell (xs : Nat → Int32) (Ln k : Nat) : Int32 := if k < Ln then xs k else 7919 * (nI k + 3) * (nI k + 11)
def nA : Nat → Prop := fun _ => False
set_option maxHeartbeats 4000000 in
set_option maxRecDepth 100000 in
theorem k_L_cell (l : Launch) (b Ln : Nat) (xs : Nat → Int32) (k : Nat) (hL : Ln ≤ 260) (hk : k < 1000) : Met l yL_cell wsL_cell ({ frames := 0, cells := 0, slots := 0, locals := 0 }) (va_Pc [.ref b, .int (nI k)] (fun U => va_X b Ln xs U U.heap ∧ b < U.heap.size)) (va_Qi (fun (r : Int32) (_ : Unit) => r = l_cell xs Ln k) (fun _ _ => True) nA) 0 0 nA := by
  refine Met.ofW (cc := cL_cell) (maxL := 2) (ret := (some .int)) (by decide) rfl ?_
  intro p e s m args below meth c s₁ B hml hv
  obtain ⟨rfl, hX, hbl⟩ := hv
  have hx := B.exec
  have hb := B.bytes
  have hr := B.returns
  have hlocks := B.notSynchronized
  have hl := lv_entry ([.ref b, .int (nI k)]) (n := 2) (Nat.le_of_ble_eq_true rfl)
  rw [lg_entry_eq]
  generalize (lg_sl ([.ref b, .int (nI k)]) ++ List.replicate (2 - (lg_sl ([.ref b, .int (nI k)])).length) Slot.unset).toArray = ls at hl ⊢
  have hl : lv_has ls 2 [(0, .ref b), (1, .int (nI k))] := hl
  have hS : va_S nA s.heap s.heap [] := va_S.rf
  have hbA : ¬ nA b := fun h => h
  refine lv_iload_n hx hb dL_cell_0 rfl (lv_at hl 1 rfl) ?_
  refine lv_aload_n hx hb dL_cell_1 rfl (lv_at hl 0 rfl) ?_
  refine va_slen hx hb hX hbl hbA hS dL_cell_2 ?_
  refine lv_icmp_ge (tgt := 12) hx hb dL_cell_3 (by decide) (fun c9 => ?_) (fun c9 => ?_)
  · have c9 : Ln ≤ k := (nI_leI (a := Ln) (b := k) (by omega) (by omega)).mp c9
    refine lv_sipush (v := 7919) hx hb dL_cell_12 (by decide) ?_
    refine lv_iload_n hx hb dL_cell_15 rfl (lv_at hl 1 rfl) ?_
    refine lv_iconst (v := 3) hx hb dL_cell_16 (by decide) ?_
    refine lv_iadd hx hb dL_cell_17 ?_
    refine lv_imul hx hb dL_cell_18 ?_
    refine lv_iload_n hx hb dL_cell_19 rfl (lv_at hl 1 rfl) ?_
    refine lv_bipush (v := 11) hx hb dL_cell_20 (by decide) ?_
    refine lv_iadd hx hb dL_cell_22 ?_
    refine lv_imul hx hb dL_cell_23 ?_
    exact W.iret hx hb hr (fun t ht hW => ⟨⟨_, (), rfl, (by unfold l_cell; rw [if_neg (by omega)]), trivial⟩, hS.F ht⟩) hS.2.2 dL_cell_24
  · have c9 : k < Ln := Nat.not_le.mp (fun h9 => c9 ((nI_leI (a := Ln) (b := k) (by omega) (by omega)).mpr h9))
    refine lv_aload_n hx hb dL_cell_6 rfl (lv_at hl 0 rfl) ?_
    refine lv_iload_n hx hb dL_cell_7 rfl (lv_at hl 1 rfl) ?_
    refine va_sld hx hb hX hbl hbA hS (vp_in_nI c9 (by omega)) dL_cell_8 ?_
    refine lv_goto (tgt := 24) hx hb dL_cell_9 (by decide) ?_
    exact W.iret hx hb hr (fun t ht hW => ⟨⟨_, (), rfl, (by unfold l_cell; rw [if_pos c9, nI_clamp (by omega)]), trivial⟩, hS.F ht⟩) hS.2.2 dL_cell_24
theorem cell_blind {b Ln k : Nat} {xs : Nat → Int32} : FrameBlind (va_Pc [.ref b, .int (nI k)] (fun U => va_X b Ln xs U U.heap ∧ b < U.heap.size)) := by
  intro a U g mk q
  obtain ⟨q0, q1, q2⟩ := q
  exact ⟨q0, va_X.moved (u := U) (U := U.calling g mk a) (Vm.Alike.refl U.vm) q1, q2⟩
/-- what holds all through the law: the machine, its words, the script, the world's places -/
def LC (p : Program) (l : Launch) (s : State) (m : MethodId) (c : Code) (b Ln : Nat) (xs : Nat → Int32) (D : va_G) (cy : Nat → ClassId) (N : Nat) (A : Nat → Prop) (c0 s0 : Nat) : Prop :=
  p.tables.exec = Jvm.exec ∧ c.code = cL_law ∧ c.maxLocals = 11 ∧ s.vm.findClass RL = some m.cls ∧ (∀ w ∈ wsL_law, w.before #[Value.ref b] s = true) ∧ gK D cy A s ∧ (∀ q, s.heap.size ≤ q → A q) ∧ 162 ≤ N ∧ (c0 ≤ room_1.cells ∧ s0 ≤ room_1.slots) ∧ va_X b Ln xs s s.heap ∧ b < s.heap.size ∧ ¬ A b ∧ Ln ≤ 260
set_option maxHeartbeats 4000000 in
set_option maxRecDepth 100000 in
/-- the law's call of cell: the world stays -/
theorem g_cell {p : Program} {l : Launch} {e : Env} {s : State} {m : MethodId} {below : List Frame} {meth : Method} {c : Code} {b Ln : Nat} {xs : Nat → Int32} {D : va_G} {cy : Nat → ClassId} {N : Nat} {L : Nat → Nat} {A : Nat → Prop} {F : Nat → va_E} {Q : State → Prop} {c0 s0 : Nat} {H : Heap} {locs : List Loc} {C : CT} {pc k : Nat} {ls : Array Slot} {rest : List Value} (hC : LC p l s m c b Ln xs D cy N A c0 s0) (hG : GW D N L A (cW cy L F C) H) (hS : va_S A s.heap H locs) (hk : k < 1000) (hsize : ls.size = 11) (hroom : (rest.map fun v => v.category).sum ≤ 8) (hdg : decode cL_law pc = .ok (.invokestatic 70, 3))
    (kk : ∀ (H : Heap) (locs : List Loc), GW D N L A (cW cy L F C) H → va_S A s.heap H locs → W p l e room_1 s m #[Value.ref b] below meth c H locs c0 s0 Q (F0 m (pc + 3) ls (.int (l_cell xs Ln k) :: rest))) : W p l e room_1 s m #[Value.ref b] below meth c H locs c0 s0 Q (F0 m pc ls (.int (nI k) :: .ref b :: rest)) := by
  obtain ⟨hx, hb, hml, hown, hts, hK, hA, hN, hcl, hX, hbl, hbA, hLn⟩ := id hC
  refine va_calli (va_runS (As := [.ref b, .int (nI k)]) (rest := rest) ⟨hx, hb, hml, hown, hts⟩ (k_L_cell l b Ln xs k hLn hk) (g_cwS 2 hts gL_law_L_cell rfl rfl rfl (by decide +kernel) ⟨Nat.le_of_ble_eq_true rfl, Nat.le_of_ble_eq_true rfl⟩) ⟨cell_blind, fun U hU hW => ⟨rfl, ?_⟩⟩ rfl rfl hsize rfl (lv_room hroom) hdg hcl) hS (fun q _ h => False.elim h) (fun q h => False.elim h) (fun r u t H1 locs1 ht hvm hp hB hz hk1 hS1 => ?_)
  · show va_X b Ln xs U U.heap ∧ b < U.heap.size
    rw [hU]
    exact ⟨va_X.moved hW.alike (hX.kept (hS.2.1 b hbl hbA)), Nat.lt_of_lt_of_le hbl hS.1⟩
  · subst hp
    exact kk H1 locs1 ⟨va_P.kept hG.1 (fun k q hq => hk1 q.1 (hG.1 k q hq).lt (fun z => z)), hG.2⟩ hS1
/-- what the law asks of a state holds of it -/
theorem k_holds (l : Launch) (D : va_G) (cy : Nat → ClassId) (N : Nat) (L : Nat → Nat) (F : Nat → va_E) (hN : 162 ≤ N) (C : CT) {t : Nat} (h : IY t (cY C)) : GM l D cy N L yL_holds wsL_holds ({ frames := 8, cells := 0, slots := 0, locals := 174 }) [.ref (L 0)] (cW cy L F C) (some (.int 1)) (cW cy L F C) := k_L_holds l D cy N L F hN C h.wf (fun k hk => need_p (h.1.1 k hk)) (soft_hf h.1) (fun k hk e he => lay_p (h.1.1 k hk) he) h.1.2.2.2.1 (fun q k hk e h1 he => srt_p (h.2.2.2.1 q k hk) h1 he) (fun k hk => tot_p (h.1.1 k hk)) (fun k hk => brk_p (h.1.1 k hk)) (fun j hj => hold_p (h.1.2.1 j hj)) h.2.2.2.2.1 (fun q => absurd h.2.2.2.2.2 (fun r => by rw [i_lt] at q; rw [i_le] at r; omega)) (urgent_p h.1) (soft_lo h.1) (soft_hi h.1)
/-- what goes on behind a turn -/
def NX (p : Program) (l : Launch) (e : Env) (s : State) (m : MethodId) (below : List Frame) (meth : Method) (c : Code) (b : Nat) (D : va_G) (cy : Nat → ClassId) (N : Nat) (L : Nat → Nat) (A : Nat → Prop) (F : Nat → va_E) (Q : State → Prop) (c0 s0 : Nat) (t : Nat) : Prop := ∀ (C : CT) (H : Heap) (locs : List Loc) (ls : Array Slot), LI (t + 1) C → GW D N L A (cW cy L F C) H → va_S A s.heap H locs → lv_has ls 11 [(2, .int (nI t)), (1, .ref (L 0)), (0, .ref b)] → W p l e room_1 s m #[Value.ref b] below meth c H locs c0 s0 Q (F0 m 215 ls [])
set_option maxHeartbeats 4000000 in
set_option maxRecDepth 100000 in
theorem law_206 {p : Program} {l : Launch} {e : Env} {s : State} {m : MethodId} {below : List Frame} {meth : Method} {c : Code} {b Ln : Nat} {xs : Nat → Int32} {D : va_G} {cy : Nat → ClassId} {N : Nat} {L : Nat → Nat} {A : Nat → Prop} {F : Nat → va_E} {Q : State → Prop} {c0 s0 : Nat} (hC : LC p l s m c b Ln xs D cy N A c0 s0) {t : Nat} (ht : t < 44) (C : CT) (hnext : NX (p := p) (l := l) (e := e) (s := s) (m := m) (below := below) (meth := meth) (c := c) (b := b) (D := D) (cy := cy) (N := N) (L := L) (A := A) (F := F) (Q := Q) (c0 := c0) (s0 := s0) t) (H : Heap) (locs : List Loc) (ls : Array Slot) (h : LI (t + 1) C) (hG : GW D N L A (cW cy L F C) H) (hS : va_S A s.heap H locs) {v w : Int32} (hl : lv_has ls 11 [(4, .int w), (3, .int v), (2, .int (nI t)), (1, .ref (L 0)), (0, .ref b)]) : W p l e room_1 s m #[Value.ref b] below meth c H locs c0 s0 Q (F0 m 206 ls []) := by
  obtain ⟨hx, hb, hml, hown, hts, hK, hA, hN, hcl, hX, hbl, hbA, hLn⟩ := id hC
  refine lv_aload_n hx hb dL_law_206 rfl (lv_at hl 3 rfl) ?_
  refine g_cSi (As := [.ref (L 0)]) (rest := []) hx hb hml hown hts hK hA hG hS (k_holds l D cy N L _ hN C h.1) (g_cwS 1 hts gL_law_L_holds rfl rfl rfl (by decide +kernel) ⟨Nat.le_of_ble_eq_true rfl, Nat.le_of_ble_eq_true rfl⟩) rfl rfl hl.1 (Nat.le_of_ble_eq_true rfl) dL_law_207 hcl (fun H locs hG hS => ?_)
  refine lv_if_ne (tgt := 215) hx hb dL_law_210 (by decide) (fun c_210 => ?_) (fun c_210 => ?_)
  · skip
    exact hnext C H locs ls h hG hS (lv_sub hl [2, 3, 4] rfl)
  · skip
    exact absurd c_210 (by decide)
set_option maxHeartbeats 4000000 in
set_option maxRecDepth 100000 in
theorem law_74n {p : Program} {l : Launch} {e : Env} {s : State} {m : MethodId} {below : List Frame} {meth : Method} {c : Code} {b Ln : Nat} {xs : Nat → Int32} {D : va_G} {cy : Nat → ClassId} {N : Nat} {L : Nat → Nat} {A : Nat → Prop} {F : Nat → va_E} {Q : State → Prop} {c0 s0 : Nat} (hC : LC p l s m c b Ln xs D cy N A c0 s0) {t : Nat} (ht : t < 44) (C : CT) (hnext : NX (p := p) (l := l) (e := e) (s := s) (m := m) (below := below) (meth := meth) (c := c) (b := b) (D := D) (cy := cy) (N := N) (L := L) (A := A) (F := F) (Q := Q) (c0 := c0) (s0 := s0) t) (H : Heap) (locs : List Loc) (ls : Array Slot) (h : LI t C) (hG : GW D N L A (cW cy L F C) H) (hS : va_S A s.heap H locs) {v w : Int32} (hl : lv_has ls 11 [(4, .int w), (3, .int v), (2, .int (nI t)), (1, .ref (L 0)), (0, .ref b)]) (hres : a_res (cY C) v w = none) : W p l e room_1 s m #[Value.ref b] below meth c H locs c0 s0 Q (F0 m 74 ls []) := by
  obtain ⟨hx, hb, hml, hown, hts, hK, hA, hN, hcl, hX, hbl, hbA, hLn⟩ := id hC
  have hq6 := h.2.1
  refine lv_aload_n hx hb dL_law_74 rfl (lv_at hl 3 rfl) ?_
  refine lv_bipush (v := 14) hx hb dL_law_75 (by decide) ?_
  refine g_cVi (As := [.int 14]) (rest := []) hx hb hml hown hts hK hA hG hS (k_X4_count_ok l D cy N L _ (by omega) C 14 (h.1.wf) (by decide)) (cwV 1 hts gL_law_X4_count rfl rfl rfl (by decide +kernel) ⟨Nat.le_of_ble_eq_true rfl, Nat.le_of_ble_eq_true rfl⟩) (by omega) cW_o (ci := 4) rfl rfl rfl rfl hl.1 (Nat.le_of_ble_eq_true rfl) dL_law_77 hcl (fun H locs hG hS => ?_)
  refine lv_toN (k := cQ C) (cnt_14) ?_
  refine lv_istore (lv' := [(5, .int (nI (cQ C))), (4, .int w), (3, .int v), (2, .int (nI t)), (1, .ref (L 0)), (0, .ref b)]) hx hb dL_law_80 hl (by decide) rfl (fun ls hl => ?_)
  refine lv_aload_n hx hb dL_law_82 rfl (lv_at hl 4 rfl) ?_
  refine g_cSl (As := [.ref (L 0)]) (rest := []) hx hb hml hown hts hK hA hG hS (k_L_told l D cy N L _ (by omega) C  (h.1.wf)) (g_cwS 1 hts gL_law_L_told rfl rfl rfl (by decide +kernel) ⟨Nat.le_of_ble_eq_true rfl, Nat.le_of_ble_eq_true rfl⟩) rfl rfl hl.1 (Nat.le_of_ble_eq_true rfl) dL_law_83 hcl (fun H locs hG hS => ?_)
  refine lv_lstore (lv' := [(6, .long (t_told C)), (5, .int (nI (cQ C))), (4, .int w), (3, .int v), (2, .int (nI t)), (1, .ref (L 0)), (0, .ref b)]) hx hb dL_law_86 hl (by decide) rfl (fun ls hl => ?_)
  refine lv_aload_n hx hb dL_law_88 rfl (lv_at hl 5 rfl) ?_
  refine lv_iload_n hx hb dL_law_89 rfl (lv_at hl 3 rfl) ?_
  refine lv_iload hx hb dL_law_90 (lv_at hl 2 rfl) ?_
  refine g_cSi (As := [.ref (L 0), .int v, .int w]) (rest := []) hx hb hml hown hts hK hA hG hS (k_L_act l D cy N L _ (by omega) C v w (h.1.wf) (h.2.1) (h.2.2.1)) (g_cwS 3 hts gL_law_L_act rfl rfl rfl (by decide +kernel) ⟨Nat.le_of_ble_eq_true rfl, Nat.le_of_ble_eq_true rfl⟩) rfl rfl hl.1 (Nat.le_of_ble_eq_true rfl) dL_law_92 hcl (fun H locs hG hS => ?_)
  refine lv_toI (y := (-9)) ((act_none hres).1) ?_
  have hG : GW D N L _ (cW cy L F C) _ := hG.to (by rw [(act_none hres).2])
  refine lv_istore (lv' := [(8, .int (-9)), (6, .long (t_told C)), (5, .int (nI (cQ C))), (4, .int w), (3, .int v), (2, .int (nI t)), (1, .ref (L 0)), (0, .ref b)]) hx hb dL_law_95 hl (by decide) rfl (fun ls hl => ?_)
  refine lv_aload_n hx hb dL_law_97 rfl (lv_at hl 6 rfl) ?_
  refine g_cSl (As := [.ref (L 0)]) (rest := []) hx hb hml hown hts hK hA hG hS (k_L_told l D cy N L _ (by omega) C  (h.1.wf)) (g_cwS 1 hts gL_law_L_told rfl rfl rfl (by decide +kernel) ⟨Nat.le_of_ble_eq_true rfl, Nat.le_of_ble_eq_true rfl⟩) rfl rfl hl.1 (Nat.le_of_ble_eq_true rfl) dL_law_98 hcl (fun H locs hG hS => ?_)
  refine lv_lstore (lv' := [(9, .long (t_told C)), (8, .int (-9)), (6, .long (t_told C)), (5, .int (nI (cQ C))), (4, .int w), (3, .int v), (2, .int (nI t)), (1, .ref (L 0)), (0, .ref b)]) hx hb dL_law_101 hl (by decide) rfl (fun ls hl => ?_)
  refine lv_iload hx hb dL_law_103 (lv_at hl 1 rfl) ?_
  refine lv_bipush (v := -9) hx hb dL_law_105 (by decide) ?_
  refine lv_icmp_ne (tgt := 132) hx hb dL_law_107 (by decide) (fun c_107 => ?_) (fun c_107 => ?_)
  · skip
    exact absurd c_107 (by decide)
  · skip
    refine lv_lload hx hb dL_law_110 (lv_at hl 0 rfl) ?_
    refine lv_lload hx hb dL_law_112 (lv_at hl 2 rfl) ?_
    refine W.lcmp hx hb dL_law_114 ?_
    refine lv_if_ne (tgt := 145) hx hb dL_law_115 (by decide) (fun c_115 => ?_) (fun c_115 => ?_)
    · skip
      exact absurd ((lg_cmp_eq _ _).mpr rfl) c_115
    · skip
      refine lv_aload_n hx hb dL_law_118 rfl (lv_at hl 7 rfl) ?_
      refine lv_bipush (v := 14) hx hb dL_law_119 (by decide) ?_
      refine g_cVi (As := [.int 14]) (rest := []) hx hb hml hown hts hK hA hG hS (k_X4_count_ok l D cy N L _ (by omega) C 14 (h.1.wf) (by decide)) (cwV 1 hts gL_law_X4_count rfl rfl rfl (by decide +kernel) ⟨Nat.le_of_ble_eq_true rfl, Nat.le_of_ble_eq_true rfl⟩) (by omega) cW_o (ci := 4) rfl rfl rfl rfl hl.1 (Nat.le_of_ble_eq_true rfl) dL_law_121 hcl (fun H locs hG hS => ?_)
      refine lv_toN (k := cQ C) (cnt_14) ?_
      refine lv_iload hx hb dL_law_124 (lv_at hl 3 rfl) ?_
      refine lv_icmp_eq (tgt := 147) hx hb dL_law_126 (by decide) (fun c_126 => ?_) (fun c_126 => ?_)
      · skip
        have c_126 : (cQ C) = (cQ C) := (nI_eq (a := cQ C) (b := cQ C) (by omega) (by omega)).mp c_126
        refine lv_iload hx hb dL_law_147 (lv_at hl 1 rfl) ?_
        refine lv_bipush (v := -9) hx hb dL_law_149 (by decide) ?_
        refine lv_icmp_le (tgt := 206) hx hb dL_law_151 (by decide) (fun c_151 => ?_) (fun c_151 => ?_)
        · skip
          exact law_206 hC ht C hnext H locs ls (h.mono (by omega)) hG hS (lv_sub hl [4, 5, 6, 7, 8] rfl)
        · skip
          exact absurd c_151 (by decide)
      · skip
        exact absurd rfl c_126
set_option maxHeartbeats 4000000 in
set_option maxRecDepth 100000 in
theorem law_74s {p : Program} {l : Launch} {e : Env} {s : State} {m : MethodId} {below : List Frame} {meth : Method} {c : Code} {b Ln : Nat} {xs : Nat → Int32} {D : va_G} {cy : Nat → ClassId} {N : Nat} {L : Nat → Nat} {A : Nat → Prop} {F : Nat → va_E} {Q : State → Prop} {c0 s0 : Nat} (hC : LC p l s m c b Ln xs D cy N A c0 s0) {t : Nat} (ht : t < 44) (C : CT) (hnext : NX (p := p) (l := l) (e := e) (s := s) (m := m) (below := below) (meth := meth) (c := c) (b := b) (D := D) (cy := cy) (N := N) (L := L) (A := A) (F := F) (Q := Q) (c0 := c0) (s0 := s0) t) (H : Heap) (locs : List Loc) (ls : Array Slot) (h : LI t C) (hq5 : cQ C ≤ 5) (hG : GW D N L A (cW cy L F C) H) (hS : va_S A s.heap H locs) {v w : Int32} (hl : lv_has ls 11 [(4, .int w), (3, .int v), (2, .int (nI t)), (1, .ref (L 0)), (0, .ref b)]) {q : Int32 × YT} (hres : a_res (cY C) v w = some q) : W p l e room_1 s m #[Value.ref b] below meth c H locs c0 s0 Q (F0 m 74 ls []) := by
  obtain ⟨hx, hb, hml, hown, hts, hK, hA, hN, hcl, hX, hbl, hbA, hLn⟩ := id hC
  obtain ⟨hpos, hI1⟩ := act_p (by omega) h.1 v w q hres
  have hne : ¬ q.1 = -9 := fun e => by rw [e] at hpos; exact absurd hpos (by decide)
  have hgt : ¬ q.1 ≤ -9 := fun e => by rw [i_le, show (-9 : Int32).toInt = -9 by decide] at e; omega
  have h' : LI (t + 1) C := h.mono (by omega)
  obtain ⟨hL1, heQ, heY⟩ := save_p h' hq5 hI1
  have hL2 := undo_p hL1 (by rw [heQ]; omega)
  have heQ2 : cQ (c_undo (c_setY (c_save C) q.2)) = cQ C := by
    show cQ (c_setY (c_save C) q.2) - 1 = cQ C
    rw [heQ, Nat.add_sub_cancel]
  have hres2 : a_res (cY (c_undo (c_setY (c_save C) q.2))) v w = some q := by rw [heY]; exact hres
  have hL3 := (save_p hL2 (by rw [heQ2]; exact hq5) hI1).1
  refine lv_aload_n hx hb dL_law_74 rfl (lv_at hl 3 rfl) ?_
  refine lv_bipush (v := 14) hx hb dL_law_75 (by decide) ?_
  refine g_cVi (As := [.int 14]) (rest := []) hx hb hml hown hts hK hA hG hS (k_X4_count_ok l D cy N L _ (by omega) C 14 (h.1.wf) (by decide)) (cwV 1 hts gL_law_X4_count rfl rfl rfl (by decide +kernel) ⟨Nat.le_of_ble_eq_true rfl, Nat.le_of_ble_eq_true rfl⟩) (by omega) cW_o (ci := 4) rfl rfl rfl rfl hl.1 (Nat.le_of_ble_eq_true rfl) dL_law_77 hcl (fun H locs hG hS => ?_)
  refine lv_toN (k := cQ C) (cnt_14) ?_
  refine lv_istore (lv' := [(5, .int (nI (cQ C))), (4, .int w), (3, .int v), (2, .int (nI t)), (1, .ref (L 0)), (0, .ref b)]) hx hb dL_law_80 hl (by decide) rfl (fun ls hl => ?_)
  refine lv_aload_n hx hb dL_law_82 rfl (lv_at hl 4 rfl) ?_
  refine g_cSl (As := [.ref (L 0)]) (rest := []) hx hb hml hown hts hK hA hG hS (k_L_told l D cy N L _ (by omega) C  (h.1.wf)) (g_cwS 1 hts gL_law_L_told rfl rfl rfl (by decide +kernel) ⟨Nat.le_of_ble_eq_true rfl, Nat.le_of_ble_eq_true rfl⟩) rfl rfl hl.1 (Nat.le_of_ble_eq_true rfl) dL_law_83 hcl (fun H locs hG hS => ?_)
  refine lv_lstore (lv' := [(6, .long (t_told C)), (5, .int (nI (cQ C))), (4, .int w), (3, .int v), (2, .int (nI t)), (1, .ref (L 0)), (0, .ref b)]) hx hb dL_law_86 hl (by decide) rfl (fun ls hl => ?_)
  refine lv_aload_n hx hb dL_law_88 rfl (lv_at hl 5 rfl) ?_
  refine lv_iload_n hx hb dL_law_89 rfl (lv_at hl 3 rfl) ?_
  refine lv_iload hx hb dL_law_90 (lv_at hl 2 rfl) ?_
  refine g_cSi (As := [.ref (L 0), .int v, .int w]) (rest := []) hx hb hml hown hts hK hA hG hS (k_L_act l D cy N L _ (by omega) C v w (h.1.wf) (h.2.1) (h.2.2.1)) (g_cwS 3 hts gL_law_L_act rfl rfl rfl (by decide +kernel) ⟨Nat.le_of_ble_eq_true rfl, Nat.le_of_ble_eq_true rfl⟩) rfl rfl hl.1 (Nat.le_of_ble_eq_true rfl) dL_law_92 hcl (fun H locs hG hS => ?_)
  refine lv_toI (y := q.1) ((act_some hres).1) ?_
  have hG : GW D N L _ (cW cy L F (c_setY (c_save C) q.2)) _ := hG.to (by rw [(act_some hres).2])
  refine lv_istore (lv' := [(8, .int q.1), (6, .long (t_told C)), (5, .int (nI (cQ C))), (4, .int w), (3, .int v), (2, .int (nI t)), (1, .ref (L 0)), (0, .ref b)]) hx hb dL_law_95 hl (by decide) rfl (fun ls hl => ?_)
  refine lv_aload_n hx hb dL_law_97 rfl (lv_at hl 6 rfl) ?_
  refine g_cSl (As := [.ref (L 0)]) (rest := []) hx hb hml hown hts hK hA hG hS (k_L_told l D cy N L _ (by omega) (c_setY (c_save C) q.2)  (hL1.1.wf)) (g_cwS 1 hts gL_law_L_told rfl rfl rfl (by decide +kernel) ⟨Nat.le_of_ble_eq_true rfl, Nat.le_of_ble_eq_true rfl⟩) rfl rfl hl.1 (Nat.le_of_ble_eq_true rfl) dL_law_98 hcl (fun H locs hG hS => ?_)
  refine lv_lstore (lv' := [(9, .long (t_told (c_setY (c_save C) q.2))), (8, .int q.1), (6, .long (t_told C)), (5, .int (nI (cQ C))), (4, .int w), (3, .int v), (2, .int (nI t)), (1, .ref (L 0)), (0, .ref b)]) hx hb dL_law_101 hl (by decide) rfl (fun ls hl => ?_)
  refine lv_iload hx hb dL_law_103 (lv_at hl 1 rfl) ?_
  refine lv_bipush (v := -9) hx hb dL_law_105 (by decide) ?_
  refine lv_icmp_ne (tgt := 132) hx hb dL_law_107 (by decide) (fun c_107 => ?_) (fun c_107 => ?_)
  · skip
    refine lv_aload_n hx hb dL_law_132 rfl (lv_at hl 7 rfl) ?_
    refine lv_bipush (v := 14) hx hb dL_law_133 (by decide) ?_
    refine g_cVi (As := [.int 14]) (rest := []) hx hb hml hown hts hK hA hG hS (k_X4_count_ok l D cy N L _ (by omega) (c_setY (c_save C) q.2) 14 (hL1.1.wf) (by decide)) (cwV 1 hts gL_law_X4_count rfl rfl rfl (by decide +kernel) ⟨Nat.le_of_ble_eq_true rfl, Nat.le_of_ble_eq_true rfl⟩) (by omega) cW_o (ci := 4) rfl rfl rfl rfl hl.1 (Nat.le_of_ble_eq_true rfl) dL_law_135 hcl (fun H locs hG hS => ?_)
    refine lv_toN (k := cQ C + 1) (by rw [cnt_14, heQ]) ?_
    refine lv_iload hx hb dL_law_138 (lv_at hl 3 rfl) ?_
    refine lv_iconst (v := 1) hx hb dL_law_140 (by decide) ?_
    refine lv_iadd hx hb dL_law_141 ?_
    refine lv_toN (k := (cQ C) + 1) (nI_add (cQ C) 1) ?_
    refine lv_icmp_eq (tgt := 147) hx hb dL_law_142 (by decide) (fun c_142 => ?_) (fun c_142 => ?_)
    · skip
      have c_142 : (cQ C + 1) = ((cQ C) + 1) := (nI_eq (a := cQ C + 1) (b := (cQ C) + 1) (by omega) (by omega)).mp c_142
      refine lv_iload hx hb dL_law_147 (lv_at hl 1 rfl) ?_
      refine lv_bipush (v := -9) hx hb dL_law_149 (by decide) ?_
      refine lv_icmp_le (tgt := 206) hx hb dL_law_151 (by decide) (fun c_151 => ?_) (fun c_151 => ?_)
      · skip
        exact absurd c_151 hgt
      · skip
        refine lv_iload_n hx hb dL_law_154 rfl (lv_at hl 5 rfl) ?_
        refine lv_bipush (v := 10) hx hb dL_law_155 (by decide) ?_
        refine lv_ishr hx hb dL_law_157 ?_
        refine lv_iconst (v := 1) hx hb dL_law_158 (by decide) ?_
        refine lv_iand hx hb dL_law_159 ?_
        refine lv_if_ne (tgt := 206) hx hb dL_law_160 (by decide) (fun c_160 => ?_) (fun c_160 => ?_)
        · skip
          exact law_206 hC ht (c_setY (c_save C) q.2) hnext H locs ls (hL1) hG hS (lv_sub hl [4, 5, 6, 7, 8] rfl)
        · skip
          refine lv_aload_n hx hb dL_law_163 rfl (lv_at hl 7 rfl) ?_
          refine g_cVi (As := []) (rest := []) hx hb hml hown hts hK hA hG hS (k_X4_undo_ok l D cy N L _ (by omega) (c_setY (c_save C) q.2)  (by rw [heQ]; omega) (hL1.2.1) (hL1.2.2.1)) (cwV 0 hts gL_law_X4_undo rfl rfl rfl (by decide +kernel) ⟨Nat.le_of_ble_eq_true rfl, Nat.le_of_ble_eq_true rfl⟩) (by omega) cW_o (ci := 4) rfl rfl rfl rfl hl.1 (Nat.le_of_ble_eq_true rfl) dL_law_164 hcl (fun H locs hG hS => ?_)
          refine lv_toN (k := cQ C) (by rw [heQ, Nat.add_sub_cancel]) ?_
          have hG : GW D N L _ (cW cy L F (c_undo (c_setY (c_save C) q.2))) _ := hG.to (rfl)
          refine lv_iload hx hb dL_law_167 (lv_at hl 3 rfl) ?_
          refine lv_icmp_ne (tgt := 204) hx hb dL_law_169 (by decide) (fun c_169 => ?_) (fun c_169 => ?_)
          · skip
            exact absurd rfl c_169
          · skip
            have c_169 : (cQ C) = (cQ C) := (nI_eq (a := cQ C) (b := cQ C) (by omega) (by omega)).mp c_169
            refine lv_aload_n hx hb dL_law_172 rfl (lv_at hl 7 rfl) ?_
            refine g_cSl (As := [.ref (L 0)]) (rest := []) hx hb hml hown hts hK hA hG hS (k_L_told l D cy N L _ (by omega) (c_undo (c_setY (c_save C) q.2))  (hL2.1.wf)) (g_cwS 1 hts gL_law_L_told rfl rfl rfl (by decide +kernel) ⟨Nat.le_of_ble_eq_true rfl, Nat.le_of_ble_eq_true rfl⟩) rfl rfl hl.1 (Nat.le_of_ble_eq_true rfl) dL_law_173 hcl (fun H locs hG hS => ?_)
            refine lv_lload hx hb dL_law_176 (lv_at hl 2 rfl) ?_
            refine W.lcmp hx hb dL_law_178 ?_
            refine lv_if_ne (tgt := 204) hx hb dL_law_179 (by decide) (fun c_179 => ?_) (fun c_179 => ?_)
            · skip
              exact absurd ((lg_cmp_eq _ _).mpr (t_cong heY)) c_179
            · skip
              refine lv_aload_n hx hb dL_law_182 rfl (lv_at hl 7 rfl) ?_
              refine lv_iload_n hx hb dL_law_183 rfl (lv_at hl 5 rfl) ?_
              refine lv_iload hx hb dL_law_184 (lv_at hl 4 rfl) ?_
              refine g_cSi (As := [.ref (L 0), .int v, .int w]) (rest := []) hx hb hml hown hts hK hA hG hS (k_L_act l D cy N L _ (by omega) (c_undo (c_setY (c_save C) q.2)) v w (hL2.1.wf) (hL2.2.1) (hL2.2.2.1)) (g_cwS 3 hts gL_law_L_act rfl rfl rfl (by decide +kernel) ⟨Nat.le_of_ble_eq_true rfl, Nat.le_of_ble_eq_true rfl⟩) rfl rfl hl.1 (Nat.le_of_ble_eq_true rfl) dL_law_186 hcl (fun H locs hG hS => ?_)
              refine lv_toI (y := q.1) ((act_some hres2).1) ?_
              have hG : GW D N L _ (cW cy L F (c_setY (c_save (c_undo (c_setY (c_save C) q.2))) q.2)) _ := hG.to (by rw [(act_some hres2).2])
              refine lv_iload hx hb dL_law_189 (lv_at hl 1 rfl) ?_
              refine lv_icmp_ne (tgt := 204) hx hb dL_law_191 (by decide) (fun c_191 => ?_) (fun c_191 => ?_)
              · skip
                exact absurd rfl c_191
              · skip
                refine lv_aload_n hx hb dL_law_194 rfl (lv_at hl 7 rfl) ?_
                refine g_cSl (As := [.ref (L 0)]) (rest := []) hx hb hml hown hts hK hA hG hS (k_L_told l D cy N L _ (by omega) (c_setY (c_save (c_undo (c_setY (c_save C) q.2))) q.2)  (hL3.1.wf)) (g_cwS 1 hts gL_law_L_told rfl rfl rfl (by decide +kernel) ⟨Nat.le_of_ble_eq_true rfl, Nat.le_of_ble_eq_true rfl⟩) rfl rfl hl.1 (Nat.le_of_ble_eq_true rfl) dL_law_195 hcl (fun H locs hG hS => ?_)
                refine lv_lload hx hb dL_law_198 (lv_at hl 0 rfl) ?_
                refine W.lcmp hx hb dL_law_200 ?_
                refine lv_if_eq (tgt := 206) hx hb dL_law_201 (by decide) (fun c_201 => ?_) (fun c_201 => ?_)
                · skip
                  exact law_206 hC ht (c_setY (c_save (c_undo (c_setY (c_save C) q.2))) q.2) hnext H locs ls (hL3) hG hS (lv_sub hl [4, 5, 6, 7, 8] rfl)
                · skip
                  exact absurd ((lg_cmp_eq _ _).mpr (t_cong rfl)) c_201
    · skip
      exact absurd rfl c_142
  · skip
    exact absurd c_107 hne
set_option maxHeartbeats 4000000 in
set_option maxRecDepth 100000 in
theorem law_turn {p : Program} {l : Launch} {e : Env} {s : State} {m : MethodId} {below : List Frame} {meth : Method} {c : Code} {b Ln : Nat} {xs : Nat → Int32} {D : va_G} {cy : Nat → ClassId} {N : Nat} {L : Nat → Nat} {A : Nat → Prop} {F : Nat → va_E} {Q : State → Prop} {c0 s0 : Nat} (hC : LC p l s m c b Ln xs D cy N A c0 s0) {t : Nat} (ht : t < 44) (C : CT) (hnext : NX (p := p) (l := l) (e := e) (s := s) (m := m) (below := below) (meth := meth) (c := c) (b := b) (D := D) (cy := cy) (N := N) (L := L) (A := A) (F := F) (Q := Q) (c0 := c0) (s0 := s0) t) (H : Heap) (locs : List Loc) (ls : Array Slot) (h : LI t C) (hG : GW D N L A (cW cy L F C) H) (hS : va_S A s.heap H locs) (hl : lv_has ls 11 [(2, .int (nI t)), (1, .ref (L 0)), (0, .ref b)]) : W p l e room_1 s m #[Value.ref b] below meth c H locs c0 s0 Q (F0 m 16 ls []) := by
  obtain ⟨hx, hb, hml, hown, hts, hK, hA, hN, hcl, hX, hbl, hbA, hLn⟩ := id hC
  have hq6 := h.2.1
  have goes41 : ∀ (v : Int32) (H : Heap) (locs : List Loc), GW D N L A (cW cy L F C) H → va_S A s.heap H locs → W p l e room_1 s m #[Value.ref b] below meth c H locs c0 s0 Q (F0 m 41 ls [.int v]) := by
    intro v H locs hG hS
    refine lv_istore_n (lv' := [(3, .int v), (2, .int (nI t)), (1, .ref (L 0)), (0, .ref b)]) hx hb dL_law_41 rfl hl (by decide) rfl (fun ls hl => ?_)
    refine lv_aload_n hx hb dL_law_42 rfl (lv_at hl 3 rfl) ?_
    refine lv_iconst (v := 2) hx hb dL_law_43 (by decide) ?_
    refine lv_iload_n hx hb dL_law_44 rfl (lv_at hl 1 rfl) ?_
    refine lv_imul hx hb dL_law_45 ?_
    refine lv_toN (k := 2 * t) (pk_mul 2 t) ?_
    refine lv_iconst (v := 1) hx hb dL_law_46 (by decide) ?_
    refine lv_iadd hx hb dL_law_47 ?_
    refine lv_toN (k := 2 * t + 1) (nI_add (2 * t) 1) ?_
    refine g_cell hC hG hS (by omega) hl.1 (Nat.le_of_ble_eq_true rfl) dL_law_48 (fun H locs hG hS => ?_)
    generalize l_cell xs Ln (2 * t + 1) = w
    refine lv_istore (lv' := [(4, .int w), (3, .int v), (2, .int (nI t)), (1, .ref (L 0)), (0, .ref b)]) hx hb dL_law_51 hl (by decide) rfl (fun ls hl => ?_)
    have goes74 : ∀ (C : CT) (H : Heap) (locs : List Loc) (ls : Array Slot), (LI t C ∧ cQ C ≤ 5) → GW D N L A (cW cy L F C) H → va_S A s.heap H locs → lv_has ls 11 [(4, .int w), (3, .int v), (2, .int (nI t)), (1, .ref (L 0)), (0, .ref b)] → W p l e room_1 s m #[Value.ref b] below meth c H locs c0 s0 Q (F0 m 74 ls []) := by
      intro C H locs ls h hG hS hl
      cases hres : a_res (cY C) v w with
      | none => exact law_74n hC ht C hnext H locs ls h.1 hG hS hl hres
      | some q => exact law_74s hC ht C hnext H locs ls h.1 h.2 hG hS hl hres
    refine lv_aload_n hx hb dL_law_53 rfl (lv_at hl 3 rfl) ?_
    refine lv_bipush (v := 14) hx hb dL_law_54 (by decide) ?_
    refine g_cVi (As := [.int 14]) (rest := []) hx hb hml hown hts hK hA hG hS (k_X4_count_ok l D cy N L _ (by omega) C 14 (h.1.wf) (by decide)) (cwV 1 hts gL_law_X4_count rfl rfl rfl (by decide +kernel) ⟨Nat.le_of_ble_eq_true rfl, Nat.le_of_ble_eq_true rfl⟩) (by omega) cW_o (ci := 4) rfl rfl rfl rfl hl.1 (Nat.le_of_ble_eq_true rfl) dL_law_56 hcl (fun H locs hG hS => ?_)
    refine lv_toN (k := cQ C) (cnt_14) ?_
    refine lv_bipush (v := 6) hx hb dL_law_59 (by decide) ?_
    refine lv_icmp_ne (tgt := 74) hx hb dL_law_61 (by decide) (fun c_61 => ?_) (fun c_61 => ?_)
    · skip
      have c_61 : ¬ (cQ C) = 6 := fun h9 => c_61 ((nI_eq (a := cQ C) (b := 6) (by omega) (by omega)).mpr h9)
      exact goes74 C H locs ls ⟨h, by have := h.2.1; omega⟩ hG hS (lv_sub hl [0, 1, 2, 3, 4] rfl)
    · skip
      have c_61 : (cQ C) = 6 := (nI_eq (a := cQ C) (b := 6) (by omega) (by omega)).mp c_61
      have hU := undo_p h (by omega)
      have hU2 := undo_p hU (by show 1 ≤ cQ C - 1; omega)
      refine lv_aload_n hx hb dL_law_64 rfl (lv_at hl 3 rfl) ?_
      refine g_cVi (As := []) (rest := []) hx hb hml hown hts hK hA hG hS (k_X4_undo_ok l D cy N L _ (by omega) C  (by omega) (h.2.1) (h.2.2.1)) (cwV 0 hts gL_law_X4_undo rfl rfl rfl (by decide +kernel) ⟨Nat.le_of_ble_eq_true rfl, Nat.le_of_ble_eq_true rfl⟩) (by omega) cW_o (ci := 4) rfl rfl rfl rfl hl.1 (Nat.le_of_ble_eq_true rfl) dL_law_65 hcl (fun H locs hG hS => ?_)
      have hG : GW D N L _ (cW cy L F (c_undo C)) _ := hG.to (rfl)
      refine lv_pop hx hb dL_law_68 rfl ?_
      refine lv_aload_n hx hb dL_law_69 rfl (lv_at hl 3 rfl) ?_
      refine g_cVi (As := []) (rest := []) hx hb hml hown hts hK hA hG hS (k_X4_undo_ok l D cy N L _ (by omega) (c_undo C)  (by show 1 ≤ cQ C - 1; omega) (hU.2.1) (hU.2.2.1)) (cwV 0 hts gL_law_X4_undo rfl rfl rfl (by decide +kernel) ⟨Nat.le_of_ble_eq_true rfl, Nat.le_of_ble_eq_true rfl⟩) (by omega) cW_o (ci := 4) rfl rfl rfl rfl hl.1 (Nat.le_of_ble_eq_true rfl) dL_law_70 hcl (fun H locs hG hS => ?_)
      have hG : GW D N L _ (cW cy L F (c_undo (c_undo C))) _ := hG.to (rfl)
      refine lv_pop hx hb dL_law_73 rfl ?_
      exact goes74 (c_undo (c_undo C)) H locs ls ⟨hU2, by show cQ C - 1 - 1 ≤ 5; omega⟩ hG hS (lv_sub hl [0, 1, 2, 3, 4] rfl)
  refine lv_iload_n hx hb dL_law_16 rfl (lv_at hl 0 rfl) ?_
  refine lv_iconst (v := 4) hx hb dL_law_17 (by decide) ?_
  refine lv_icmp_ge (tgt := 34) hx hb dL_law_18 (by decide) (fun c9 => ?_) (fun c9 => ?_)
  · refine lv_aload_n hx hb dL_law_34 rfl (lv_at hl 2 rfl) ?_
    refine lv_iconst (v := 2) hx hb dL_law_35 (by decide) ?_
    refine lv_iload_n hx hb dL_law_36 rfl (lv_at hl 0 rfl) ?_
    refine lv_imul hx hb dL_law_37 ?_
    refine lv_toN (k := 2 * t) (pk_mul 2 t) ?_
    refine g_cell hC hG hS (by omega) hl.1 (Nat.le_of_ble_eq_true rfl) dL_law_38 (fun H locs hG hS => ?_)
    exact goes41 _ H locs hG hS
  · refine lv_aload_n hx hb dL_law_21 rfl (lv_at hl 2 rfl) ?_
    refine lv_iconst (v := 2) hx hb dL_law_22 (by decide) ?_
    refine lv_iload_n hx hb dL_law_23 rfl (lv_at hl 0 rfl) ?_
    refine lv_imul hx hb dL_law_24 ?_
    refine lv_toN (k := 2 * t) (pk_mul 2 t) ?_
    refine g_cell hC hG hS (by omega) hl.1 (Nat.le_of_ble_eq_true rfl) dL_law_25 (fun H locs hG hS => ?_)
    refine lv_bipush (v := -16) hx hb dL_law_28 (by decide) ?_
    refine lv_iand hx hb dL_law_30 ?_
    refine lv_goto (tgt := 41) hx hb dL_law_31 (by decide) ?_
    exact goes41 _ H locs hG hS
set_option maxHeartbeats 4000000 in
set_option maxRecDepth 100000 in
theorem law_loop {p : Program} {l : Launch} {e : Env} {s : State} {m : MethodId} {below : List Frame} {meth : Method} {c : Code} {b Ln : Nat} {xs : Nat → Int32} {D : va_G} {cy : Nat → ClassId} {N : Nat} {L : Nat → Nat} {A : Nat → Prop} {F : Nat → va_E} {Q : State → Prop} {c0 s0 : Nat} (hC : LC p l s m c b Ln xs D cy N A c0 s0) (hend : ∀ (H : Heap) (locs : List Loc) (ls : Array Slot), va_S A s.heap H locs → W p l e room_1 s m #[Value.ref b] below meth c H locs c0 s0 Q (F0 m 222 ls [.int 1])) :
    ∀ (n t : Nat), t + n = 44 → ∀ (C : CT) (H : Heap) (locs : List Loc) (ls : Array Slot), LI t C → GW D N L A (cW cy L F C) H → va_S A s.heap H locs → lv_has ls 11 [(2, .int (nI t)), (1, .ref (L 0)), (0, .ref b)] → W p l e room_1 s m #[Value.ref b] below meth c H locs c0 s0 Q (F0 m 10 ls []) := by
  obtain ⟨hx, hb, hml, hown, hts, hK, hA, hN, hcl, hX, hbl, hbA, hLn⟩ := id hC
  intro n
  induction n with
  | zero =>
    intro t h9 C H locs ls h hG hS hl
    have h9 : t = 44 := by omega
    refine lv_iload_n hx hb dL_law_10 rfl (lv_at hl 0 rfl) ?_
    refine lv_bipush (v := 44) hx hb dL_law_11 (by decide) ?_
    refine lv_icmp_ge (tgt := 221) hx hb dL_law_13 (by decide) (fun c9 => ?_) (fun c9 => ?_)
    · refine lv_iconst (v := 1) hx hb dL_law_221 (by decide) ?_
      exact hend H locs ls hS
    · exact absurd (show (44 : Int32) ≤ nI t by rw [h9]; decide) c9
  | succ n ih =>
    intro t h9 C H locs ls h hG hS hl
    refine lv_iload_n hx hb dL_law_10 rfl (lv_at hl 0 rfl) ?_
    refine lv_bipush (v := 44) hx hb dL_law_11 (by decide) ?_
    refine lv_icmp_ge (tgt := 221) hx hb dL_law_13 (by decide) (fun c9 => ?_) (fun c9 => ?_)
    · refine lv_iconst (v := 1) hx hb dL_law_221 (by decide) ?_
      exact hend H locs ls hS
    · refine law_turn hC (by omega) C (fun C H locs ls h hG hS hl => ?_) H locs ls h hG hS hl
      refine lv_iinc (v := nI (t + 1)) (lv' := [(2, .int (nI (t + 1))), (1, .ref (L 0)), (0, .ref b)]) hx hb dL_law_215 hl (k := 0) rfl (nI_add t 1) (by decide) rfl (fun ls hl => ?_)
      refine lv_goto (tgt := 10) hx hb dL_law_218 (by decide) ?_
      exact ih (t + 1) (by omega) C H locs ls h hG hS hl
