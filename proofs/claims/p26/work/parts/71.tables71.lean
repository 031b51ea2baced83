/-! THE CLAIM OUT OF ONE WALK OF THE LAW'S BODY. Your part is whole_start (and what it stands on); all else here is the same for every law, but numbers. -/
def R_law : String := "SiloPadsLaw"
def lw_P (b : Addr) (xs : List Int32) (args : Array Value) (s : State) : Prop := args = #[.ref b] ∧ s.IntsAt b xs ∧ xs.length ≤ 260 ∧ (Jvm.Cond.and given_1 narrow_1).before args s = true
/-- what a walk over the start with the record d0 says of its end, said of the start itself -/
theorem lw_closed {s t : State} {o : Outcome} {d0 : Drawn} {L : List Loc} {k n : Nat} (hd0 : s.drawn.sameBut d0 lw_cs) (hv : ∃ v, o = .returned v) (hW : (s.setDrawn d0).WarmedH t.vm) (hs : (s.setDrawn d0).sameButNew ({ t with vm := s.vm } : State) L k n) : State.butDraws s t lw_cs (fun t1 => Framed s o t1 L k n) := by
  have h2 : t.drawn = d0 := congrArg State.drawn hs.1
  refine ⟨⟨hv, hW, State.sameButNew.setDrawn hs s.drawn⟩, ?_, by decide⟩
  rw [h2]
  exact hd0
def lw_Q (_ : Array Value) (s : State) (o : Outcome) (t : State) : Prop := o = .returned (some (.int 1)) ∧ State.butDraws s t lw_cs (fun t1 => Framed s o t1 [] 643612 7170788)
def lw_Z (below : List Frame) (a : Array Value) (s : State) : State → Prop := fun t => ∃ o, t.status = .running ∧ Ended t below o ∧ lw_Q a s o t
/-- the law's own end, with 1 on the stack, nothing written that was there before, its room as the claim has it; d0: the record of draws at this point (at the entry s.drawn: begin with 'refine W.base ?_' and 'have hd0 := Drawn.sameBut.refl s.drawn lw_cs') -/
theorem lw_ret {p : Program} {l : Launch} {e : Env} {s : State} {m : MethodId} {below : List Frame} {meth : Method} {c : Code} {b : Nat} {d0 : Drawn} (hd0 : s.drawn.sameBut d0 lw_cs) (hx : p.tables.exec = Jvm.exec) (hb : c.code = code) (hr : meth.sig.returnType = ret) (hlocks : meth.locks = false) {pc : Nat} {H : Heap} {ls : Array Slot} (hdg : decode code pc = .ok (.ireturn, 1)) : W p l e room_1 (s.setDrawn d0) m #[Value.ref b] below meth c H [] 643612 7170788 (lw_Z below #[Value.ref b] s) (F0 m pc ls [.int 1]) := by
  intro T hT X
  obtain ⟨fs, hret, hrun, hended, hW, hframe⟩ := X.leave (v := some (.int 1)) (hlocks := hlocks) (fun h => by rw [hr] at h; cases h)
  have hmeth' : T.vm.method? m = some meth := X.method'
  refine ⟨T.setFrames fs, ?_, .returned (some (.int 1)), hrun, hended, rfl, lw_closed hd0 ⟨_, rfl⟩ hW hframe⟩
  jvm_step X.here [X.here.top, hx, hb, hdg, hmeth', hr, ret, narrow_b1]
  (try refine ⟨rfl, ?_⟩); (try refine ⟨rfl, ?_⟩)
  first | (intro acts; rw [hret _ acts rfl rfl rfl]) | rw [hret _ _ rfl rfl rfl]
  exact Steps.refl _
/-- what holds at the law's entry: the machine, the code, the tables' words (any of lw_tbl by 'hts w (by decide +kernel)'), the script of L ints xs at the cell b, what the Statement gives of the start (any of its parts by flat_of_before) -/
def lw_At (p : Program) (s : State) (m : MethodId) (meth : Method) (c : Code) (b L : Nat) (xs : Nat → Int32) : Prop :=
  p.tables.exec = Jvm.exec ∧ c.code = code ∧ meth.sig.returnType = ret ∧ c.maxLocals = 11 ∧ s.vm.findClass R_law = some m.cls ∧ (∀ w ∈ lw_tbl, w.before #[Value.ref b] s = true) ∧ va_X b L xs s s.heap ∧ b < s.heap.size ∧ meth.locks = false ∧ (Jvm.Cond.and given_1 narrow_1).before #[Value.ref b] s = true
/-! WHAT THE TABLES AND THE START SAY, in the words of the walks -/
theorem static_eval {C n d : String} {v : Value} {B : Nat → Prop} {s : State} {A : Array Value} (h : va_Z C n d v B s s.heap) : (Term.static C n d).eval A s none [] s = some v := by
  obtain ⟨cf, kf, fi, f, a, cell, h1, h2, h3, h4, h5, h6, h7, -⟩ := h
  simp [Term.eval, State.fieldNamed?, h1, h2, h4, h5, h6, h7]
theorem nests_in : ∀ q ∈ gNest, Cond.methodLinkNest q.1 q.2.1 q.2.2.1 q.2.2.2 ∈ lw_tbl := by decide +kernel
theorem casts_in : ∀ x ∈ [xI, xA, xS], Cond.castable x x ∈ lw_tbl := by decide +kernel
theorem entry_X {A : Array Value} {s : State} (hts : ∀ w ∈ lw_tbl, w.before A s = true) : gX s :=
  ⟨fun q hq => va_Nw.of rfl (hts _ (nests_in q hq)), fun q hq => absurd hq List.not_mem_nil, fun x hx => absurd hx List.not_mem_nil, fun x hx => va_Nw.of rfl (hts _ (casts_in x hx)), fun q hq => absurd hq List.not_mem_nil⟩
theorem entry_st {A : Array Value} {s : State} {B : Nat → Prop} (hts : ∀ w ∈ lw_tbl, w.before A s = true) (hg : ∀ w ∈ flatC (Jvm.Cond.and given_1 narrow_1), w.before A s = true) (hB : ∀ a : Nat, a < s.heap.size → ¬ B a) : gst B s s.heap := by
  refine ⟨vx_Zqof (hts _ (by decide +kernel)) (hts _ (by decide +kernel)) (hg _ (by decide +kernel)) hB, vx_Zqof (hts _ (by decide +kernel)) (hts _ (by decide +kernel)) (hg _ (by decide +kernel)) hB, ?_, ?_, ?_⟩
  · exact gsa_of (hts _ (by decide +kernel)) (hts _ (by decide +kernel)) (hg _ (by decide +kernel)) (hg _ (by decide +kernel)) (hg (.eq (.elem (.static "SiloPads" "SETTING_LEAST" "[I") (.int 0)) (.int 0)) (by decide +kernel)) (hg (.eq (.elem (.static "SiloPads" "SETTING_LEAST" "[I") (.int 1)) (.int 1)) (by decide +kernel)) (hg (.eq (.elem (.static "SiloPads" "SETTING_LEAST" "[I") (.int 2)) (.int 5)) (by decide +kernel)) (hg (.eq (.elem (.static "SiloPads" "SETTING_LEAST" "[I") (.int 3)) (.int 0)) (by decide +kernel)) hB
  · exact gsa_of (hts _ (by decide +kernel)) (hts _ (by decide +kernel)) (hg _ (by decide +kernel)) (hg _ (by decide +kernel)) (hg (.eq (.elem (.static "SiloPads" "SETTING_MOST" "[I") (.int 0)) (.int 16)) (by decide +kernel)) (hg (.eq (.elem (.static "SiloPads" "SETTING_MOST" "[I") (.int 1)) (.int 20)) (by decide +kernel)) (hg (.eq (.elem (.static "SiloPads" "SETTING_MOST" "[I") (.int 2)) (.int 100)) (by decide +kernel)) (hg (.eq (.elem (.static "SiloPads" "SETTING_MOST" "[I") (.int 3)) (.int 900)) (by decide +kernel)) hB
  · exact gsa_of (hts _ (by decide +kernel)) (hts _ (by decide +kernel)) (hg _ (by decide +kernel)) (hg _ (by decide +kernel)) (hg (.eq (.elem (.static "SiloPads" "SETTING_FIRST" "[I") (.int 0)) (.int 6)) (by decide +kernel)) (hg (.eq (.elem (.static "SiloPads" "SETTING_FIRST" "[I") (.int 1)) (.int 3)) (by decide +kernel)) (hg (.eq (.elem (.static "SiloPads" "SETTING_FIRST" "[I") (.int 2)) (.int 20)) (by decide +kernel)) (hg (.eq (.elem (.static "SiloPads" "SETTING_FIRST" "[I") (.int 3)) (.int 200)) (by decide +kernel)) hB
theorem entry_K {A : Array Value} {s : State} (hts : ∀ w ∈ lw_tbl, w.before A s = true) (hin : ∀ w ∈ wsL_law, w ∈ lw_tbl) : ∃ (D : va_G) (cy : Nat → ClassId), va_K D vwCl (gty cy) s := by
  obtain ⟨a0, k0, p0, x0, y0, z0⟩ := Cond.arrayClass_spec (hts (.arrayClass .int) (by decide +kernel))
  obtain ⟨p1, a1, k1, w1, -, x1, y1, z1⟩ := Cond.arrayOver_spec (hts (.arrayOver (.object RX1)) (by decide +kernel))
  obtain ⟨p2, a2, k2, w2, -, x2, y2, z2⟩ := Cond.arrayOver_spec (hts (.arrayOver (.object RX0)) (by decide +kernel))
  obtain ⟨p3, a3, k3, w3, -, x3, y3, z3⟩ := Cond.arrayOver_spec (hts (.arrayOver (.object RX3)) (by decide +kernel))
  obtain ⟨c0, i0, n0⟩ := u_known (C := RX0) (T := TX0) (N := 2) (n := 2) hts (by decide +kernel) (hts (.instantiable RX0 2) (by decide +kernel))
  obtain ⟨c1, i1, n1⟩ := u_known (C := RX1) (T := TX1) (N := 6) (n := 6) hts (by decide +kernel) (hts (.instantiable RX1 6) (by decide +kernel))
  obtain ⟨c2, i2, n2⟩ := u_known (C := RX2) (T := TX2) (N := 5) (n := 5) hts (by decide +kernel) (hts (.instantiable RX2 5) (by decide +kernel))
  obtain ⟨c3, i3, n3⟩ := u_known (C := RX3) (T := TX3) (N := 9) (n := 9) hts (by decide +kernel) (hts (.instantiable RX3 9) (by decide +kernel))
  obtain ⟨c4, i4, n4⟩ := u_known (C := RX4) (T := TX4) (N := 8) (n := 8) hts (by decide +kernel) (hts (.instantiable RX4 8) (by decide +kernel))
  refine ⟨(fun k => match k with | 0 => c0 | 1 => c1 | 2 => c2 | 3 => c3 | _ => c4, fun k => match k with | 0 => i0 | 1 => i1 | 2 => i2 | 3 => i3 | _ => i4), fun k => match k with | 0 => a0 | 1 => a1 | 2 => a2 | _ => a3, fun c q hq => ?_, fun k q hq => ?_⟩
  · match c, hq with
    | 0, hq => cases hq; exact n0
    | 1, hq => cases hq; exact n1
    | 2, hq => cases hq; exact n2
    | 3, hq => cases hq; exact n3
    | 4, hq => cases hq; exact n4
    | k + 5, hq => simp [vwCl] at hq
  · match k, hq with
    | 0, hq => cases hq; exact ⟨fun n z => ⟨fun k h => (by cases h), k0, y0, p0, z0⟩, x0⟩
    | 1, hq => cases hq; exact ⟨fun n z => ⟨fun k h => (by cases h), k1, x1, p1, y1⟩, k1, p1, x1, y1, w1, z1⟩
    | 2, hq => cases hq; exact ⟨fun n z => ⟨fun k h => (by cases h), k2, x2, p2, y2⟩, k2, p2, x2, y2, w2, z2⟩
    | 3, hq => cases hq; exact ⟨fun n z => ⟨fun k h => (by cases h), k3, x3, p3, y3⟩, k3, p3, x3, y3, w3, z3⟩
    | k + 4, hq => simp [gty] at hq
theorem entry_V {D : va_G} {cy : Nat → ClassId} {A : Array Value} {s : State} {B : Nat → Prop} (hts : ∀ w ∈ lw_tbl, w.before A s = true) (hg : ∀ w ∈ flatC (Jvm.Cond.and given_1 narrow_1), w.before A s = true) (hK : va_K D vwCl (gty cy) s) (hS : gst B s s.heap) : gV cy B s s.heap := by
  refine ⟨⟨va_AO.of (hts (.arrayOver (.object RX1)) (by decide +kernel)), va_AO.of (hts (.arrayOver (.object RX0)) (by decide +kernel)), va_AO.of (hts (.arrayOver (.object RX3)) (by decide +kernel)), va_Nw.of rfl (hts _ (by decide +kernel))⟩, va_Nw.of rfl (hts _ (by decide +kernel)), ?_⟩
  exact gcl_of (hK.2 0 _ rfl).2 (hg _ (by decide +kernel)) (hg _ (by decide +kernel)) hS.2.2.2.2 (fun t hZ => static_eval hZ)

