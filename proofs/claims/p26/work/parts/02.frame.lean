/-! THE FRAME: a world of N cells, each with a place i: L i is its address, F i what it holds. Every contract of this claim speaks of such a world, before and behind. -/
def gw (N : Nat) (L : Nat → Nat) (F : Nat → va_E) : va_W := (List.range N).map (fun i => (L i, F i))
def gup (F : Nat → va_E) (i : Nat) (e : va_E) : Nat → va_E := fun j => if j = i then e else F j
theorem gup_s {F : Nat → va_E} {i : Nat} {e : va_E} : gup F i e i = e := by simp [gup]
theorem gup_n {F : Nat → va_E} {i j : Nat} {e : va_E} (h : j ≠ i) : gup F i e j = F j := by simp [gup, h]
theorem gw_at {N : Nat} {L : Nat → Nat} {F : Nat → va_E} {i : Nat} (h : i < N) : (gw N L F)[i]? = some (L i, F i) := by
  simp [gw, h]
theorem gw_of {N : Nat} {L : Nat → Nat} {F : Nat → va_E} {i : Nat} {q : Nat × va_E} (h : (gw N L F)[i]? = some q) : i < N ∧ q = (L i, F i) := by
  rcases Nat.lt_or_ge i N with h1 | h1
  · rw [gw_at h1] at h
    exact ⟨h1, (Option.some.inj h).symm⟩
  · rw [List.getElem?_eq_none (by simp [gw]; exact h1)] at h
    cases h
theorem gw_set {N : Nat} {L : Nat → Nat} {F : Nat → va_E} {i : Nat} {e : va_E} (h : i < N) : (gw N L F).set i (L i, e) = gw N L (gup F i e) := by
  apply List.ext_getElem?
  intro j
  rcases Nat.lt_or_ge j N with hj | hj
  · rw [gw_at hj, List.getElem?_set]
    by_cases hij : i = j
    · subst hij
      simp [gup, gw, h]
    · rw [if_neg hij, gw_at hj, gup_n (fun q => hij q.symm)]
  · rw [List.getElem?_eq_none (by simp [gw]; exact hj), List.getElem?_eq_none (by simp [gw]; exact hj)]
def gA (N : Nat) (L : Nat → Nat) (sz : Nat) : Nat → Prop := fun q => (∃ i, i < N ∧ q = L i) ∨ sz ≤ q
def gty (cy : Nat → ClassId) : List (ClassId × FieldType) := [(cy 0, .int), (cy 1, .object RX1), (cy 2, .object RX0), (cy 3, .object RX3)]
def GW (D : va_G) (N : Nat) (L : Nat → Nat) (A : Nat → Prop) (F : Nat → va_E) (H : Heap) : Prop := va_P D vwCl (gw N L F) H ∧ va_D A (gw N L F)
theorem GW.to {D : va_G} {N : Nat} {L : Nat → Nat} {A : Nat → Prop} {F F2 : Nat → va_E} {H : Heap} (h : GW D N L A F H) (e : F = F2) : GW D N L A F2 H := e ▸ h
/-- a world's addresses are the same whatever the cells hold -/
theorem gw_D {A B : Nat → Prop} {N : Nat} {L : Nat → Nat} {F F2 : Nat → va_E} (h : va_D A (gw N L F)) (hB : ∀ i, i < N → B (L i)) : va_D B (gw N L F2) := by
  refine ⟨fun i j p q hp hq e => ?_, fun k q hq => ?_⟩
  · obtain ⟨h1, rfl⟩ := gw_of hp
    obtain ⟨h2, rfl⟩ := gw_of hq
    exact h.1 i j _ _ (gw_at h1) (gw_at h2) e
  · obtain ⟨h1, rfl⟩ := gw_of hq
    exact hB k h1
/-- what the tables say besides the words: calls of nest mates, the texts of the exceptions -/
def gNest : List (String × Nat × MethodName × String) := [(RX3, 54, yX1_init, RX4), (RX3, 55, yX0_init, RX4), (RX4, 33, yX2_init, RX4), (RX4, 40, yX1_init, RX4), (RX4, 47, yX0_init, RX4)]
def gStr : List (Nat × String) := []
def gDecl : List MethodName := []
def xI : String := "java/lang/IndexOutOfBoundsException"
def xA : String := "java/lang/IllegalArgumentException"
def xS : String := "java/lang/IllegalStateException"
def gNc : List (String × String) := []
def gX (U : State) : Prop := (∀ q ∈ gNest, va_Nw (.methodLinkNest q.1 q.2.1 q.2.2.1 q.2.2.2) U) ∧ (∀ q ∈ gStr, ∃ a : Nat, vk_R RX4 q.1 q.2 a U) ∧ (∀ x ∈ gDecl, va_Nw (.declares x) U) ∧ (∀ x ∈ [xI, xA, xS], va_Nw (.castable x x) U) ∧ ∀ q ∈ gNc, va_Nc q.1 q.2 U
theorem gX.warm {s U : State} (hW : s.WarmedH U.vm) (h : gX s) : gX U := by
  obtain ⟨h1, h2, h3, h4, h5⟩ := h
  refine ⟨fun q hq => va_Nw.warmM hW (h1 q hq), fun q hq => ?_, fun x hx => va_Nw.warmD hW (h3 x hx), fun x hx => va_Nw.warmC hW (h4 x hx), fun q hq => va_Nc.moved hW.alike (h5 q hq)⟩
  obtain ⟨a, ha⟩ := h2 q hq
  exact ⟨a, vk_R.warm hW ha⟩
theorem gX.same {s U : State} (hv : s.vm = U.vm) (h : gX s) : gX U := by
  obtain ⟨h1, h2, h3, h4, h5⟩ := h
  refine ⟨fun q hq => va_Nw.same rfl hv (h1 q hq), fun q hq => ?_, fun x hx => va_Nw.same rfl hv (h3 x hx), fun x hx => va_Nw.same rfl hv (h4 x hx), fun q hq => va_Nc.moved (by rw [hv]; exact Vm.Alike.refl U.vm) (h5 q hq)⟩
  obtain ⟨a, ha⟩ := h2 q hq
  exact ⟨a, vk_R.same hv.symm ha⟩
/-- a static row of four numbers -/
def gsa (n : String) (f : Nat → Int32) (B : Nat → Prop) (U : State) (H : Heap) : Prop := ∃ t : Nat, va_Z "SiloPads" n "[I" (.ref t) B U H ∧ va_T .int t 4 (fun j => .int (f j)) B U H
def z_least : Nat → Int32 := fun j => if j = 1 then 1 else if j = 2 then 5 else 0
def z_most : Nat → Int32 := fun j => if j = 0 then 16 else if j = 1 then 20 else if j = 2 then 100 else 900
def z_first : Nat → Int32 := fun j => if j = 0 then 6 else if j = 1 then 3 else if j = 2 then 20 else 200
/-- what the statics hold, outside B -/
def gst (B : Nat → Prop) (U : State) (H : Heap) : Prop := vx_Zq Bundle.tN "UNASSIGNED_STACK" Bundle.steD B U H ∧ vx_Zq Bundle.tN "SUPPRESSED_SENTINEL" Bundle.listD B U H ∧ gsa "SETTING_LEAST" z_least B U H ∧ gsa "SETTING_MOST" z_most B U H ∧ gsa "SETTING_FIRST" z_first B U H
theorem gsa.moved {n : String} {f : Nat → Int32} {B : Nat → Prop} {u U : State} {H : Heap} (hvm : u.vm.Alike U.vm) (h : gsa n f B u H) : gsa n f B U H := by
  obtain ⟨t, h1, h2⟩ := h
  exact ⟨t, h1.moved hvm, h2.moved hvm⟩
theorem gsa.kept {n : String} {f : Nat → Int32} {B : Nat → Prop} {U : State} {H H1 : Heap} (h : gsa n f B U H) (hq : ∀ a : Nat, a < H.size → ¬ B a → H1[a]? = H[a]?) : gsa n f B U H1 := by
  obtain ⟨t, h1, h2⟩ := h
  exact ⟨t, h1.kept hq, h2.kept hq⟩
theorem gsa.narrow {n : String} {f : Nat → Int32} {B B2 : Nat → Prop} {U : State} {H : Heap} (h : gsa n f B U H) (hAB : ∀ q, B2 q → B q) : gsa n f B2 U H := by
  obtain ⟨t, h1, h2⟩ := h
  exact ⟨t, h1.narrow hAB, h2.narrow hAB⟩
theorem gst.moved {B : Nat → Prop} {u U : State} {H : Heap} (hvm : u.vm.Alike U.vm) (h : gst B u H) : gst B U H := ⟨h.1.moved hvm, h.2.1.moved hvm, h.2.2.1.moved hvm, h.2.2.2.1.moved hvm, h.2.2.2.2.moved hvm⟩
theorem gst.kept {B : Nat → Prop} {U : State} {H H1 : Heap} (h : gst B U H) (hq : ∀ a : Nat, a < H.size → ¬ B a → H1[a]? = H[a]?) : gst B U H1 := ⟨h.1.kept hq, h.2.1.kept hq, h.2.2.1.kept hq, h.2.2.2.1.kept hq, h.2.2.2.2.kept hq⟩
theorem gst.narrow {B B2 : Nat → Prop} {U : State} {H : Heap} (h : gst B U H) (hAB : ∀ q, B2 q → B q) : gst B2 U H := ⟨h.1.narrow hAB, h.2.1.narrow hAB, h.2.2.1.narrow hAB, h.2.2.2.1.narrow hAB, h.2.2.2.2.narrow hAB⟩
def gK (D : va_G) (cy : Nat → ClassId) (A : Nat → Prop) (s : State) : Prop := va_K D vwCl (gty cy) s ∧ gX s ∧ gst A s s.heap
/-- a method's end: what it answers, what the world holds behind it, nothing else changed -/
def gQ (D : va_G) (cy : Nat → ClassId) (N : Nat) (L : Nat → Nat) (sz : Nat) (Q : Option Value → (Nat → va_E) → Prop) : Array Value → State → Outcome → State → Prop := fun _ st oc t =>
  (∃ (v : Option Value) (F : Nat → va_E), oc = .returned v ∧ Q v F ∧ va_P D vwCl (gw N L F) t.heap ∧ va_K D vwCl (gty cy) t ∧ va_D (gA N L sz) (gw N L F)) ∧ va_F (gA N L sz) st t
def gPc (D : va_G) (cy : Nat → ClassId) (N : Nat) (L : Nat → Nat) (F : Nat → va_E) (sz : Nat) : State → Prop := fun U => U.heap.size = sz ∧ va_P D vwCl (gw N L F) U.heap ∧ va_K D vwCl (gty cy) U ∧ va_D (fun _ => True) (gw N L F) ∧ gX U ∧ gst (gA N L sz) U U.heap
/-- THE CONTRACT of a method that returns and makes nothing -/
def GMet (l : Launch) (D : va_G) (cy : Nat → ClassId) (N : Nat) (L : Nat → Nat) (y : MethodName) (ws : List Cond) (rm : Room) (av : List Value) (F : Nat → va_E) (Q : Option Value → (Nat → va_E) → Prop) : Prop :=
  ∀ sz : Nat, Met l y ws rm (va_Pc av (gPc D cy N L F sz)) (gQ D cy N L sz Q) 0 0 (gA N L sz)
/-- the same, answer and world behind it said -/
def GM (l : Launch) (D : va_G) (cy : Nat → ClassId) (N : Nat) (L : Nat → Nat) (y : MethodName) (ws : List Cond) (rm : Room) (av : List Value) (F : Nat → va_E) (rv : Option Value) (F2 : Nat → va_E) : Prop := GMet l D cy N L y ws rm av F (fun v F' => v = rv ∧ F' = F2)
theorem gPc_blind {D : va_G} {cy : Nat → ClassId} {N : Nat} {L : Nat → Nat} {F : Nat → va_E} {sz : Nat} {av : List Value} : FrameBlind (va_Pc av (gPc D cy N L F sz)) := by
  intro a U g mk q
  obtain ⟨q0, q1, qP, qK, qD, qX, qS⟩ := q
  exact ⟨q0, q1, qP, va_K.moved (u := U) (U := U.calling g mk a) (Vm.Alike.refl U.vm) qK, qD, gX.same (s := U) (U := U.calling g mk a) rfl qX, gst.moved (u := U) (U := U.calling g mk a) (Vm.Alike.refl U.vm) qS⟩
theorem GM.ofW {l : Launch} {D : va_G} {cy : Nat → ClassId} {N : Nat} {L : Nat → Nat} {y : MethodName} {ws ws' : List Cond} {rm : Room} {av : List Value} {F : Nat → va_E} {Q : Option Value → (Nat → va_E) → Prop} {cc : ByteArray} {maxL : Nat} {ret : Option FieldType}
    (hy : plainName y.cls = true) (hw : ws = Cond.code y cc maxL ret :: ws') (hlen : (lg_sl av).length ≤ maxL)
    (body : ∀ (p : Program) (e : Env) (s : State) (m : MethodId) (below : List Frame) (meth : Method) (c : Code) (ls : Array Slot), p.tables.exec = Jvm.exec → c.code = cc → meth.sig.returnType = ret → (∀ w ∈ ws, w.before av.toArray s = true) → s.vm.findClass y.cls = some m.cls → meth.locks = false → c.maxLocals = maxL → gK D cy (gA N L s.heap.size) s → (∀ q, s.heap.size ≤ q → gA N L s.heap.size q) → GW D N L (gA N L s.heap.size) F s.heap → va_S (gA N L s.heap.size) s.heap s.heap [] → lv_has ls maxL (lv_args 0 av) →
      W p l e (headSpec ws rm).room s m av.toArray below meth c s.heap [] 0 0 (MQ below (gQ D cy N L s.heap.size Q) av.toArray s 0 0 (gA N L s.heap.size)) (F0 m 0 ls [])) : GMet l D cy N L y ws rm av F Q := by
  intro sz
  refine Met.ofW (cc := cc) (maxL := maxL) (ret := ret) hy hw ?_
  intro p e s m args below meth c s₁ B hml hv
  obtain ⟨rfl, hsz, hP, hK, hD0, hXX, hST⟩ := hv
  subst hsz
  have hts := atoms_spec (ws := ws) B.pre
  have hown : s.vm.findClass y.cls = some m.cls := findClass_of_methodNamed B.named
  have hl := lv_entry av (n := maxL) hlen
  rw [lg_entry_eq]
  exact body p e s m below meth c _ B.exec B.bytes B.returns hts hown B.notSynchronized hml ⟨hK, hXX, hST⟩ (fun q h => Or.inr h) ⟨hP, gw_D hD0 (fun i hi => Or.inl ⟨i, hi, rfl⟩)⟩ va_S.rf hl
section GR
variable {p : Program} {l : Launch} {e : Env} {R : Room} {s : State} {m : MethodId} {args : Array Value} {below : List Frame} {meth : Method} {c : Code} {H : Heap} {locs : List Loc} {cells slots : Nat} {Q : State → Prop}
variable {cc : ByteArray} {pc : Nat} {ls : Array Slot} {rest : List Value} {D : va_G} {cy : Nat → ClassId} {N : Nat} {L : Nat → Nat} {A : Nat → Prop} {F : Nat → va_E} {H0 : Heap}
theorem g_iret {Qv : Option Value → (Nat → va_E) → Prop} {v : Int32} {ty : FieldType} (hexec : p.tables.exec = Jvm.exec) (hb : c.code = cc) (hr : meth.sig.returnType = some ty) (hlocks : meth.locks = false) (hK : gK D cy (gA N L s.heap.size) s) (hG : GW D N L (gA N L s.heap.size) F H) (hS : va_S (gA N L s.heap.size) s.heap H locs) (hn : narrow ty (.int v) = .int v) (hdg : decode cc pc = .ok (.ireturn, 1)) (hq : Qv (some (.int v)) F) :
    W p l e R s m args below meth c H locs cells slots (MQ below (gQ D cy N L s.heap.size Qv) args s cells slots (gA N L s.heap.size)) (F0 m pc ls [.int v]) :=
  W.zret hexec hb hr hn (fun t ht hW => ⟨⟨_, F, rfl, hq, by rw [ht]; exact hG.1, va_K.moved hW.alike hK.1, hG.2⟩, hS.F ht⟩) hS.2.2 hdg hlocks
theorem g_lret {Qv : Option Value → (Nat → va_E) → Prop} {v : Int64} (hexec : p.tables.exec = Jvm.exec) (hb : c.code = cc) (hr : meth.sig.returnType = some .long) (hlocks : meth.locks = false) (hK : gK D cy (gA N L s.heap.size) s) (hG : GW D N L (gA N L s.heap.size) F H) (hS : va_S (gA N L s.heap.size) s.heap H locs) (hdg : decode cc pc = .ok (.lreturn, 1)) (hq : Qv (some (.long v)) F) :
    W p l e R s m args below meth c H locs cells slots (MQ below (gQ D cy N L s.heap.size Qv) args s cells slots (gA N L s.heap.size)) (F0 m pc ls [.long v]) :=
  W.lret hexec hb hr (fun t ht hW => ⟨⟨_, F, rfl, hq, by rw [ht]; exact hG.1, va_K.moved hW.alike hK.1, hG.2⟩, hS.F ht⟩) hS.2.2 hdg hlocks
theorem g_dret {Qv : Option Value → (Nat → va_E) → Prop} {v : UInt64} (hexec : p.tables.exec = Jvm.exec) (hb : c.code = cc) (hr : meth.sig.returnType = some .double) (hlocks : meth.locks = false) (hK : gK D cy (gA N L s.heap.size) s) (hG : GW D N L (gA N L s.heap.size) F H) (hS : va_S (gA N L s.heap.size) s.heap H locs) (hdg : decode cc pc = .ok (.dreturn, 1)) (hq : Qv (some (.double v)) F) :
    W p l e R s m args below meth c H locs cells slots (MQ below (gQ D cy N L s.heap.size Qv) args s cells slots (gA N L s.heap.size)) (F0 m pc ls [.double v]) :=
  W.dret hexec hb hr (fun t ht hW => ⟨⟨_, F, rfl, hq, by rw [ht]; exact hG.1, va_K.moved hW.alike hK.1, hG.2⟩, hS.F ht⟩) hS.2.2 hdg hlocks
theorem g_vret {Qv : Option Value → (Nat → va_E) → Prop} (hexec : p.tables.exec = Jvm.exec) (hb : c.code = cc) (hr : meth.sig.returnType = none) (hlocks : meth.locks = false) (hK : gK D cy (gA N L s.heap.size) s) (hG : GW D N L (gA N L s.heap.size) F H) (hS : va_S (gA N L s.heap.size) s.heap H locs) (hdg : decode cc pc = .ok (.return_, 1)) (hq : Qv none F) :
    W p l e R s m args below meth c H locs cells slots (MQ below (gQ D cy N L s.heap.size Qv) args s cells slots (gA N L s.heap.size)) (F0 m pc ls []) :=
  W.vret hexec hb hr (fun t ht hW => ⟨⟨_, F, rfl, hq, by rw [ht]; exact hG.1, va_K.moved hW.alike hK.1, hG.2⟩, hS.F ht⟩) hS.2.2 hdg hlocks
theorem g_AA (hG : GW D N L A F H) (hS : va_S A H0 H locs) (hA : ∀ q, H0.size ≤ q → A q) : ∀ q, gA N L H.size q → A q := by
  intro q h
  rcases h with ⟨i, hi, rfl⟩ | h
  · exact hG.2.2 i (L i, F i) (gw_at hi)
  · exact hA q (Nat.le_trans hS.1 h)
/-- behind a call -/
theorem g_back {st0 : List Value} {Qv : Option Value → (Nat → va_E) → Prop} {a : Array Value} {free : Addr → Prop} (hr : va_Run p l e R s m args below meth c H locs cells slots 0 0 (F0 m pc ls st0) rest (gQ D cy N L H.size Qv a) free) (hG : GW D N L A F H) (hS : va_S A H0 H locs) (hA : ∀ q, H0.size ≤ q → A q) (hfree : ∀ q, free q → gA N L H.size q)
    (kk : ∀ (v : Option Value) (F2 : Nat → va_E) (H1 : Heap) (locs1 : List Loc), Qv v F2 → GW D N L A F2 H1 → va_S A H0 H1 locs1 → W p l e R s m args below meth c H1 locs1 cells slots Q (F0 m (pc + 3) ls (v.toList ++ rest))) : W p l e R s m args below meth c H locs cells slots Q (F0 m pc ls st0) := by
  intro T hT X
  obtain ⟨v, st₀, t, T', Lc, h0, X', hL, e1, e2, ⟨⟨v2, F2, hv, hq, hP, -, hD⟩, hz, hk⟩, st⟩ := hr T hT X
  cases hv
  rw [h0] at hz hk
  have hAA : ∀ q, gA N L H.size q → A q := by
    intro q h
    rcases h with ⟨i, hi, rfl⟩ | h
    · exact hG.2.2 i (L i, F i) (gw_at hi)
    · exact hA q (Nat.le_trans hS.1 h)
  have hHz : H.size ≤ T'.heap.size := by rw [e1]; exact hz
  obtain ⟨t2, a1, b1⟩ := kk v F2 T'.heap (locs ++ Lc) hq ⟨by rw [e1]; exact hP, gw_D hD (fun i hi => hAA _ (Or.inl ⟨i, hi, rfl⟩))⟩
    ⟨Nat.le_trans hS.1 hHz, fun q h1 h2 => by rw [e1, hk q (Nat.lt_of_lt_of_le h1 hS.1) (fun z => h2 (hAA q z))]; exact hS.2.1 q h1 h2, fun q hq => by
      rcases List.mem_append.mp hq with h | h
      · exact hS.2.2 q h
      · exact hAA _ (hfree _ (hL q h))⟩ T' rfl X'
  exact ⟨t2, st t2 a1, b1⟩
/-- a call of an instance method on the object at the place i -/
theorem g_callV {y : MethodName} {bytes : ByteArray} {maxL nL n index : Nat} {ret : Option FieldType} {ws : List Cond} {rm : Room} {Ts : List Cond} {own C : String} {As st0 : List Value} {Qv : Option Value → (Nat → va_E) → Prop} {i ci : Nat} {fs : List Value} {q : vw_C}
    (hexec : p.tables.exec = Jvm.exec) (hb : c.code = cc) (hml : c.maxLocals = nL) (hown : s.vm.findClass own = some m.cls) (hts : ∀ w ∈ Ts, w.before args s = true) (hK : gK D cy A s) (hA : ∀ q, s.heap.size ≤ q → A q) (hG : GW D N L A F H) (hS : va_S A s.heap H locs)
    (hM : GMet l D cy N L y ws rm (.ref (L i) :: As) F Qv) (cw : CallW R s args own C index y bytes maxL ret ws rm 0 0 n) (hi : i < N) (hF : F i = .inr (ci, fs)) (hc : vwCl[ci]? = some q) (hqC : q.1 = C) (hst : st0 = As.reverse ++ .ref (L i) :: rest) (hn : As.length = n) (hsize : ls.size = nL) (hroom : (rest.map fun v => v.category).sum ≤ 8) (hdg : decode cc pc = .ok (.invokevirtual index, 3)) (hcl : cells ≤ R.cells ∧ slots ≤ R.slots)
    (kk : ∀ (v : Option Value) (F2 : Nat → va_E) (H1 : Heap) (locs1 : List Loc), Qv v F2 → GW D N L A F2 H1 → va_S A s.heap H1 locs1 → W p l e R s m args below meth c H1 locs1 cells slots Q (F0 m (pc + 3) ls (v.toList ++ rest))) : W p l e R s m args below meth c H locs cells slots Q (F0 m pc ls st0) := by
  have hDt : va_D (fun _ => True) (gw N L F) := gw_D hG.2 (fun _ _ => trivial)
  have hst9 : gst (gA N L H.size) s H := (hK.2.2.kept hS.2.1).narrow (g_AA hG hS hA)
  refine g_back (va_runV (As := As) (rest := rest) ⟨hexec, hb, hml, hown, hts⟩ (hM H.size) cw ⟨gPc_blind, hqC ▸ va_recv hK.1 hG.1 hc (by rw [gw_at hi, hF]), fun U hU hW => ⟨rfl, by rw [hU], by rw [hU]; exact hG.1, va_K.moved hW.alike hK.1, hDt, hK.2.1.warm hW, by rw [hU]; exact hst9.moved hW.alike⟩⟩ rfl hn hsize hst (lv_room hroom) hdg hcl) hG hS hA (fun q h => h) kk
theorem g_callS {y : MethodName} {bytes : ByteArray} {maxL nL n index : Nat} {ret : Option FieldType} {ws : List Cond} {rm : Room} {Ts : List Cond} {own : String} {As st0 : List Value} {Qv : Option Value → (Nat → va_E) → Prop}
    (hexec : p.tables.exec = Jvm.exec) (hb : c.code = cc) (hml : c.maxLocals = nL) (hown : s.vm.findClass own = some m.cls) (hts : ∀ w ∈ Ts, w.before args s = true) (hK : gK D cy A s) (hA : ∀ q, s.heap.size ≤ q → A q) (hG : GW D N L A F H) (hS : va_S A s.heap H locs)
    (hM : GMet l D cy N L y ws rm As F Qv) (cw : CallB R s args own index y bytes maxL ret ws rm 0 0 n ∧ (Cond.static y).before args s = true) (hst : st0 = As.reverse ++ rest) (hn : As.length = n) (hsize : ls.size = nL) (hroom : (rest.map fun v => v.category).sum ≤ 8) (hdg : decode cc pc = .ok (.invokestatic index, 3)) (hcl : cells ≤ R.cells ∧ slots ≤ R.slots)
    (kk : ∀ (v : Option Value) (F2 : Nat → va_E) (H1 : Heap) (locs1 : List Loc), Qv v F2 → GW D N L A F2 H1 → va_S A s.heap H1 locs1 → W p l e R s m args below meth c H1 locs1 cells slots Q (F0 m (pc + 3) ls (v.toList ++ rest))) : W p l e R s m args below meth c H locs cells slots Q (F0 m pc ls st0) := by
  have hDt : va_D (fun _ => True) (gw N L F) := gw_D hG.2 (fun _ _ => trivial)
  have hst9 : gst (gA N L H.size) s H := (hK.2.2.kept hS.2.1).narrow (g_AA hG hS hA)
  refine g_back (va_runS (As := As) (rest := rest) ⟨hexec, hb, hml, hown, hts⟩ (hM H.size) cw ⟨gPc_blind, fun U hU hW => ⟨rfl, by rw [hU], by rw [hU]; exact hG.1, va_K.moved hW.alike hK.1, hDt, hK.2.1.warm hW, by rw [hU]; exact hst9.moved hW.alike⟩⟩ rfl hn hsize hst (lv_room hroom) hdg hcl) hG hS hA (fun q h => h) kk
/-- the same for contracts whose answer and world are said -/
theorem g_cV {y : MethodName} {bytes : ByteArray} {maxL nL n index : Nat} {ret : Option FieldType} {ws : List Cond} {rm : Room} {Ts : List Cond} {own C : String} {As st0 : List Value} {rv : Option Value} {F2 : Nat → va_E} {i ci : Nat} {fs : List Value} {q : vw_C}
    (hexec : p.tables.exec = Jvm.exec) (hb : c.code = cc) (hml : c.maxLocals = nL) (hown : s.vm.findClass own = some m.cls) (hts : ∀ w ∈ Ts, w.before args s = true) (hK : gK D cy A s) (hA : ∀ q, s.heap.size ≤ q → A q) (hG : GW D N L A F H) (hS : va_S A s.heap H locs)
    (hM : GM l D cy N L y ws rm (.ref (L i) :: As) F rv F2) (cw : CallW R s args own C index y bytes maxL ret ws rm 0 0 n) (hi : i < N) (hF : F i = .inr (ci, fs)) (hc : vwCl[ci]? = some q) (hqC : q.1 = C) (hst : st0 = As.reverse ++ .ref (L i) :: rest) (hn : As.length = n) (hsize : ls.size = nL) (hroom : (rest.map fun v => v.category).sum ≤ 8) (hdg : decode cc pc = .ok (.invokevirtual index, 3)) (hcl : cells ≤ R.cells ∧ slots ≤ R.slots)
    (kk : ∀ (H1 : Heap) (locs1 : List Loc), GW D N L A F2 H1 → va_S A s.heap H1 locs1 → W p l e R s m args below meth c H1 locs1 cells slots Q (F0 m (pc + 3) ls (rv.toList ++ rest))) : W p l e R s m args below meth c H locs cells slots Q (F0 m pc ls st0) :=
  g_callV hexec hb hml hown hts hK hA hG hS hM cw hi hF hc hqC hst hn hsize hroom hdg hcl (fun v F3 H1 locs1 hq hG1 hS1 => by obtain ⟨rfl, rfl⟩ := hq; exact kk H1 locs1 hG1 hS1)
theorem g_cS {y : MethodName} {bytes : ByteArray} {maxL nL n index : Nat} {ret : Option FieldType} {ws : List Cond} {rm : Room} {Ts : List Cond} {own : String} {As st0 : List Value} {rv : Option Value} {F2 : Nat → va_E}
    (hexec : p.tables.exec = Jvm.exec) (hb : c.code = cc) (hml : c.maxLocals = nL) (hown : s.vm.findClass own = some m.cls) (hts : ∀ w ∈ Ts, w.before args s = true) (hK : gK D cy A s) (hA : ∀ q, s.heap.size ≤ q → A q) (hG : GW D N L A F H) (hS : va_S A s.heap H locs)
    (hM : GM l D cy N L y ws rm As F rv F2) (cw : CallB R s args own index y bytes maxL ret ws rm 0 0 n ∧ (Cond.static y).before args s = true) (hst : st0 = As.reverse ++ rest) (hn : As.length = n) (hsize : ls.size = nL) (hroom : (rest.map fun v => v.category).sum ≤ 8) (hdg : decode cc pc = .ok (.invokestatic index, 3)) (hcl : cells ≤ R.cells ∧ slots ≤ R.slots)
    (kk : ∀ (H1 : Heap) (locs1 : List Loc), GW D N L A F2 H1 → va_S A s.heap H1 locs1 → W p l e R s m args below meth c H1 locs1 cells slots Q (F0 m (pc + 3) ls (rv.toList ++ rest))) : W p l e R s m args below meth c H locs cells slots Q (F0 m pc ls st0) :=
  g_callS hexec hb hml hown hts hK hA hG hS hM cw hst hn hsize hroom hdg hcl (fun v F3 H1 locs1 hq hG1 hS1 => by obtain ⟨rfl, rfl⟩ := hq; exact kk H1 locs1 hG1 hS1)
theorem g_cVi {y : MethodName} {bytes : ByteArray} {maxL nL n index : Nat} {ret : Option FieldType} {ws : List Cond} {rm : Room} {Ts : List Cond} {own C : String} {As st0 : List Value} {r : Int32} {F2 : Nat → va_E} {i ci : Nat} {fs : List Value} {q : vw_C}
    (hexec : p.tables.exec = Jvm.exec) (hb : c.code = cc) (hml : c.maxLocals = nL) (hown : s.vm.findClass own = some m.cls) (hts : ∀ w ∈ Ts, w.before args s = true) (hK : gK D cy A s) (hA : ∀ q, s.heap.size ≤ q → A q) (hG : GW D N L A F H) (hS : va_S A s.heap H locs)
    (hM : GM l D cy N L y ws rm (.ref (L i) :: As) F (some (.int r)) F2) (cw : CallW R s args own C index y bytes maxL ret ws rm 0 0 n) (hi : i < N) (hF : F i = .inr (ci, fs)) (hc : vwCl[ci]? = some q) (hqC : q.1 = C) (hst : st0 = As.reverse ++ .ref (L i) :: rest) (hn : As.length = n) (hsize : ls.size = nL) (hroom : (rest.map fun v => v.category).sum ≤ 8) (hdg : decode cc pc = .ok (.invokevirtual index, 3)) (hcl : cells ≤ R.cells ∧ slots ≤ R.slots)
    (kk : ∀ (H1 : Heap) (locs1 : List Loc), GW D N L A F2 H1 → va_S A s.heap H1 locs1 → W p l e R s m args below meth c H1 locs1 cells slots Q (F0 m (pc + 3) ls (.int r :: rest))) : W p l e R s m args below meth c H locs cells slots Q (F0 m pc ls st0) :=
  g_cV hexec hb hml hown hts hK hA hG hS hM cw hi hF hc hqC hst hn hsize hroom hdg hcl kk
theorem g_cSi {y : MethodName} {bytes : ByteArray} {maxL nL n index : Nat} {ret : Option FieldType} {ws : List Cond} {rm : Room} {Ts : List Cond} {own : String} {As st0 : List Value} {r : Int32} {F2 : Nat → va_E}
    (hexec : p.tables.exec = Jvm.exec) (hb : c.code = cc) (hml : c.maxLocals = nL) (hown : s.vm.findClass own = some m.cls) (hts : ∀ w ∈ Ts, w.before args s = true) (hK : gK D cy A s) (hA : ∀ q, s.heap.size ≤ q → A q) (hG : GW D N L A F H) (hS : va_S A s.heap H locs)
    (hM : GM l D cy N L y ws rm As F (some (.int r)) F2) (cw : CallB R s args own index y bytes maxL ret ws rm 0 0 n ∧ (Cond.static y).before args s = true) (hst : st0 = As.reverse ++ rest) (hn : As.length = n) (hsize : ls.size = nL) (hroom : (rest.map fun v => v.category).sum ≤ 8) (hdg : decode cc pc = .ok (.invokestatic index, 3)) (hcl : cells ≤ R.cells ∧ slots ≤ R.slots)
    (kk : ∀ (H1 : Heap) (locs1 : List Loc), GW D N L A F2 H1 → va_S A s.heap H1 locs1 → W p l e R s m args below meth c H1 locs1 cells slots Q (F0 m (pc + 3) ls (.int r :: rest))) : W p l e R s m args below meth c H locs cells slots Q (F0 m pc ls st0) :=
  g_cS hexec hb hml hown hts hK hA hG hS hM cw hst hn hsize hroom hdg hcl kk
theorem g_cVl {y : MethodName} {bytes : ByteArray} {maxL nL n index : Nat} {ret : Option FieldType} {ws : List Cond} {rm : Room} {Ts : List Cond} {own C : String} {As st0 : List Value} {r : Int64} {F2 : Nat → va_E} {i ci : Nat} {fs : List Value} {q : vw_C}
    (hexec : p.tables.exec = Jvm.exec) (hb : c.code = cc) (hml : c.maxLocals = nL) (hown : s.vm.findClass own = some m.cls) (hts : ∀ w ∈ Ts, w.before args s = true) (hK : gK D cy A s) (hA : ∀ q, s.heap.size ≤ q → A q) (hG : GW D N L A F H) (hS : va_S A s.heap H locs)
    (hM : GM l D cy N L y ws rm (.ref (L i) :: As) F (some (.long r)) F2) (cw : CallW R s args own C index y bytes maxL ret ws rm 0 0 n) (hi : i < N) (hF : F i = .inr (ci, fs)) (hc : vwCl[ci]? = some q) (hqC : q.1 = C) (hst : st0 = As.reverse ++ .ref (L i) :: rest) (hn : As.length = n) (hsize : ls.size = nL) (hroom : (rest.map fun v => v.category).sum ≤ 8) (hdg : decode cc pc = .ok (.invokevirtual index, 3)) (hcl : cells ≤ R.cells ∧ slots ≤ R.slots)
    (kk : ∀ (H1 : Heap) (locs1 : List Loc), GW D N L A F2 H1 → va_S A s.heap H1 locs1 → W p l e R s m args below meth c H1 locs1 cells slots Q (F0 m (pc + 3) ls (.long r :: rest))) : W p l e R s m args below meth c H locs cells slots Q (F0 m pc ls st0) :=
  g_cV hexec hb hml hown hts hK hA hG hS hM cw hi hF hc hqC hst hn hsize hroom hdg hcl kk
theorem g_cSl {y : MethodName} {bytes : ByteArray} {maxL nL n index : Nat} {ret : Option FieldType} {ws : List Cond} {rm : Room} {Ts : List Cond} {own : String} {As st0 : List Value} {r : Int64} {F2 : Nat → va_E}
    (hexec : p.tables.exec = Jvm.exec) (hb : c.code = cc) (hml : c.maxLocals = nL) (hown : s.vm.findClass own = some m.cls) (hts : ∀ w ∈ Ts, w.before args s = true) (hK : gK D cy A s) (hA : ∀ q, s.heap.size ≤ q → A q) (hG : GW D N L A F H) (hS : va_S A s.heap H locs)
    (hM : GM l D cy N L y ws rm As F (some (.long r)) F2) (cw : CallB R s args own index y bytes maxL ret ws rm 0 0 n ∧ (Cond.static y).before args s = true) (hst : st0 = As.reverse ++ rest) (hn : As.length = n) (hsize : ls.size = nL) (hroom : (rest.map fun v => v.category).sum ≤ 8) (hdg : decode cc pc = .ok (.invokestatic index, 3)) (hcl : cells ≤ R.cells ∧ slots ≤ R.slots)
    (kk : ∀ (H1 : Heap) (locs1 : List Loc), GW D N L A F2 H1 → va_S A s.heap H1 locs1 → W p l e R s m args below meth c H1 locs1 cells slots Q (F0 m (pc + 3) ls (.long r :: rest))) : W p l e R s m args below meth c H locs cells slots Q (F0 m pc ls st0) :=
  g_cS hexec hb hml hown hts hK hA hG hS hM cw hst hn hsize hroom hdg hcl kk
theorem g_cVd {y : MethodName} {bytes : ByteArray} {maxL nL n index : Nat} {ret : Option FieldType} {ws : List Cond} {rm : Room} {Ts : List Cond} {own C : String} {As st0 : List Value} {r : UInt64} {F2 : Nat → va_E} {i ci : Nat} {fs : List Value} {q : vw_C}
    (hexec : p.tables.exec = Jvm.exec) (hb : c.code = cc) (hml : c.maxLocals = nL) (hown : s.vm.findClass own = some m.cls) (hts : ∀ w ∈ Ts, w.before args s = true) (hK : gK D cy A s) (hA : ∀ q, s.heap.size ≤ q → A q) (hG : GW D N L A F H) (hS : va_S A s.heap H locs)
    (hM : GM l D cy N L y ws rm (.ref (L i) :: As) F (some (.double r)) F2) (cw : CallW R s args own C index y bytes maxL ret ws rm 0 0 n) (hi : i < N) (hF : F i = .inr (ci, fs)) (hc : vwCl[ci]? = some q) (hqC : q.1 = C) (hst : st0 = As.reverse ++ .ref (L i) :: rest) (hn : As.length = n) (hsize : ls.size = nL) (hroom : (rest.map fun v => v.category).sum ≤ 8) (hdg : decode cc pc = .ok (.invokevirtual index, 3)) (hcl : cells ≤ R.cells ∧ slots ≤ R.slots)
    (kk : ∀ (H1 : Heap) (locs1 : List Loc), GW D N L A F2 H1 → va_S A s.heap H1 locs1 → W p l e R s m args below meth c H1 locs1 cells slots Q (F0 m (pc + 3) ls (.double r :: rest))) : W p l e R s m args below meth c H locs cells slots Q (F0 m pc ls st0) :=
  g_cV hexec hb hml hown hts hK hA hG hS hM cw hi hF hc hqC hst hn hsize hroom hdg hcl kk
theorem g_cSd {y : MethodName} {bytes : ByteArray} {maxL nL n index : Nat} {ret : Option FieldType} {ws : List Cond} {rm : Room} {Ts : List Cond} {own : String} {As st0 : List Value} {r : UInt64} {F2 : Nat → va_E}
    (hexec : p.tables.exec = Jvm.exec) (hb : c.code = cc) (hml : c.maxLocals = nL) (hown : s.vm.findClass own = some m.cls) (hts : ∀ w ∈ Ts, w.before args s = true) (hK : gK D cy A s) (hA : ∀ q, s.heap.size ≤ q → A q) (hG : GW D N L A F H) (hS : va_S A s.heap H locs)
    (hM : GM l D cy N L y ws rm As F (some (.double r)) F2) (cw : CallB R s args own index y bytes maxL ret ws rm 0 0 n ∧ (Cond.static y).before args s = true) (hst : st0 = As.reverse ++ rest) (hn : As.length = n) (hsize : ls.size = nL) (hroom : (rest.map fun v => v.category).sum ≤ 8) (hdg : decode cc pc = .ok (.invokestatic index, 3)) (hcl : cells ≤ R.cells ∧ slots ≤ R.slots)
    (kk : ∀ (H1 : Heap) (locs1 : List Loc), GW D N L A F2 H1 → va_S A s.heap H1 locs1 → W p l e R s m args below meth c H1 locs1 cells slots Q (F0 m (pc + 3) ls (.double r :: rest))) : W p l e R s m args below meth c H locs cells slots Q (F0 m pc ls st0) :=
  g_cS hexec hb hml hown hts hK hA hG hS hM cw hst hn hsize hroom hdg hcl kk
theorem g_cVv {y : MethodName} {bytes : ByteArray} {maxL nL n index : Nat} {ret : Option FieldType} {ws : List Cond} {rm : Room} {Ts : List Cond} {own C : String} {As st0 : List Value}  {F2 : Nat → va_E} {i ci : Nat} {fs : List Value} {q : vw_C}
    (hexec : p.tables.exec = Jvm.exec) (hb : c.code = cc) (hml : c.maxLocals = nL) (hown : s.vm.findClass own = some m.cls) (hts : ∀ w ∈ Ts, w.before args s = true) (hK : gK D cy A s) (hA : ∀ q, s.heap.size ≤ q → A q) (hG : GW D N L A F H) (hS : va_S A s.heap H locs)
    (hM : GM l D cy N L y ws rm (.ref (L i) :: As) F (none) F2) (cw : CallW R s args own C index y bytes maxL ret ws rm 0 0 n) (hi : i < N) (hF : F i = .inr (ci, fs)) (hc : vwCl[ci]? = some q) (hqC : q.1 = C) (hst : st0 = As.reverse ++ .ref (L i) :: rest) (hn : As.length = n) (hsize : ls.size = nL) (hroom : (rest.map fun v => v.category).sum ≤ 8) (hdg : decode cc pc = .ok (.invokevirtual index, 3)) (hcl : cells ≤ R.cells ∧ slots ≤ R.slots)
    (kk : ∀ (H1 : Heap) (locs1 : List Loc), GW D N L A F2 H1 → va_S A s.heap H1 locs1 → W p l e R s m args below meth c H1 locs1 cells slots Q (F0 m (pc + 3) ls rest)) : W p l e R s m args below meth c H locs cells slots Q (F0 m pc ls st0) :=
  g_cV hexec hb hml hown hts hK hA hG hS hM cw hi hF hc hqC hst hn hsize hroom hdg hcl kk
theorem g_cSv {y : MethodName} {bytes : ByteArray} {maxL nL n index : Nat} {ret : Option FieldType} {ws : List Cond} {rm : Room} {Ts : List Cond} {own : String} {As st0 : List Value}  {F2 : Nat → va_E}
    (hexec : p.tables.exec = Jvm.exec) (hb : c.code = cc) (hml : c.maxLocals = nL) (hown : s.vm.findClass own = some m.cls) (hts : ∀ w ∈ Ts, w.before args s = true) (hK : gK D cy A s) (hA : ∀ q, s.heap.size ≤ q → A q) (hG : GW D N L A F H) (hS : va_S A s.heap H locs)
    (hM : GM l D cy N L y ws rm As F (none) F2) (cw : CallB R s args own index y bytes maxL ret ws rm 0 0 n ∧ (Cond.static y).before args s = true) (hst : st0 = As.reverse ++ rest) (hn : As.length = n) (hsize : ls.size = nL) (hroom : (rest.map fun v => v.category).sum ≤ 8) (hdg : decode cc pc = .ok (.invokestatic index, 3)) (hcl : cells ≤ R.cells ∧ slots ≤ R.slots)
    (kk : ∀ (H1 : Heap) (locs1 : List Loc), GW D N L A F2 H1 → va_S A s.heap H1 locs1 → W p l e R s m args below meth c H1 locs1 cells slots Q (F0 m (pc + 3) ls rest)) : W p l e R s m args below meth c H locs cells slots Q (F0 m pc ls st0) :=
  g_cS hexec hb hml hown hts hK hA hG hS hM cw hst hn hsize hroom hdg hcl kk
theorem g_get (hexec : p.tables.exec = Jvm.exec) (hb : c.code = cc) {own ref C : String} {T : u_T} {M ci index i : Nat} {Ts : List Cond} (hts : ∀ w ∈ Ts, w.before args s = true) (hin : ∀ w ∈ u_ws C T M, w ∈ Ts) (hown : s.vm.findClass own = some m.cls) {B9 : Nat → Prop} (hK : gK D cy B9 s) (hG : GW D N L A F H) (hi : i < N) {fs : List Value} (hF : F i = .inr (ci, fs)) (hc : vwCl[ci]? = some (C, T, M)) (k : Nat) (hk : k < M) (hlink : (Cond.fieldLink own index ref (T k).2.1 (T k).2.2.1).before args s = true) (href : (T k).1 = ref) {v : Value} (hv : fs[k]? = some v) (hdg : decode cc pc = .ok (.getfield index, 3))
    (kk : W p l e R s m args below meth c H locs cells slots Q (F0 m (pc + 3) ls (v :: rest))) : W p l e R s m args below meth c H locs cells slots Q (F0 m pc ls (.ref (L i) :: rest)) :=
  va_get hexec hb hts hin hown hK.1 hG.1 i (by rw [gw_at hi, hF]) hc k hk hlink (fun x h => by rw [← href]; exact h) hv hdg kk
theorem g_put (hexec : p.tables.exec = Jvm.exec) (hb : c.code = cc) {own ref C : String} {T : u_T} {M ci index i : Nat} {Ts : List Cond} (hts : ∀ w ∈ Ts, w.before args s = true) (hin : ∀ w ∈ u_ws C T M, w ∈ Ts) (ty0 : Nat → FieldType) (hty : ∀ k, k < M → parseFieldDescriptor (T k).2.2.1 = some (ty0 k)) (hnm : ∀ a, a < M → ∀ b, b < M → a ≠ b → (T a).2.1 ≠ (T b).2.1) (hown : s.vm.findClass own = some m.cls) {B9 : Nat → Prop} (hK : gK D cy B9 s) (hG : GW D N L A F H) (hS : va_S A H0 H locs) (hi : i < N) {fs : List Value} (hF : F i = .inr (ci, fs)) (hc : vwCl[ci]? = some (C, T, M)) (k : Nat) (hk : k < M) (hlink : (Cond.fieldLink own index ref (T k).2.1 (T k).2.2.1).before args s = true) (href : (T k).1 = ref) (hfin : (T k).2.2.2 = false) {ty : FieldType} {v : Value} (hd : parseFieldDescriptor (T k).2.2.1 = some ty) (hn : narrow ty v = v) (hfit : fits ty v = true) (hl : k < fs.length)
    (hdg : decode cc pc = .ok (.putfield index, 3)) {fs2 : List Value} (h2 : fs.set k v = fs2) (kk : ∀ (H1 : Heap) (locs1 : List Loc), GW D N L A (gup F i (.inr (ci, fs2))) H1 → va_S A H0 H1 locs1 → W p l e R s m args below meth c H1 locs1 cells slots Q (F0 m (pc + 3) ls rest)) : W p l e R s m args below meth c H locs cells slots Q (F0 m pc ls (v :: .ref (L i) :: rest)) := by
  subst h2
  refine va_put hexec hb hts hin ty0 hty hnm hown hK.1 hG.1 hG.2 hS i (by rw [gw_at hi, hF]) hc k hk hlink (fun x h => by rw [← href]; exact h) hfin hd hn hfit hl hdg (fun H1 locs1 hP hD hS1 => ?_)
  rw [gw_set hi] at hP hD
  exact kk H1 locs1 ⟨hP, hD⟩ hS1
theorem g_iald (hexec : p.tables.exec = Jvm.exec) (hb : c.code = cc) {B9 : Nat → Prop} (hK : gK D cy B9 s) (hG : GW D N L A F H) {i n : Nat} {f : Nat → Int32} (hi : i < N) (hF : F i = .inl (cy 0, n, .inl f)) {x : Int32} {k : Nat} (hx : x = nI k) (hk : k < n) (hn : n < 2 ^ 31) (hdg : decode cc pc = .ok (.iaload, 1))
    (kk : W p l e R s m args below meth c H locs cells slots Q (F0 m (pc + 1) ls (.int (f k) :: rest))) : W p l e R s m args below meth c H locs cells slots Q (F0 m pc ls (.int x :: .ref (L i) :: rest)) := by
  subst hx
  refine va_iald hexec hb hK.1 hG.1 i 0 (by rw [gw_at hi, hF]) rfl (vp_in_nI hk hn) hdg ?_
  rw [nI_clamp (Nat.lt_trans hk hn)]
  exact kk
theorem g_iast (hexec : p.tables.exec = Jvm.exec) (hb : c.code = cc) {B9 : Nat → Prop} (hK : gK D cy B9 s) (hG : GW D N L A F H) (hS : va_S A H0 H locs) {i n : Nat} {f : Nat → Int32} (hi : i < N) (hF : F i = .inl (cy 0, n, .inl f)) {x v : Int32} {k : Nat} (hx : x = nI k) (hk : k < n) (hn : n < 2 ^ 31) (hdg : decode cc pc = .ok (.iastore, 1))
    (kk : ∀ (H1 : Heap) (locs1 : List Loc), GW D N L A (gup F i (.inl (cy 0, n, .inl (upd f k v)))) H1 → va_S A H0 H1 locs1 → W p l e R s m args below meth c H1 locs1 cells slots Q (F0 m (pc + 1) ls rest)) : W p l e R s m args below meth c H locs cells slots Q (F0 m pc ls (.int v :: .int x :: .ref (L i) :: rest)) := by
  subst hx
  refine va_iast hexec hb hK.1 hG.1 hG.2 hS i 0 (by rw [gw_at hi, hF]) rfl (vp_in_nI hk hn) hdg (fun H1 locs1 hP hD hS1 => ?_)
  rw [gw_set hi, nI_clamp (Nat.lt_trans hk hn)] at hP hD
  exact kk H1 locs1 ⟨hP, hD⟩ hS1
theorem g_alen (hexec : p.tables.exec = Jvm.exec) (hb : c.code = cc) {B9 : Nat → Prop} (hK : gK D cy B9 s) (hG : GW D N L A F H) {i t0 : Nat} {cA : ClassId} {ty : FieldType} {x : vp_A} (hi : i < N) (hF : F i = .inl (cA, x)) (ht : (gty cy)[t0]? = some (cA, ty)) {v : Int32} (hv : Int32.ofNat x.1 = v) (hdg : decode cc pc = .ok (.arraylength, 1))
    (kk : W p l e R s m args below meth c H locs cells slots Q (F0 m (pc + 1) ls (.int v :: rest))) : W p l e R s m args below meth c H locs cells slots Q (F0 m pc ls (.ref (L i) :: rest)) :=
  va_alen hexec hb hK.1 hG.1 i t0 (by rw [gw_at hi, hF]) ht hv hdg kk
/-- an array of references: the cell at its row k is the one at the place j -/
theorem g_aald (hexec : p.tables.exec = Jvm.exec) (hb : c.code = cc) {B9 : Nat → Prop} (hK : gK D cy B9 s) (hG : GW D N L A F H) {i n t0 : Nat} {cA : ClassId} {C : String} {f : Nat → Option Nat} (hi : i < N) (hF : F i = .inl (cA, n, .inr (.inr (.inr (.inr f))))) (ht : (gty cy)[t0]? = some (cA, .object C)) {x : Int32} {k j : Nat} (hx : x = nI k) (hk : k < n) (hn : n < 2 ^ 31) (hj : f k = some (L j)) (hdg : decode cc pc = .ok (.aaload, 1))
    (kk : W p l e R s m args below meth c H locs cells slots Q (F0 m (pc + 1) ls (.ref (L j) :: rest))) : W p l e R s m args below meth c H locs cells slots Q (F0 m pc ls (.int x :: .ref (L i) :: rest)) := by
  subst hx
  refine va_aldq hexec hb hK.1 hG.1 i t0 (by rw [gw_at hi, hF]) ht (vp_in_nI hk hn) hdg ?_
  rw [nI_clamp (Nat.lt_trans hk hn), hj]
  exact kk
theorem g_aast (hexec : p.tables.exec = Jvm.exec) (hb : c.code = cc) {B9 : Nat → Prop} (hK : gK D cy B9 s) (hG : GW D N L A F H) (hS : va_S A H0 H locs) {i n t0 j ci : Nat} {cA : ClassId} {r : vw_C} {vs : List Value} {f : Nat → Option Nat} (hi : i < N) (hF : F i = .inl (cA, n, .inr (.inr (.inr (.inr f))))) (ht : (gty cy)[t0]? = some (cA, .object r.1)) (hj : j < N) (hFj : F j = .inr (ci, vs)) (hc : vwCl[ci]? = some r) {x : Int32} {k : Nat} (hx : x = nI k) (hk : k < n) (hn : n < 2 ^ 31) (hdg : decode cc pc = .ok (.aastore, 1))
    (kk : ∀ (H1 : Heap) (locs1 : List Loc), GW D N L A (gup F i (.inl (cA, n, .inr (.inr (.inr (.inr (va_up f k (some (L j)))))))))  H1 → va_S A H0 H1 locs1 → W p l e R s m args below meth c H1 locs1 cells slots Q (F0 m (pc + 1) ls rest)) : W p l e R s m args below meth c H locs cells slots Q (F0 m pc ls (.ref (L j) :: .int x :: .ref (L i) :: rest)) := by
  subst hx
  refine va_astq hexec hb hK.1 hG.1 hG.2 hS i t0 j ci (by rw [gw_at hi, hF]) ht (by rw [gw_at hj, hFj]) hc (vp_in_nI hk hn) hdg (fun H1 locs1 hP hD hS1 => ?_)
  rw [gw_set hi, nI_clamp (Nat.lt_trans hk hn)] at hP hD
  exact kk H1 locs1 ⟨hP, hD⟩ hS1
theorem g_cSN {y : MethodName} {bytes : ByteArray} {maxL nL n index : Nat} {ret : Option FieldType} {ws : List Cond} {rm : Room} {Ts : List Cond} {own host : String} {As st0 : List Value} {r : Int32} {F2 : Nat → va_E}
    (hexec : p.tables.exec = Jvm.exec) (hb : c.code = cc) (hml : c.maxLocals = nL) (hown : s.vm.findClass own = some m.cls) (hts : ∀ w ∈ Ts, w.before args s = true) (hK : gK D cy A s) (hA : ∀ q, s.heap.size ≤ q → A q) (hG : GW D N L A F H) (hS : va_S A s.heap H locs)
    (hM : GM l D cy N L y ws rm As F (some (.int r)) F2) (cw : va_CN R s args own index y host bytes maxL ret ws rm 0 0 n ∧ (Cond.static y).before args s = true) (hst : st0 = As.reverse ++ rest) (hn : As.length = n) (hsize : ls.size = nL) (hroom : (rest.map fun v => v.category).sum ≤ 8) (hdg : decode cc pc = .ok (.invokestatic index, 3)) (hcl : cells ≤ R.cells ∧ slots ≤ R.slots)
    (kk : ∀ (H1 : Heap) (locs1 : List Loc), GW D N L A F2 H1 → va_S A s.heap H1 locs1 → W p l e R s m args below meth c H1 locs1 cells slots Q (F0 m (pc + 3) ls (.int r :: rest))) : W p l e R s m args below meth c H locs cells slots Q (F0 m pc ls st0) := by
  have hDt : va_D (fun _ => True) (gw N L F) := gw_D hG.2 (fun _ _ => trivial)
  have hst9 : gst (gA N L H.size) s H := (hK.2.2.kept hS.2.1).narrow (g_AA hG hS hA)
  refine g_back (va_runSN (As := As) (rest := rest) ⟨hexec, hb, hml, hown, hts⟩ (hM H.size) ⟨cw.1, cw.2, trivial⟩ ⟨gPc_blind, fun U hU hW => ⟨rfl, by rw [hU], by rw [hU]; exact hG.1, va_K.moved hW.alike hK.1, hDt, hK.2.1.warm hW, by rw [hU]; exact hst9.moved hW.alike⟩⟩ rfl hn hsize hst (lv_room hroom) hdg hcl) hG hS hA (fun q h => h) (fun v F3 H1 locs1 hq hG1 hS1 => by obtain ⟨rfl, rfl⟩ := hq; exact kk H1 locs1 hG1 hS1)
theorem lv_toN {x : Int32} {k : Nat} (h : x = nI k) (kk : W p l e R s m args below meth c H locs cells slots Q (F0 m pc ls (.int (nI k) :: rest))) : W p l e R s m args below meth c H locs cells slots Q (F0 m pc ls (.int x :: rest)) := by
  subst h
  exact kk
theorem lv_toI {x y : Int32} (h : x = y) (kk : W p l e R s m args below meth c H locs cells slots Q (F0 m pc ls (.int y :: rest))) : W p l e R s m args below meth c H locs cells slots Q (F0 m pc ls (.int x :: rest)) := by
  subst h
  exact kk
theorem g_gets {own ref : String} {n : String} {f : Nat → Int32} {index t : Nat} (hexec : p.tables.exec = Jvm.exec) (hb : c.code = cc) (hS : va_S A s.heap H locs) (hZ : va_Z "SiloPads" n "[I" (.ref t) A s s.heap) (hown : s.vm.findClass own = some m.cls) (hlink : (Cond.fieldLink own index "SiloPads" n "[I").before args s = true) (hdg : decode cc pc = .ok (.getstatic index, 3))
    (kk : W p l e R s m args below meth c H locs cells slots Q (F0 m (pc + 3) ls (.ref t :: rest))) : W p l e R s m args below meth c H locs cells slots Q (F0 m pc ls rest) :=
  va_gets hexec hb hZ hS hown hlink (fun x h => h) hdg kk
theorem g_sald {f : Nat → Int32} {t k : Nat} (hexec : p.tables.exec = Jvm.exec) (hb : c.code = cc) (hS : va_S A s.heap H locs) (hT : va_T .int t 4 (fun j => .int (f j)) A s s.heap) {x : Int32} (hx : x = nI k) (hk : k < 4) (hdg : decode cc pc = .ok (.iaload, 1))
    (kk : W p l e R s m args below meth c H locs cells slots Q (F0 m (pc + 1) ls (.int (f k) :: rest))) : W p l e R s m args below meth c H locs cells slots Q (F0 m pc ls (.int x :: .ref t :: rest)) := by
  subst hx
  obtain ⟨cell, h1, h2, h3, h4, -, h5, h6⟩ := hT
  refine W.iald (v := .int (f k)) hexec hb (by rw [hS.2.1 t (Array.getElem?_eq_some_iff.mp h1).1 h6]; exact h1) h2 h3 ?_ ?_ rfl rfl hdg kk
  · rw [nI_clamp (by omega)]
    intro q
    rcases q with q | q
    · exact nI_pos (by omega) q
    · omega
  · rw [nI_clamp (by omega)]
    exact h5 k hk
/-- a loop: a place of the code, what holds there of the loop's numbers x, and a measure that falls -/
theorem W.loop {σ : Type} {st : List Value} (P : σ → Heap → List Loc → Array Slot → Prop) (μ : σ → Nat) (x0 : σ) (h0 : P x0 H locs ls)
    (step : ∀ (x : σ) (H : Heap) (locs : List Loc) (ls : Array Slot), P x H locs ls → (∀ (y : σ) (H2 : Heap) (locs2 : List Loc) (ls2 : Array Slot), μ y < μ x → P y H2 locs2 ls2 → W p l e R s m args below meth c H2 locs2 cells slots Q (F0 m pc ls2 st)) → W p l e R s m args below meth c H locs cells slots Q (F0 m pc ls st)) : W p l e R s m args below meth c H locs cells slots Q (F0 m pc ls st) := by
  have h : ∀ (n : Nat) (x : σ) (H : Heap) (locs : List Loc) (ls : Array Slot), μ x < n → P x H locs ls → W p l e R s m args below meth c H locs cells slots Q (F0 m pc ls st) := by
    intro n
    induction n with
    | zero => intro x H locs ls h; exact absurd h (Nat.not_lt_zero _)
    | succ n ih => intro x H locs ls hx hP; exact step x H locs ls hP (fun y H2 locs2 ls2 hy hP2 => ih y H2 locs2 ls2 (by omega) hP2)
  exact h (μ x0 + 1) x0 H locs ls (Nat.lt_succ_self _) h0
/-- a place of the code where several ways meet -/
theorem W.cut {st st2 : List Value} {pc2 : Nat} {H : Heap} {locs : List Loc} (P : Heap → List Loc → Array Slot → Prop) (h : (∀ (H2 : Heap) (locs2 : List Loc) (ls2 : Array Slot), P H2 locs2 ls2 → W p l e R s m args below meth c H2 locs2 cells slots Q (F0 m pc2 ls2 st2)) → W p l e R s m args below meth c H locs cells slots Q (F0 m pc ls st))
    (h2 : ∀ (H2 : Heap) (locs2 : List Loc) (ls2 : Array Slot), P H2 locs2 ls2 → W p l e R s m args below meth c H2 locs2 cells slots Q (F0 m pc2 ls2 st2)) : W p l e R s m args below meth c H locs cells slots Q (F0 m pc ls st) := h h2
end GR
theorem lv_to {ls : Array Slot} {n : Nat} {a b : List (Nat × Value)} (h : lv_has ls n a) (e : a = b) : lv_has ls n b := e ▸ h
theorem g_cwS {R : Room} {s : State} {args : Array Value} {own : String} {index maxL : Nat} {y : MethodName} {bytes : ByteArray} {ret : Option FieldType} {Ts ws ws' : List Cond} {rm : Room} (n : Nat) (ht : ∀ w ∈ Ts, w.before args s = true) (hT : GoodIn Ts (va_wsS own index y ws)) (hw : ws = Cond.code y bytes maxL ret :: ws') (hrc : rm.cells = 0) (hrs : rm.slots = 0)
    (hd : y.cls ≠ "java/lang/invoke/MethodHandle" ∧ y.cls ≠ "java/lang/invoke/VarHandle" ∧ (parseMethodDescriptor y.desc).map (fun d => d.parameters.length) = some n) (hR : rm.frames + 1 ≤ R.frames ∧ 8 + (maxL + 11) + rm.locals ≤ R.locals) :
    CallB R s args own index y bytes maxL ret ws rm 0 0 n ∧ (Cond.static y).before args s = true := by
  have ok : ∀ w ∈ va_wsS own index y ws, w.before args s = true := fun w h => ht w (hT w h).1
  exact ⟨callB_of n ht (fun w h => hT w (by unfold va_wsS; exact List.mem_append_right _ h)) hw hrc hrs (ok _ (by simp [va_wsS])) (ok _ (by simp [va_wsS])) hd hR, ok _ (by simp [va_wsS])⟩
theorem lk_out2 {x : Int32} {k0 k1 : Int} {o0 o1 df : Int} (h0 : ¬ x = Int32.ofInt k0) (h1 : ¬ x = Int32.ofInt k1) : Op.lookupswitch.offset [(k0, o0), (k1, o1)] df x.toInt = df := by
  have e0 : ¬ x.toInt = k0 := fun h => h0 (by rw [← h, Int32.ofInt_toInt])
  have e1 : ¬ x.toInt = k1 := fun h => h1 (by rw [← h, Int32.ofInt_toInt])
  simp [Op.lookupswitch.offset, List.find?, e0, e1, Ne.symm]
