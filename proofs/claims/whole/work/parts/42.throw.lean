/-! METHODS THAT THROW: the contract (nothing changed, one cell of six fields made), its start, the row of a throw -/
def gXC (D : va_G) (N : Nat) (L : Nat → Nat) (F : Nat → va_E) (sz : Nat) (E : String) : String → State → State → Prop := fun E' st t => E' = E ∧ va_P D vwCl (gw N L F) t.heap ∧ va_F (gA N L sz) st t
def GX (l : Launch) (D : va_G) (cy : Nat → ClassId) (N : Nat) (L : Nat → Nat) (y : MethodName) (ws : List Cond) (rm : Room) (av : List Value) (F : Nat → va_E) (E : String) : Prop :=
  ∀ sz : Nat, vx_Met l y ws rm (va_Pc av (gPc D cy N L F sz)) (fun _ _ _ _ => False) (gXC D N L F sz E) 1 6 (gA N L sz)
theorem GX.ofW {l : Launch} {D : va_G} {cy : Nat → ClassId} {N : Nat} {L : Nat → Nat} {y : MethodName} {ws ws' : List Cond} {rm : Room} {av : List Value} {F : Nat → va_E} {E : String} {cc : ByteArray} {maxL : Nat} {ret : Option FieldType}
    (hy : plainName y.cls = true) (hw : ws = Cond.code y cc maxL ret :: ws') (hlen : (lg_sl av).length ≤ maxL)
    (body : ∀ (p : Program) (e : Env) (s : State) (m : MethodId) (below : List Frame) (meth : Method) (c : Code) (ls : Array Slot), p.tables.exec = Jvm.exec → c.code = cc → meth.sig.returnType = ret → (∀ w ∈ ws, w.before av.toArray s = true) → s.vm.findClass y.cls = some m.cls → meth.locks = false → c.maxLocals = maxL → gK D cy (gA N L s.heap.size) s → (∀ q, s.heap.size ≤ q → gA N L s.heap.size q) → GW D N L (gA N L s.heap.size) F s.heap → va_S (gA N L s.heap.size) s.heap s.heap [] → lv_has ls maxL (lv_args 0 av) → (∀ x ∈ c.exceptionTable.toList, False) →
      W p l e (headSpec ws rm).room s m av.toArray below meth c s.heap [] 0 0 (vx_MQ below (fun _ _ _ _ => False) (gXC D N L F s.heap.size E) av.toArray s 1 6 (gA N L s.heap.size)) (F0 m 0 ls [])) : GX l D cy N L y ws rm av F E := by
  intro sz
  refine vx_ofW (cc := cc) (maxL := maxL) (ret := ret) hy hw ?_
  intro p e s m args below meth c s₁ B hml hno hv
  obtain ⟨rfl, hsz, hP, hK, hD0, hXX, hST⟩ := hv
  subst hsz
  have hts := atoms_spec (ws := ws) B.pre
  have hown : s.vm.findClass y.cls = some m.cls := findClass_of_methodNamed B.named
  have hl := lv_entry av (n := maxL) hlen
  rw [lg_entry_eq]
  exact body p e s m below meth c _ B.exec B.bytes B.returns hts hown B.notSynchronized hml ⟨hK, hXX, hST⟩ (fun q h => Or.inr h) ⟨hP, gw_D hD0 (fun i hi => Or.inl ⟨i, hi, rfl⟩)⟩ va_S.rf hl hno
theorem g_thr {p : Program} {l : Launch} {e : Env} {R : Room} {s : State} {m : MethodId} {args : Array Value} {below : List Frame} {meth : Method} {c : Code} {H : Heap} {locs : List Loc} {cc : ByteArray} {pc nL : Nat} {ls : Array Slot} {D : va_G} {cy : Nat → ClassId} {N : Nat} {L : Nat → Nat} {F : Nat → va_E}
    {ik is ic : Nat} {cls text : String} {Ts : List Cond}
    (hexec : p.tables.exec = Jvm.exec) (hb : c.code = cc) (hst : l.stackTraces = false) (hown : s.vm.findClass RX4 = some m.cls) (hts : ∀ w ∈ Ts, w.before args s = true) (hlocks : meth.locks = false) (hml : c.maxLocals = nL) (hK : gK D cy (gA N L s.heap.size) s) (hG : GW D N L (gA N L s.heap.size) F H) (hS : va_S (gA N L s.heap.size) s.heap H locs) (hno : ∀ x ∈ c.exceptionTable.toList, False) (hsize : ls.size = nL)
    (hx : cls ∈ [xI, xA, xS]) (hcls : Bundle.fit cls = true) (hk : Cond.classLink RX4 ik cls ∈ Ts) (hini : Cond.initialized cls ∈ Ts) (hstr : (is, text) ∈ gStr)
    (hatg : ∀ w ∈ (vx_atS RX4 ic cls ["java/lang/RuntimeException", "java/lang/Exception"]).filter goodWord, w ∈ Ts)
    (hatn : ∀ w ∈ (vx_atS RX4 ic cls ["java/lang/RuntimeException", "java/lang/Exception"]).filter (fun w => !goodWord w), w ∈ Cond.castable cls cls :: gDecl.map Cond.declares)
    (hgood : ∀ w ∈ Cond.classLink RX4 ik cls :: Cond.initialized cls :: vx_atS RX4 ic cls ["java/lang/RuntimeException", "java/lang/Exception"], vx_ot w = true)
    (d0 : decode cc pc = .ok (.new ik, 3)) (d3 : decode cc (pc + 3) = .ok (.dup, 1)) (d4 : decode cc (pc + 4) = .ok (.ldc is, 2)) (d6 : decode cc (pc + 6) = .ok (.invokespecial ic, 3)) (d9 : decode cc (pc + 9) = .ok (.athrow, 1))
    (hR : 6 ≤ R.frames ∧ 82 ≤ R.locals ∧ 1 ≤ R.cells ∧ 6 ≤ R.slots) :
    W p l e R s m args below meth c H locs 0 0 (vx_MQ below (fun _ _ _ _ => False) (gXC D N L F s.heap.size cls) args s 1 6 (gA N L s.heap.size)) (F0 m pc ls []) := by
  obtain ⟨sa, hsa⟩ := hK.2.1.2.1 _ hstr
  refine vx_throwS hexec hb hst hown hcls (by decide) (hts _ hk) (hts _ hini) hsa (vx_hat (fun w hw => hts w (hatg w hw)) hatn (vx_c (va_Nw.use rfl (hK.2.1.2.2.2.1 cls hx)) (fun w hw => ?_))) hgood hK.2.2.1 hK.2.2.2.1 hS (hsize.trans hml.symm) d0 d3 d4 d6 d9 (fun x hx => (hno x hx).elim) (Nat.lt_of_lt_of_le (by decide) hR.1) (by simpa using hR.2.1) hR.2.2.1 hR.2.2.2 hlocks (fun t hvm hz hk2 => ⟨rfl, fun k q hq => ?_, ?_⟩) hS.2.2 (Nat.le_refl _) (Nat.le_refl _)
  · obtain ⟨x, hx2, rfl⟩ := List.mem_map.mp hw
    exact va_Nw.use rfl (hK.2.1.2.2.1 x hx2)
  · have h1 := hG.1 k q hq
    exact h1.kept (hk2 q.1 h1.lt)
  · exact ⟨Nat.le_trans hS.1 hz, fun q h1 h2 => by rw [hk2 q (Nat.lt_of_lt_of_le h1 hS.1)]; exact hS.2.1 q h1 h2⟩
