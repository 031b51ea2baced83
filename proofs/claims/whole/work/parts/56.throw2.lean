/-! METHODS THAT THROW, having changed cells -/
def GX2 (l : Launch) (D : va_G) (cy : Nat → ClassId) (N : Nat) (L : Nat → Nat) (y : MethodName) (ws : List Cond) (rm : Room) (av : List Value) (F F2 : Nat → va_E) (E : String) : Prop :=
  ∀ sz : Nat, vx_Met l y ws rm (va_Pc av (gPc D cy N L F sz)) (fun _ _ _ _ => False) (gXC D N L F2 sz E) 1 6 (gA N L sz)
theorem GX2.ofW {l : Launch} {D : va_G} {cy : Nat → ClassId} {N : Nat} {L : Nat → Nat} {y : MethodName} {ws ws' : List Cond} {rm : Room} {av : List Value} {F F2 : Nat → va_E} {E : String} {cc : ByteArray} {maxL : Nat} {ret : Option FieldType}
    (hy : plainName y.cls = true) (hw : ws = Cond.code y cc maxL ret :: ws') (hlen : (lg_sl av).length ≤ maxL)
    (body : ∀ (p : Program) (e : Env) (s : State) (m : MethodId) (below : List Frame) (meth : Method) (c : Code) (ls : Array Slot), p.tables.exec = Jvm.exec → c.code = cc → meth.sig.returnType = ret → (∀ w ∈ ws, w.before av.toArray s = true) → s.vm.findClass y.cls = some m.cls → meth.locks = false → c.maxLocals = maxL → gK D cy (gA N L s.heap.size) s → (∀ q, s.heap.size ≤ q → gA N L s.heap.size q) → GW D N L (gA N L s.heap.size) F s.heap → va_S (gA N L s.heap.size) s.heap s.heap [] → lv_has ls maxL (lv_args 0 av) → (∀ x ∈ c.exceptionTable.toList, False) →
      W p l e (headSpec ws rm).room s m av.toArray below meth c s.heap [] 0 0 (vx_MQ below (fun _ _ _ _ => False) (gXC D N L F2 s.heap.size E) av.toArray s 1 6 (gA N L s.heap.size)) (F0 m 0 ls [])) : GX2 l D cy N L y ws rm av F F2 E := by
  intro sz
  refine vx_ofW (cc := cc) (maxL := maxL) (ret := ret) hy hw ?_
  intro p e s m args below meth c s₁ B hml hno hv
  obtain ⟨rfl, hsz, hP, hK, hD0, hXX, hST⟩ := hv
  subst hsz
  have hts := atoms_spec (ws := ws) B.pre
  have hown : s.vm.findClass y.cls = some m.cls := findClass_of_methodNamed B.named
  have hl := lv_entry av (n := maxL) hlen
  rw [lg_entry_eq]
  exact body p e s m below meth c _ B.exec B.bytes B.returns hts hown B.notSynchronized hml ⟨hK, hXX, hST⟩ (fun q h => Or.inr h) ⟨hP, gw_D hD0 (fun i hi => Or.inl ⟨i, hi, rfl⟩)⟩ va_S.rf hl hno
