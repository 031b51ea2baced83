/-! METHODS WITH A TABLE: a wrapper that catches; its contract (mc cells of ms fields made), its start, a call that throws into its table, a call of it -/
def GMw (l : Launch) (D : va_G) (cy : Nat → ClassId) (N : Nat) (L : Nat → Nat) (y : MethodName) (ws : List Cond) (rm : Room) (mc ms : Nat) (av : List Value) (F : Nat → va_E) (rv : Option Value) (F2 : Nat → va_E) : Prop :=
  ∀ sz : Nat, Met l y ws rm (va_Pc av (gPc D cy N L F sz)) (gQ D cy N L sz (fun v F' => v = rv ∧ F' = F2)) mc ms (gA N L sz)
theorem GMw.ofW {l : Launch} {D : va_G} {cy : Nat → ClassId} {N : Nat} {L : Nat → Nat} {y : MethodName} {ws ws' : List Cond} {rm : Room} {mc ms : Nat} {av : List Value} {F F2 : Nat → va_E} {rv : Option Value} {cc : ByteArray} {maxL : Nat} {ret : Option FieldType} {hh : List (Nat × Nat × Nat × Nat)}
    (hy : plainName y.cls = true) (hw : ws = Cond.codeWith y cc maxL ret hh :: ws') (hlen : (lg_sl av).length ≤ maxL)
    (body : ∀ (p : Program) (e : Env) (s : State) (m : MethodId) (below : List Frame) (meth : Method) (c : Code) (ls : Array Slot), p.tables.exec = Jvm.exec → c.code = cc → meth.sig.returnType = ret → (∀ w ∈ ws, w.before av.toArray s = true) → s.vm.findClass y.cls = some m.cls → meth.locks = false → c.maxLocals = maxL → gK D cy (gA N L s.heap.size) s → (∀ q, s.heap.size ≤ q → gA N L s.heap.size q) → GW D N L (gA N L s.heap.size) F s.heap → va_S (gA N L s.heap.size) s.heap s.heap [] → lv_has ls maxL (lv_args 0 av) → c.exceptionTable.toList = tableOf hh →
      W p l e (headSpec ws rm).room s m av.toArray below meth c s.heap [] 0 0 (MQ below (gQ D cy N L s.heap.size (fun v F' => v = rv ∧ F' = F2)) av.toArray s mc ms (gA N L s.heap.size)) (F0 m 0 ls [])) : GMw l D cy N L y ws rm mc ms av F rv F2 := by
  intro sz
  refine va_MetW (cc := cc) (maxL := maxL) (ret := ret) hy hw ?_
  intro p e s m args below meth c s₁ B hml hv
  obtain ⟨rfl, hsz, hP, hK, hD0, hXX, hST⟩ := hv
  subst hsz
  have hts := atoms_spec (ws := ws) B.pre
  have hown : s.vm.findClass y.cls = some m.cls := findClass_of_methodNamed B.named
  have hl := lv_entry av (n := maxL) hlen
  have htb : c.exceptionTable.toList = tableOf hh := vx_table (x := y) B (hts _ (by rw [hw]; exact List.mem_cons_self))
  rw [lg_entry_eq]
  exact body p e s m below meth c _ B.exec B.bytes B.returns hts hown B.notSynchronized hml ⟨hK, hXX, hST⟩ (fun q h => Or.inr h) ⟨hP, gw_D hD0 (fun i hi => Or.inl ⟨i, hi, rfl⟩)⟩ va_S.rf hl htb
section GX2
variable {p : Program} {l : Launch} {e : Env} {R : Room} {s : State} {m : MethodId} {args : Array Value} {below : List Frame} {meth : Method} {c : Code} {H : Heap} {locs : List Loc} {cells slots : Nat} {Q : State → Prop}
variable {cc : ByteArray} {pc : Nat} {ls : Array Slot} {rest : List Value} {D : va_G} {cy : Nat → ClassId} {N : Nat} {L : Nat → Nat} {A : Nat → Prop} {F : Nat → va_E}
theorem g_catchV {y : MethodName} {bytes : ByteArray} {maxL nL n index : Nat} {ret : Option FieldType} {ws : List Cond} {rm : Room} {Ts : List Cond} {own C E : String} {As st0 : List Value} {i ci : Nat} {fs : List Value} {q : vw_C} {hpc : Nat}
    (hexec : p.tables.exec = Jvm.exec) (hb : c.code = cc) (hml : c.maxLocals = nL) (hown : s.vm.findClass own = some m.cls) (hts : ∀ w ∈ Ts, w.before args s = true) (hK : gK D cy A s) (hA : ∀ q, s.heap.size ≤ q → A q) (hG : GW D N L A F H) (hS : va_S A s.heap H locs)
    (hM : GX l D cy N L y ws rm (.ref (L i) :: As) F E) (cw : CallW R s args own C index y bytes maxL ret ws rm 1 6 n) (hi : i < N) (hF : F i = .inr (ci, fs)) (hc : vwCl[ci]? = some q) (hqC : q.1 = C) (hst : st0 = As.reverse ++ .ref (L i) :: rest) (hn : As.length = n) (hsize : ls.size = nL) (hroom : (rest.map fun v => v.category).sum ≤ 8) (hdg : decode cc pc = .ok (.invokevirtual index, 3)) (hcl : cells + 1 ≤ R.cells ∧ slots + 6 ≤ R.slots)
    (pre : List ExceptionTableEntry) (x : ExceptionTableEntry) (suf : List ExceptionTableEntry) (hsplit : c.exceptionTable.toList = pre ++ x :: suf)
    (hpass : ∀ z ∈ pre, z.catchType ≠ 0 ∧ ∃ nm : String, Cond.classLink own z.catchType nm ∈ Ts ∧ (E, nm) ∈ gNc) (hx : covers x pc = true) (h0 : x.catchType ≠ 0) (hlink : Cond.classLink own x.catchType E ∈ Ts) (hE : E ∈ [xI, xA, xS]) (hh : x.handlerPc = hpc)
    (kk : ∀ (H1 : Heap) (locs1 : List Loc) (q9 : Nat), GW D N L A F H1 → va_S A s.heap H1 locs1 → W p l e R s m args below meth c H1 locs1 (cells + 1) (slots + 6) Q (F0 m hpc ls [.ref q9])) : W p l e R s m args below meth c H locs cells slots Q (F0 m pc ls st0) := by
  subst hh
  have hDt : va_D (fun _ => True) (gw N L F) := gw_D hG.2 (fun _ _ => trivial)
  have hst9 : gst (gA N L H.size) s H := (hK.2.2.kept hS.2.1).narrow (g_AA hG hS hA)
  intro T hT X
  rcases vx_runV (As := As) (rest := rest) ⟨hexec, hb, hml, hown, hts⟩ (hM H.size) cw ⟨gPc_blind, hqC ▸ va_recv hK.1 hG.1 hc (by rw [gw_at hi, hF]), fun U hU hW => ⟨rfl, by rw [hU], by rw [hU]; exact hG.1, va_K.moved hW.alike hK.1, hDt, hK.2.1.warm hW, by rw [hU]; exact hst9.moved hW.alike⟩⟩ rfl hn hsize hst (lv_room hroom) hdg hcl T hT X with ⟨v, st₀, t, T', L', h0', X', hL, e1, e2, hF9, st⟩ | ⟨q9, st₀, t, T', L', E', ce, h0', X', hL, e1, e2, ⟨hEE, hP, hFr⟩, hce, hcv, hcl2, st⟩
  · exact hF9.elim
  · subst hEE
    obtain ⟨k1, k2, k3⟩ := vx_keep h0' e1 hS (fun q _ h => g_AA hG hS hA q h) (fun q h => g_AA hG hS hA q h) hL hFr
    have hG1 : GW D N L A F T'.heap := ⟨by rw [e1]; exact hP, hG.2⟩
    have hk := vx_catch (rest := rest) (p := p) (l := l) (e := e) (R := R) (args := args) (below := below) (meth := meth) (H := T'.heap) (locs := locs ++ L') (cells := cells + 1) (slots := slots + 6) (Q := Q) (pc := pc) (ls := ls) hown pre x suf hsplit (fun z hz => Or.inr ⟨(hpass z hz).1, by
      obtain ⟨nm, h1, h2⟩ := (hpass z hz).2
      exact ⟨nm, hts _ h1, hK.2.1.2.2.2.2 _ h2⟩⟩) hx h0 (hts _ hlink) (va_Nw.use rfl (hK.2.1.2.2.2.1 _ hE)) (by rw [e1]; exact hce) hcv hcl2 (kk T'.heap (locs ++ L') q9 hG1 k3)
    obtain ⟨t2, a1, b1⟩ := hk T' rfl X'
    exact ⟨t2, st.trans a1, b1⟩
/-- a call of a wrapper -/
theorem g_cSW {y : MethodName} {bytes : ByteArray} {maxL nL n index mc ms : Nat} {ret : Option FieldType} {hh : List (Nat × Nat × Nat × Nat)} {ws : List Cond} {rm : Room} {Ts : List Cond} {own : String} {As st0 : List Value} {r : Int32} {F2 : Nat → va_E}
    (hexec : p.tables.exec = Jvm.exec) (hb : c.code = cc) (hml : c.maxLocals = nL) (hown : s.vm.findClass own = some m.cls) (hts : ∀ w ∈ Ts, w.before args s = true) (hK : gK D cy A s) (hA : ∀ q, s.heap.size ≤ q → A q) (hG : GW D N L A F H) (hS : va_S A s.heap H locs)
    (hM : GMw l D cy N L y ws rm mc ms As F (some (.int r)) F2) (cw : vx_CSW R s args own index y bytes maxL ret hh ws rm mc ms n) (hst : st0 = As.reverse ++ rest) (hn : As.length = n) (hsize : ls.size = nL) (hroom : (rest.map fun v => v.category).sum ≤ 8) (hdg : decode cc pc = .ok (.invokestatic index, 3)) (hcl : cells + mc ≤ R.cells ∧ slots + ms ≤ R.slots)
    (kk : ∀ (H1 : Heap) (locs1 : List Loc), GW D N L A F2 H1 → va_S A s.heap H1 locs1 → W p l e R s m args below meth c H1 locs1 (cells + mc) (slots + ms) Q (F0 m (pc + 3) ls (.int r :: rest))) : W p l e R s m args below meth c H locs cells slots Q (F0 m pc ls st0) := by
  have hDt : va_D (fun _ => True) (gw N L F) := gw_D hG.2 (fun _ _ => trivial)
  have hst9 : gst (gA N L H.size) s H := (hK.2.2.kept hS.2.1).narrow (g_AA hG hS hA)
  intro T hT X
  obtain ⟨v, st₀, t, T', Lc, h0, X', hL, e1, e2, ⟨⟨v2, F3, hv, ⟨hq1, hq2⟩, hP, -, hD⟩, hz⟩, st⟩ := vx_runSW (As := As) (rest := rest) ⟨hexec, hb, hml, hown, hts⟩ (hM H.size) cw ⟨gPc_blind, fun U hU hW => ⟨rfl, by rw [hU], by rw [hU]; exact hG.1, va_K.moved hW.alike hK.1, hDt, hK.2.1.warm hW, by rw [hU]; exact hst9.moved hW.alike⟩⟩ rfl hn hsize hst (lv_room hroom) hdg hcl T hT X
  cases hv
  subst hq1
  subst hq2
  obtain ⟨k1, k2, k3⟩ := vx_keep h0 e1 hS (fun q _ h => g_AA hG hS hA q h) (fun q h => g_AA hG hS hA q h) hL hz
  obtain ⟨t2, a1, b1⟩ := kk T'.heap (locs ++ Lc) ⟨by rw [e1]; exact hP, gw_D hD (fun i hi => g_AA hG hS hA _ (Or.inl ⟨i, hi, rfl⟩))⟩ k3 T' rfl X'
  exact ⟨t2, st t2 a1, b1⟩
end GX2
