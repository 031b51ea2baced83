section GX3
variable {p : Program} {l : Launch} {e : Env} {R : Room} {s : State} {m : MethodId} {args : Array Value} {below : List Frame} {meth : Method} {c : Code} {H : Heap} {locs : List Loc} {cells slots : Nat} {Q : State → Prop}
variable {cc : ByteArray} {pc : Nat} {ls : Array Slot} {rest : List Value} {D : va_G} {cy : Nat → ClassId} {N : Nat} {L : Nat → Nat} {A : Nat → Prop} {F : Nat → va_E}
theorem g_catchV2 {y : MethodName} {bytes : ByteArray} {maxL nL n index : Nat} {ret : Option FieldType} {ws : List Cond} {rm : Room} {Ts : List Cond} {own C E : String} {As st0 : List Value} {i ci : Nat} {fs : List Value} {q : vw_C} {hpc : Nat} {F2 : Nat → va_E}
    (hexec : p.tables.exec = Jvm.exec) (hb : c.code = cc) (hml : c.maxLocals = nL) (hown : s.vm.findClass own = some m.cls) (hts : ∀ w ∈ Ts, w.before args s = true) (hK : gK D cy A s) (hA : ∀ q, s.heap.size ≤ q → A q) (hG : GW D N L A F H) (hS : va_S A s.heap H locs)
    (hM : GX2 l D cy N L y ws rm (.ref (L i) :: As) F F2 E) (cw : CallW R s args own C index y bytes maxL ret ws rm 1 6 n) (hi : i < N) (hF : F i = .inr (ci, fs)) (hc : vwCl[ci]? = some q) (hqC : q.1 = C) (hst : st0 = As.reverse ++ .ref (L i) :: rest) (hn : As.length = n) (hsize : ls.size = nL) (hroom : (rest.map fun v => v.category).sum ≤ 8) (hdg : decode cc pc = .ok (.invokevirtual index, 3)) (hcl : cells + 1 ≤ R.cells ∧ slots + 6 ≤ R.slots)
    (pre : List ExceptionTableEntry) (x : ExceptionTableEntry) (suf : List ExceptionTableEntry) (hsplit : c.exceptionTable.toList = pre ++ x :: suf)
    (hpass : ∀ z ∈ pre, z.catchType ≠ 0 ∧ ∃ nm : String, Cond.classLink own z.catchType nm ∈ Ts ∧ (E, nm) ∈ gNc) (hx : covers x pc = true) (h0 : x.catchType ≠ 0) (hlink : Cond.classLink own x.catchType E ∈ Ts) (hE : E ∈ [xI, xA, xS]) (hh : x.handlerPc = hpc)
    (kk : ∀ (H1 : Heap) (locs1 : List Loc) (q9 : Nat), GW D N L A F2 H1 → va_S A s.heap H1 locs1 → W p l e R s m args below meth c H1 locs1 (cells + 1) (slots + 6) Q (F0 m hpc ls [.ref q9])) : W p l e R s m args below meth c H locs cells slots Q (F0 m pc ls st0) := by
  subst hh
  have hDt : va_D (fun _ => True) (gw N L F) := gw_D hG.2 (fun _ _ => trivial)
  have hst9 : gst (gA N L H.size) s H := (hK.2.2.kept hS.2.1).narrow (g_AA hG hS hA)
  intro T hT X
  rcases vx_runV (As := As) (rest := rest) ⟨hexec, hb, hml, hown, hts⟩ (hM H.size) cw ⟨gPc_blind, hqC ▸ va_recv hK.1 hG.1 hc (by rw [gw_at hi, hF]), fun U hU hW => ⟨rfl, by rw [hU], by rw [hU]; exact hG.1, va_K.moved hW.alike hK.1, hDt, hK.2.1.warm hW, by rw [hU]; exact hst9.moved hW.alike⟩⟩ rfl hn hsize hst (lv_room hroom) hdg hcl T hT X with ⟨v, st₀, t, T', L', h0', X', hL, e1, e2, hF9, st⟩ | ⟨q9, st₀, t, T', L', E', ce, h0', X', hL, e1, e2, ⟨hEE, hP, hFr⟩, hce, hcv, hcl2, st⟩
  · exact hF9.elim
  · subst hEE
    obtain ⟨k1, k2, k3⟩ := vx_keep h0' e1 hS (fun q _ h => g_AA hG hS hA q h) (fun q h => g_AA hG hS hA q h) hL hFr
    have hG1 : GW D N L A F2 T'.heap := ⟨by rw [e1]; exact hP, gw_D hG.2 (fun i hi => hG.2.2 i _ (gw_at hi))⟩
    have hk := vx_catch (rest := rest) (p := p) (l := l) (e := e) (R := R) (args := args) (below := below) (meth := meth) (H := T'.heap) (locs := locs ++ L') (cells := cells + 1) (slots := slots + 6) (Q := Q) (pc := pc) (ls := ls) hown pre x suf hsplit (fun z hz => Or.inr ⟨(hpass z hz).1, by
      obtain ⟨nm, h1, h2⟩ := (hpass z hz).2
      exact ⟨nm, hts _ h1, hK.2.1.2.2.2.2 _ h2⟩⟩) hx h0 (hts _ hlink) (va_Nw.use rfl (hK.2.1.2.2.2.1 _ hE)) (by rw [e1]; exact hce) hcv hcl2 (kk T'.heap (locs ++ L') q9 hG1 k3)
    obtain ⟨t2, a1, b1⟩ := hk T' rfl X'
    exact ⟨t2, st.trans a1, b1⟩
end GX3
