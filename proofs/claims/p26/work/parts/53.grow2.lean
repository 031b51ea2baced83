section GN2
variable {p : Program} {l : Launch} {e : Env} {R : Room} {s : State} {m : MethodId} {args : Array Value} {below : List Frame} {meth : Method} {c : Code} {H : Heap} {locs : List Loc} {cells slots : Nat} {Q : State → Prop}
variable {cc : ByteArray} {pc : Nat} {ls : Array Slot} {rest : List Value} {D : va_G} {cy : Nat → ClassId} {base N N0 : Nat} {F : Nat → va_E}
/-- the settings' row made out of the static one -/
theorem g_clone {own : String} {index t : Nat} (hexec : p.tables.exec = Jvm.exec) (hb : c.code = cc) (hml : c.maxLocals = ls.size) (hown : s.vm.findClass own = some m.cls)
    (hlink : (Cond.methodLink own index ⟨"[I", "clone", "()Ljava/lang/Object;"⟩).before args s = true) (hsame : (Cond.sameMethod "[I" "java/lang/Object" "clone" "()Ljava/lang/Object;").before args s = true)
    (hnat : (Cond.native ⟨"java/lang/Object", "clone", "()Ljava/lang/Object;"⟩).before args s = true) (hinst : (Cond.instanceMethod ⟨"java/lang/Object", "clone", "()Ljava/lang/Object;"⟩).before args s = true)
    (hsel : (Cond.selects "[I" ⟨"[I", "clone", "()Ljava/lang/Object;"⟩ ⟨"java/lang/Object", "clone", "()Ljava/lang/Object;"⟩).before args s = true) (hcl : va_Nw (.castable "[I" "java/lang/Cloneable") s)
    (hK : gK D cy (Ab base) s) (h0 : s.heap.size = base + N0) (hcN : cells + N0 = N) (hG : GW D N (Lb base) (Ab base) F H) (hS : va_S (Ab base) s.heap H locs)
    {cell : Cell} (ht : s.heap[t]? = some cell) (hc0 : cell.cls = cy 0) (hsl : cell.slots = (vp_cell (cy 0) (4, .inl z_first)).slots) (hv1 : ∀ k, cell.vm ≠ .statics k) (hv2 : cell.vm ≠ .unknown) (hta : ¬ Ab base t)
    (hframes : 1 ≤ R.frames) (hlocals : (rest.map fun v => v.category).sum + 14 ≤ R.locals) (hcells : cells + 1 ≤ R.cells) (hslots : slots + 4 ≤ R.slots) (hdg : decode cc pc = .ok (.invokevirtual index, 3))
    (kk : ∀ (H1 : Heap), GW D (N + 1) (Lb base) (Ab base) (gup F N (.inl (cy 0, 4, .inl z_first))) H1 → va_S (Ab base) s.heap H1 locs →
      W p l e R s m args below meth c H1 locs (cells + 1) (slots + 4) Q (F0 m (pc + 3) ls (.ref (Lb base N) :: rest))) : W p l e R s m args below meth c H locs cells slots Q (F0 m pc ls (.ref t :: rest)) := by
  refine W.szN h0 hcN hS hG (fun hsz => ?_)
  have hnm : s.vm.findClass "[I" = some (cy 0) := (hK.1.2 0 _ rfl).2
  obtain ⟨c0, t0', f1, f2, f3⟩ := Cond.castable_spec (va_Nw.use (A := args) rfl hcl)
  cases hnm.symm.trans f1
  have hz4 : cell.slots.size = 4 := by rw [hsl]; exact arrV_size _ _ _
  intro T hT X
  have hcellT : T.heap[t]? = some cell := by rw [hT, hS.2.1 t (Array.getElem?_eq_some_iff.mp ht).1 hta]; exact ht
  obtain ⟨-, kA, hkA, comp, hkind⟩ := State.isArrayOf_alike X.warmed.alike ((hK.1.2 0 _ rfl).1 0 (fun _ => .null))
  obtain ⟨-, kS, hkS, compS, hkindS⟩ := (hK.1.2 0 _ rfl).1 0 (fun _ => .null)
  have hkA : T.vm.classes[cy 0]? = some kA := hkA
  have hkS : s.vm.classes[cy 0]? = some kS := hkS
  obtain ⟨vm', X', st⟩ := X.cloneArray hexec hown hlink hsame hnat hinst hsel (a := t) (cell := cell) hcellT hv1 hv2 (by rw [hc0]; exact hnm) f2 (by rw [hc0]; exact f3)
    (fun i v hv => by
      rw [hc0]
      rw [hsl] at hv
      have hi : i < 4 := by
        have := (Array.getElem?_eq_some_iff.mp hv).1
        have h4 : (vp_cell (cy 0) (4, .inl z_first)).slots.size = 4 := arrV_size _ _ _
        omega
      have hv' : v = .int (z_first i) := by
        have hs := arrV_read (cy 0) (N := 4) (fun j => Value.int (z_first j)) hi
        exact Option.some.inj (hv.symm.trans hs)
      subst hv'
      simp [State.fitsSlot, State.slotType?, hkA, hkind, fits])
    (g := F0 m pc ls (.ref t :: rest)) rfl (by rw [hml]) rfl (by rw [hb]; exact hdg) hframes (by show 2 * 0 + _ + 14 ≤ _; omega) hcells (by rw [hz4]; exact hslots) (hloader := by rw [hc0]; exact Vm.clonesLoader_of_array hkS hkindS)
  have hcE : ({ cls := cell.cls, slots := cell.slots } : Cell) = vp_cell (cy 0) (4, .inl z_first) := by
    rw [hc0, hsl]; rfl
  rw [hcE, hz4] at X'
  generalize hH1 : H.push (vp_cell (cy 0) (4, .inl z_first)) = H1
  have z1 : H1.size = H.size + 1 := by rw [← hH1, Array.size_push]
  have e1 : H1[H.size]? = some (vp_cell (cy 0) (4, .inl z_first)) := by rw [← hH1, Array.getElem?_push_size]
  have o1 : ∀ q : Nat, q < H.size → H1[q]? = H[q]? := fun q hq => by rw [← hH1, Array.getElem?_push, if_neg (Nat.ne_of_lt hq)]
  rw [hsz] at e1
  obtain ⟨t2, b1, b2⟩ := kk H1 ⟨gw_grow hG.1 o1 e1, gw_Db⟩ (hS.grow (by omega) o1) ((T.setVm vm').pushCell (vp_cell (cy 0) (4, .inl z_first))) (by rw [← hH1, ← hT]; rfl) X'
  refine ⟨t2, st t2 ?_, b2⟩
  rw [hcE, hT, hsz]
  exact b1
theorem g_castA {own : String} {index : Nat} {i : Nat} {x : vp_A} (hexec : p.tables.exec = Jvm.exec) (hb : c.code = cc) (hown : s.vm.findClass own = some m.cls) (hlink : (Cond.classLink own index "[I").before args s = true) (hK : gK D cy (Ab base) s) (hG : GW D N (Lb base) (Ab base) F H) (hi : i < N) (hF : F i = .inl (cy 0, x)) (hdg : decode cc pc = .ok (.checkcast index, 3))
    (k : W p l e R s m args below meth c H locs cells slots Q (F0 m (pc + 3) ls (.ref (Lb base i) :: rest))) : W p l e R s m args below meth c H locs cells slots Q (F0 m pc ls (.ref (Lb base i) :: rest)) :=
  va_castA hexec hb hown hlink hG.1 i (by rw [gw_at hi, hF]) (hK.1.2 0 _ rfl).2 hdg k
theorem g_backN {a : Array Value} {st0 : List Value} {N2 mc ms : Nat} {F2 : Nat → va_E} (hr : va_Run p l e R s m args below meth c H locs cells slots mc ms (F0 m pc ls st0) rest (gQn D base N2 F2 a) (Ab base)) (hS : va_S (Ab base) s.heap H locs)
    (kk : ∀ (H1 : Heap) (locs1 : List Loc), GW D N2 (Lb base) (Ab base) F2 H1 → va_S (Ab base) s.heap H1 locs1 → W p l e R s m args below meth c H1 locs1 (cells + mc) (slots + ms) Q (F0 m (pc + 3) ls rest)) : W p l e R s m args below meth c H locs cells slots Q (F0 m pc ls st0) := by
  intro T hT X
  obtain ⟨v, st₀, t, T', Lc, h0, X', hL, e1, e2, ⟨hv, hP, hz, hk⟩, st⟩ := hr T hT X
  cases hv
  rw [h0] at hz hk
  have hHz : H.size ≤ T'.heap.size := by rw [e1]; exact hz
  obtain ⟨t2, a1, b1⟩ := kk T'.heap (locs ++ Lc) ⟨by rw [e1]; exact hP, gw_Db⟩
    ⟨Nat.le_trans hS.1 hHz, fun q h1 h2 => by rw [e1, hk q (Nat.lt_of_lt_of_le h1 hS.1) h2]; exact hS.2.1 q h1 h2, fun q hq => by
      rcases List.mem_append.mp hq with h | h
      · exact hS.2.2 q h
      · exact hL q h⟩ T' rfl X'
  exact ⟨t2, st t2 a1, b1⟩
/-- a constructor called on the object that stands last -/
theorem g_init {y : MethodName} {bytes : ByteArray} {maxL nL index i N2 mc ms : Nat} {ws : List Cond} {rm : Room} {Ts : List Cond} {own : String} {F2 : Nat → va_E}
    (hexec : p.tables.exec = Jvm.exec) (hb : c.code = cc) (hml : c.maxLocals = nL) (hown : s.vm.findClass own = some m.cls) (hts : ∀ w ∈ Ts, w.before args s = true) (hK : gK D cy (Ab base) s) (hV : gV cy (Ab base) s s.heap) (h0 : s.heap.size = base + N0) (hcN : cells + N0 = i + 1) (hG : GW D (i + 1) (Lb base) (Ab base) F H) (hS : va_S (Ab base) s.heap H locs)
    (hM : GC l D cy base i y ws rm F N2 F2 mc ms) (cw : CallB R s args own index y bytes maxL none ws rm mc ms 0 ∧ y.name = "<init>" ∧ (Cond.instanceMethod y).before args s = true) (hsize : ls.size = nL) (hroom : (rest.map fun v => v.category).sum ≤ 8) (hdg : decode cc pc = .ok (.invokespecial index, 3)) (hcl : cells + mc ≤ R.cells ∧ slots + ms ≤ R.slots)
    (kk : ∀ (H1 : Heap) (locs1 : List Loc), GW D N2 (Lb base) (Ab base) F2 H1 → va_S (Ab base) s.heap H1 locs1 → W p l e R s m args below meth c H1 locs1 (cells + mc) (slots + ms) Q (F0 m (pc + 3) ls rest)) : W p l e R s m args below meth c H locs cells slots Q (F0 m pc ls (.ref (Lb base i) :: rest)) := by
  refine W.szN h0 hcN hS hG (fun hsz => ?_)
  exact g_backN (va_runI (As := []) (rest := rest) ⟨hexec, hb, hml, hown, hts⟩ hM cw ⟨gPn_blind, fun U hU hW => ⟨rfl, by rw [hU]; exact hsz, by rw [hU]; exact hG.1, va_K.moved hW.alike hK.1, hK.2.1.warm hW, by rw [hU]; exact (hK.2.2.kept hS.2.1).moved hW.alike, by rw [hU]; exact (hV.kept hS.2.1).moved hW⟩⟩ rfl rfl hsize rfl (lv_room hroom) hdg hcl) hS kk
theorem g_initN {y : MethodName} {bytes : ByteArray} {maxL nL index i N2 mc ms : Nat} {ws : List Cond} {rm : Room} {Ts : List Cond} {own host : String} {F2 : Nat → va_E}
    (hexec : p.tables.exec = Jvm.exec) (hb : c.code = cc) (hml : c.maxLocals = nL) (hown : s.vm.findClass own = some m.cls) (hts : ∀ w ∈ Ts, w.before args s = true) (hK : gK D cy (Ab base) s) (hV : gV cy (Ab base) s s.heap) (h0 : s.heap.size = base + N0) (hcN : cells + N0 = i + 1) (hG : GW D (i + 1) (Lb base) (Ab base) F H) (hS : va_S (Ab base) s.heap H locs)
    (hM : GC l D cy base i y ws rm F N2 F2 mc ms) (cw : va_CN R s args own index y host bytes maxL none ws rm mc ms 0) (hy : y.name = "<init>") (hinst : (Cond.instanceMethod y).before args s = true) (hsize : ls.size = nL) (hroom : (rest.map fun v => v.category).sum ≤ 8) (hdg : decode cc pc = .ok (.invokespecial index, 3)) (hcl : cells + mc ≤ R.cells ∧ slots + ms ≤ R.slots)
    (kk : ∀ (H1 : Heap) (locs1 : List Loc), GW D N2 (Lb base) (Ab base) F2 H1 → va_S (Ab base) s.heap H1 locs1 → W p l e R s m args below meth c H1 locs1 (cells + mc) (slots + ms) Q (F0 m (pc + 3) ls rest)) : W p l e R s m args below meth c H locs cells slots Q (F0 m pc ls (.ref (Lb base i) :: rest)) := by
  refine W.szN h0 hcN hS hG (fun hsz => ?_)
  exact g_backN (va_runIN (As := []) (rest := rest) ⟨hexec, hb, hml, hown, hts⟩ hM ⟨cw, hy, hinst⟩ ⟨gPn_blind, fun U hU hW => ⟨rfl, by rw [hU]; exact hsz, by rw [hU]; exact hG.1, va_K.moved hW.alike hK.1, hK.2.1.warm hW, by rw [hU]; exact (hK.2.2.kept hS.2.1).moved hW.alike, by rw [hU]; exact (hV.kept hS.2.1).moved hW⟩⟩ rfl rfl hsize rfl (lv_room hroom) hdg hcl) hS kk
end GN2
