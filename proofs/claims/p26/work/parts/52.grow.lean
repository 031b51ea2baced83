/-! THE WORLD THAT GROWS: the places' addresses are base, base + 1, and so on, in the order in which the cells are made. -/
def Lb (base : Nat) : Nat → Nat := fun i => base + i
def Ab (base : Nat) : Nat → Prop := fun q => base ≤ q
theorem gw_congr {N : Nat} {L : Nat → Nat} {F F2 : Nat → va_E} (h : ∀ i, i < N → F i = F2 i) : gw N L F = gw N L F2 := by
  unfold gw
  exact List.map_congr_left (fun i hi => by rw [h i (List.mem_range.mp hi)])
theorem GW.toN {D : va_G} {N : Nat} {L : Nat → Nat} {A : Nat → Prop} {F F2 : Nat → va_E} {H : Heap} (h : GW D N L A F H) (e : ∀ i, i < N → F i = F2 i) : GW D N L A F2 H := by
  unfold GW
  rw [← gw_congr e]
  exact h
theorem gw_Db {base N : Nat} {F : Nat → va_E} : va_D (Ab base) (gw N (Lb base) F) := by
  refine ⟨fun i j p q hp hq e => ?_, fun k q hq => ?_⟩
  · obtain ⟨h1, rfl⟩ := gw_of hp
    obtain ⟨h2, rfl⟩ := gw_of hq
    have e : base + i = base + j := e
    omega
  · obtain ⟨h1, rfl⟩ := gw_of hq
    exact Nat.le_add_right base k
/-- the world with one cell more, at the heap's end -/
theorem gw_grow {D : va_G} {base N : Nat} {F : Nat → va_E} {e : va_E} {H H1 : Heap} (h : va_P D vwCl (gw N (Lb base) F) H) (hk : ∀ q, q < H.size → H1[q]? = H[q]?) (hn : va_at D vwCl (base + N, e) H1) : va_P D vwCl (gw (N + 1) (Lb base) (gup F N e)) H1 := by
  intro k q hq
  obtain ⟨h1, rfl⟩ := gw_of hq
  by_cases he : k = N
  · subst he
    rw [gup_s]
    exact hn
  · rw [gup_n he]
    have hp := h k _ (gw_at (L := Lb base) (F := F) (show k < N by omega))
    exact hp.kept (hk _ hp.lt)
theorem gup_self {F : Nat → va_E} {i : Nat} {e : va_E} (h : F i = e) : gup F i e = F := by
  funext j
  by_cases hj : j = i
  · subst hj; rw [gup_s, h]
  · rw [gup_n hj]
theorem gup_gup {F : Nat → va_E} {i : Nat} {e e2 : va_E} : gup (gup F i e) i e2 = gup F i e2 := by
  funext j
  by_cases hj : j = i
  · subst hj; rw [gup_s, gup_s]
  · rw [gup_n hj, gup_n hj, gup_n hj]
/-- the row that a yard's settings are copied from -/
def gcl (cy : Nat → ClassId) (A : Nat → Prop) (U : State) (H : Heap) : Prop := ∃ (t : Nat) (cell : Cell), va_Z "SiloPads" "SETTING_FIRST" "[I" (.ref t) A U H ∧ H[t]? = some cell ∧ cell.cls = cy 0 ∧ cell.slots = (vp_cell (cy 0) (4, .inl z_first)).slots ∧ (∀ k, cell.vm ≠ .statics k) ∧ cell.vm ≠ .unknown ∧ ¬ A t
theorem gcl.moved {cy : Nat → ClassId} {A : Nat → Prop} {u U : State} {H : Heap} (hvm : u.vm.Alike U.vm) (h : gcl cy A u H) : gcl cy A U H := by
  obtain ⟨t, cell, h1, h2⟩ := h
  exact ⟨t, cell, h1.moved hvm, h2⟩
theorem gcl.kept {cy : Nat → ClassId} {A : Nat → Prop} {U : State} {H H1 : Heap} (h : gcl cy A U H) (hq : ∀ a : Nat, a < H.size → ¬ A a → H1[a]? = H[a]?) : gcl cy A U H1 := by
  obtain ⟨t, cell, h1, h2, h3, h4, h5, h6, h7⟩ := h
  exact ⟨t, cell, h1.kept hq, by rw [hq t (Array.getElem?_eq_some_iff.mp h2).1 h7]; exact h2, h3, h4, h5, h6, h7⟩
/-- what a constructor asks of the tables and the statics besides -/
def gV (cy : Nat → ClassId) (A : Nat → Prop) (U : State) (H : Heap) : Prop := (va_AO RX1 U ∧ va_AO RX0 U ∧ va_AO RX3 U ∧ va_Nw (.fieldLinkNest RX3 23 "SiloPads" "SETTING_FIRST" "[I" RX4) U) ∧ va_Nw (.castable "[I" "java/lang/Cloneable") U ∧ gcl cy A U H
theorem gV.moved {cy : Nat → ClassId} {A : Nat → Prop} {u U : State} {H : Heap} (hW : u.WarmedH U.vm) (h : gV cy A u H) : gV cy A U H :=
  ⟨⟨h.1.1.moved hW.alike, h.1.2.1.moved hW.alike, h.1.2.2.1.moved hW.alike, va_Nw.warmF hW h.1.2.2.2⟩, va_Nw.warmC hW h.2.1, h.2.2.moved hW.alike⟩
theorem gV.same {cy : Nat → ClassId} {A : Nat → Prop} {u U : State} {H : Heap} (hv : u.vm = U.vm) (h : gV cy A u H) : gV cy A U H := by
  have a : u.vm.Alike U.vm := by rw [hv]; exact Vm.Alike.refl U.vm
  exact ⟨⟨h.1.1.moved a, h.1.2.1.moved a, h.1.2.2.1.moved a, va_Nw.same rfl hv h.1.2.2.2⟩, va_Nw.same rfl hv h.2.1, h.2.2.moved a⟩
theorem gV.kept {cy : Nat → ClassId} {A : Nat → Prop} {U : State} {H H1 : Heap} (h : gV cy A U H) (hq : ∀ a : Nat, a < H.size → ¬ A a → H1[a]? = H[a]?) : gV cy A U H1 := ⟨h.1, h.2.1, h.2.2.kept hq⟩
def gPn (D : va_G) (cy : Nat → ClassId) (base N : Nat) (F : Nat → va_E) : State → Prop := fun U => U.heap.size = base + N ∧ va_P D vwCl (gw N (Lb base) F) U.heap ∧ va_K D vwCl (gty cy) U ∧ gX U ∧ gst (Ab base) U U.heap ∧ gV cy (Ab base) U U.heap
def gQn (D : va_G) (base N2 : Nat) (F2 : Nat → va_E) : Array Value → State → Outcome → State → Prop := fun _ st oc t => oc = .returned none ∧ va_P D vwCl (gw N2 (Lb base) F2) t.heap ∧ va_F (Ab base) st t
/-- THE CONTRACT of a constructor: the object stands last, at the place i; behind it the world has N2 cells -/
def GC (l : Launch) (D : va_G) (cy : Nat → ClassId) (base i : Nat) (y : MethodName) (ws : List Cond) (rm : Room) (F : Nat → va_E) (N2 : Nat) (F2 : Nat → va_E) (mc ms : Nat) : Prop :=
  Met l y ws rm (va_Pc [.ref (Lb base i)] (gPn D cy base (i + 1) F)) (gQn D base N2 F2) mc ms (Ab base)
theorem gPn_blind {D : va_G} {cy : Nat → ClassId} {base N : Nat} {F : Nat → va_E} {av : List Value} : FrameBlind (va_Pc av (gPn D cy base N F)) := by
  intro a U g mk q
  obtain ⟨q0, q1, qP, qK, qX, qS, qV⟩ := q
  exact ⟨q0, q1, qP, va_K.moved (u := U) (U := U.calling g mk a) (Vm.Alike.refl U.vm) qK, gX.same (s := U) (U := U.calling g mk a) rfl qX, gst.moved (u := U) (U := U.calling g mk a) (Vm.Alike.refl U.vm) qS, gV.same (u := U) (U := U.calling g mk a) rfl qV⟩
theorem GC.ofW {l : Launch} {D : va_G} {cy : Nat → ClassId} {base i : Nat} {y : MethodName} {ws ws' : List Cond} {rm : Room} {F F2 : Nat → va_E} {N2 mc ms : Nat} {cc : ByteArray} {maxL : Nat}
    (hy : plainName y.cls = true) (hyi : y.name = "<init>") (hw : ws = Cond.code y cc maxL none :: ws') (hlen : 1 ≤ maxL)
    (body : ∀ (p : Program) (e : Env) (s : State) (m : MethodId) (below : List Frame) (meth : Method) (c : Code) (ls : Array Slot), p.tables.exec = Jvm.exec → c.code = cc → meth.sig.returnType = none → (∀ w ∈ ws, w.before #[Value.ref (Lb base i)] s = true) → s.vm.findClass y.cls = some m.cls → meth.locks = false → c.maxLocals = maxL → meth.name = "<init>" → gK D cy (Ab base) s → gV cy (Ab base) s s.heap → s.heap.size = base + (i + 1) → (∀ q, s.heap.size ≤ q → Ab base q) → GW D (i + 1) (Lb base) (Ab base) F s.heap → va_S (Ab base) s.heap s.heap [] → lv_has ls maxL [(0, .ref (Lb base i))] →
      W p l e (headSpec ws rm).room s m #[Value.ref (Lb base i)] below meth c s.heap [] 0 0 (MQ below (gQn D base N2 F2) #[Value.ref (Lb base i)] s mc ms (Ab base)) (F0 m 0 ls [])) : GC l D cy base i y ws rm F N2 F2 mc ms := by
  refine Met.ofW (cc := cc) (maxL := maxL) (ret := none) hy hw ?_
  intro p e s m args below meth c s₁ B hml hv
  obtain ⟨rfl, hsz, hP, hK, hXX, hST, hV⟩ := hv
  have hts := atoms_spec (ws := ws) B.pre
  have hown : s.vm.findClass y.cls = some m.cls := findClass_of_methodNamed B.named
  have hl := lv_entry [.ref (Lb base i)] (n := maxL) hlen
  rw [lg_entry_eq]
  exact body p e s m below meth c _ B.exec B.bytes B.returns hts hown B.notSynchronized hml ((name_of_methodNamed B.named B.method).1.trans hyi) ⟨hK, hXX, hST⟩ hV hsz (fun q h => by show base ≤ q; omega) ⟨hP, gw_Db⟩ va_S.rf hl
theorem arrV_eq {cI : ClassId} {N : Nat} {f g : Nat → Value} (h : ∀ j, j < N → f j = g j) : arrV cI N f = arrV cI N g := by
  have hs : (arrV cI N f).slots = (arrV cI N g).slots := by
    apply Array.ext_getElem?
    intro j
    by_cases hj : j < N
    · rw [arrV_read cI f hj, arrV_read cI g hj, h j hj]
    · rw [Array.getElem?_eq_none (by rw [arrV_size]; omega), Array.getElem?_eq_none (by rw [arrV_size]; omega)]
  unfold arrV at hs ⊢
  simp only at hs
  rw [hs]
/-- a row of references, the first k of n written -/
def rr (n k : Nat) (g : Nat → Nat) : Nat → Option Nat := fun q => if k ≤ q ∧ q < n then none else some (g q)
theorem rr_0 {n : Nat} {g : Nat → Nat} : ∀ q, q < n → rr n 0 g q = none := fun q h => if_pos ⟨Nat.zero_le q, h⟩
theorem rr_n {n : Nat} {g : Nat → Nat} : rr n n g = fun q => some (g q) := by
  funext q
  exact if_neg (by omega)
theorem rr_s {n k : Nat} {g : Nat → Nat} (hk : k < n) : va_up (rr n k g) k (some (g k)) = rr n (k + 1) g := by
  funext q
  unfold va_up rr
  by_cases h : q = k
  · subst h
    rw [if_pos rfl, if_neg (by omega)]
  · rw [if_neg h]
    by_cases h2 : k ≤ q ∧ q < n
    · rw [if_pos h2, if_pos (by omega)]
    · rw [if_neg h2, if_neg (by omega)]
section GN
variable {p : Program} {l : Launch} {e : Env} {R : Room} {s : State} {m : MethodId} {args : Array Value} {below : List Frame} {meth : Method} {c : Code} {H : Heap} {locs : List Loc} {cells slots : Nat} {Q : State → Prop}
variable {cc : ByteArray} {pc : Nat} {ls : Array Slot} {rest : List Value} {D : va_G} {cy : Nat → ClassId} {base N N0 : Nat} {F : Nat → va_E}
theorem W.sz {g : JFrame} (kk : H.size ≤ s.heap.size + cells → W p l e R s m args below meth c H locs cells slots Q g) : W p l e R s m args below meth c H locs cells slots Q g :=
  fun T hT X => kk (by rw [← hT]; exact X.heapSize) T hT X
/-- how large the heap is: as large as the cells made -/
theorem W.szN {g : JFrame} (h0 : s.heap.size = base + N0) (hc : cells + N0 = N) (hS : va_S (Ab base) s.heap H locs) (hG : GW D N (Lb base) (Ab base) F H) (kk : H.size = base + N → W p l e R s m args below meth c H locs cells slots Q g) : W p l e R s m args below meth c H locs cells slots Q g := by
  refine W.sz (fun h => kk ?_)
  have h1 := hS.1
  by_cases hN : N = 0
  · omega
  · have h2 := (hG.1 (N - 1) _ (gw_at (L := Lb base) (F := F) (show N - 1 < N by omega))).lt
    have h2 : base + (N - 1) < H.size := h2
    omega
theorem g_vretN (hexec : p.tables.exec = Jvm.exec) (hb : c.code = cc) (hr : meth.sig.returnType = none) (hlocks : meth.locks = false) (hG : GW D N (Lb base) (Ab base) F H) (hS : va_S (Ab base) s.heap H locs) (hdg : decode cc pc = .ok (.return_, 1)) :
    W p l e R s m args below meth c H locs cells slots (MQ below (gQn D base N F) args s cells slots (Ab base)) (F0 m pc ls []) :=
  W.vret hexec hb hr (fun t ht hW => ⟨rfl, by rw [ht]; exact hG.1, hS.F ht⟩) hS.2.2 hdg hlocks
theorem va_S.grow {A : Nat → Prop} {H0 H1 : Heap} (hS : va_S A H0 H locs) (z : H.size ≤ H1.size) (o : ∀ q, q < H.size → H1[q]? = H[q]?) : va_S A H0 H1 locs :=
  ⟨Nat.le_trans hS.1 z, fun x h1 h2 => (o x (Nat.lt_of_lt_of_le h1 hS.1)).trans (hS.2.1 x h1 h2), hS.2.2⟩
theorem g_newN {own C : String} {T : u_T} {M ci index : Nat} {Ts : List Cond} (hexec : p.tables.exec = Jvm.exec) (hb : c.code = cc) (hts : ∀ w ∈ Ts, w.before args s = true) (hin : ∀ w ∈ u_ws C T M, w ∈ Ts) (ty : Nat → FieldType) (hty : ∀ k, k < M → parseFieldDescriptor (T k).2.2.1 = some (ty k)) (hown : s.vm.findClass own = some m.cls) (hcl : (Cond.classLink own index C).before args s = true) (hinst : (Cond.instantiable C M).before args s = true) (hini : (Cond.initialized C).before args s = true)
    (hK : gK D cy (Ab base) s) (h0 : s.heap.size = base + N0) (hcN : cells + N0 = N) (hG : GW D N (Lb base) (Ab base) F H) (hS : va_S (Ab base) s.heap H locs) (hc : vwCl[ci]? = some (C, T, M)) {fs : List Value} (hfs : ∀ j, j < M → defaultValue (ty j) = vp_V fs j) (hcells : cells + 1 ≤ R.cells) (hslots : slots + M ≤ R.slots) (hdg : decode cc pc = .ok (.new index, 3))
    (kk : ∀ (H1 : Heap), GW D (N + 1) (Lb base) (Ab base) (gup F N (.inr (ci, fs))) H1 → va_S (Ab base) s.heap H1 locs →
      W p l e R s m args below meth c H1 locs (cells + 1) (slots + M) Q (F0 m (pc + 3) ls (.ref (Lb base N) :: rest))) : W p l e R s m args below meth c H locs cells slots Q (F0 m pc ls rest) := by
  have hKn := hK.1.1 ci _ hc
  refine W.szN h0 hcN hS hG (fun hsz => ?_)
  refine W.newcK hexec hb hown hcl hinst hini rfl hdg hcells hslots hKn.2.1 hsz fun H1 kC hkC e1 z1 o1 => ?_
  rw [← hsz] at o1
  exact kk H1 ⟨gw_grow hG.1 o1 ⟨_, hc, (u_born ty hts hin hKn hkC e1 hty).to hfs⟩, gw_Db⟩ (hS.grow (by omega) o1)
theorem g_newI {x : Int32} {n : Nat} (hexec : p.tables.exec = Jvm.exec) (hb : c.code = cc) (harr : (Cond.arrayClass .int).before args s = true) (hK : gK D cy (Ab base) s) (h0 : s.heap.size = base + N0) (hcN : cells + N0 = N) (hG : GW D N (Lb base) (Ab base) F H) (hS : va_S (Ab base) s.heap H locs)
    (hn : ¬ x < 0) (hN : x.toNatClampNeg = n) (hbytes : n ≤ 100000) (hcells : cells + 1 ≤ R.cells) (hslots : slots + n ≤ R.slots) (hdg : decode cc pc = .ok (.newarray .int, 2))
    (kk : ∀ (H1 : Heap), GW D (N + 1) (Lb base) (Ab base) (gup F N (.inl (cy 0, n, .inl (fun _ => 0)))) H1 → va_S (Ab base) s.heap H1 locs →
      W p l e R s m args below meth c H1 locs (cells + 1) (slots + n) Q (F0 m (pc + 2) ls (.ref (Lb base N) :: rest))) : W p l e R s m args below meth c H locs cells slots Q (F0 m pc ls (.int x :: rest)) := by
  refine W.szN h0 hcN hS hG (fun hsz => ?_)
  refine va_newaK hexec hb (atype := .int) harr rfl hdg rfl hn hN (by show n * 4 ≤ _; omega) hcells hslots hsz fun H1 cA e1 z1 o1 hAr hNm => ?_
  have hc0 : s.vm.findClass ("[" ++ (FieldType.int).toString) = some (cy 0) := (hK.1.2 0 _ rfl).2
  cases hc0.symm.trans hNm
  rw [← hsz] at o1
  exact kk H1 ⟨gw_grow hG.1 o1 e1, gw_Db⟩ (hS.grow (by omega) o1)
theorem g_newR {own C : String} {index t0 : Nat} {x : Int32} {n : Nat} {cA : ClassId} {f : Nat → Option Nat} (hf : ∀ q, q < n → f q = none) (hexec : p.tables.exec = Jvm.exec) (hb : c.code = cc) (hown : s.vm.findClass own = some m.cls) (hclink : (Cond.classLink own index C).before args s = true) (hover : va_AO C s) (hK : gK D cy (Ab base) s) (ht : (gty cy)[t0]? = some (cA, .object C)) (h0 : s.heap.size = base + N0) (hcN : cells + N0 = N) (hG : GW D N (Lb base) (Ab base) F H) (hS : va_S (Ab base) s.heap H locs)
    (hn : ¬ x < 0) (hN : x.toNatClampNeg = n) (hbytes : n ≤ 100000) (hcells : cells + 1 ≤ R.cells) (hslots : slots + n ≤ R.slots) (hdg : decode cc pc = .ok (.anewarray index, 3))
    (kk : ∀ (H1 : Heap), GW D (N + 1) (Lb base) (Ab base) (gup F N (.inl (cA, n, .inr (.inr (.inr (.inr f)))))) H1 → va_S (Ab base) s.heap H1 locs →
      W p l e R s m args below meth c H1 locs (cells + 1) (slots + n) Q (F0 m (pc + 3) ls (.ref (Lb base N) :: rest))) : W p l e R s m args below meth c H locs cells slots Q (F0 m pc ls (.int x :: rest)) := by
  subst hN
  refine W.szN h0 hcN hS hG (fun hsz => ?_)
  refine W.anew hexec hb hown hclink (va_AO.use hover) rfl hdg rfl hn (by omega) hcells hslots fun cA' kA comp f1 f2 f3 f4 => ?_
  obtain ⟨kA2, comp2, r1, r2, r3, r4⟩ := (hK.1.2 t0 _ ht).2
  cases r4.symm.trans f1
  generalize hH1 : H.push ({ cls := cA, slots := Array.replicate x.toNatClampNeg .null, vm := .none } : Cell) = H1
  have z1 : H1.size = H.size + 1 := by rw [← hH1, Array.size_push]
  have e1 : H1[H.size]? = some (arrV cA x.toNatClampNeg (fun _ => .null)) := by rw [← hH1, Array.getElem?_push_size, ← arrV_new]
  have o1 : ∀ q : Nat, q < H.size → H1[q]? = H[q]? := fun q hq => by rw [← hH1, Array.getElem?_push, if_neg (Nat.ne_of_lt hq)]
  rw [hsz] at e1
  refine W.eq (g2 := F0 m (pc + 3) ls (.ref (Lb base N) :: rest)) (by rw [show Lb base N = H.size from hsz.symm]) ?_
  refine kk H1 ⟨gw_grow hG.1 o1 ?_, gw_Db⟩ (hS.grow (by omega) o1)
  show H1[base + N]? = some (vp_cell _ _)
  rw [vp_cell_q, e1]
  exact congrArg some (arrV_eq (fun j hj => by rw [hf j hj]; rfl))
theorem g_putF {own ref C : String} {T : u_T} {M ci index i : Nat} {Ts : List Cond} (hexec : p.tables.exec = Jvm.exec) (hb : c.code = cc) (hts : ∀ w ∈ Ts, w.before args s = true) (hin : ∀ w ∈ u_ws C T M, w ∈ Ts) (ty0 : Nat → FieldType) (hty : ∀ k, k < M → parseFieldDescriptor (T k).2.2.1 = some (ty0 k)) (hnm : ∀ a, a < M → ∀ b, b < M → a ≠ b → (T a).2.1 ≠ (T b).2.1) (hown : s.vm.findClass own = some m.cls) {B9 A : Nat → Prop} {L : Nat → Nat} {H0 : Heap} (hK : gK D cy B9 s) (hG : GW D N L A F H) (hS : va_S A H0 H locs) (hi : i < N) {fs : List Value} (hF : F i = .inr (ci, fs)) (hc : vwCl[ci]? = some (C, T, M)) (k : Nat) (hk : k < M) (hlink : (Cond.fieldLink own index ref (T k).2.1 (T k).2.2.1).before args s = true) (href : (T k).1 = ref) (hfin : (T k).2.2.2 = true) (hin2 : meth.name = "<init>") (hdecl : (T k).1 = own) {ty : FieldType} {v : Value} (hd : parseFieldDescriptor (T k).2.2.1 = some ty) (hn : narrow ty v = v) (hfit : fits ty v = true) (hl : k < fs.length)
    (hdg : decode cc pc = .ok (.putfield index, 3)) {fs2 : List Value} (h2 : fs.set k v = fs2) (kk : ∀ (H1 : Heap) (locs1 : List Loc), GW D N L A (gup F i (.inr (ci, fs2))) H1 → va_S A H0 H1 locs1 → W p l e R s m args below meth c H1 locs1 cells slots Q (F0 m (pc + 3) ls rest)) : W p l e R s m args below meth c H locs cells slots Q (F0 m pc ls (v :: .ref (L i) :: rest)) := by
  subst h2
  refine va_putF hexec hb hts hin ty0 hty hnm hown hK.1 hG.1 hG.2 hS i (by rw [gw_at hi, hF]) hc k hk hlink (fun x h => by rw [← href]; exact h) hfin hin2 hdecl hd hn hfit hl hdg (fun H1 locs1 hP hD hS1 => ?_)
  rw [gw_set hi] at hP hD
  exact kk H1 locs1 ⟨hP, hD⟩ hS1
end GN
