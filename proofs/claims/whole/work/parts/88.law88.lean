/-! THE LAW'S OWN WALK -/
theorem lg_self {x : Int64} : lg_cmp x x = 0 := by
  unfold lg_cmp
  rw [if_neg (by intro h; rw [gt_iff_lt, Int64.lt_iff_toInt_lt] at h; omega), if_pos rfl]
section KWR
variable {cy : Nat → ClassId} {L : Nat → Nat} {F : Nat → va_E} {f : Nat → Int64} {C : CT} {M : MT}
theorem KW_0 : KW cy L F f C M 0 = .inr (4, [.ref (L 1), .ref (L 23), .int (nI C.2.2.2.1), .ref (L 24), .int (nI C.2.2.2.2.2.1), .ref (L 25), .ref (L 26), .ref (L 29)]) := cW_o
theorem KW_162 : KW cy L F f C M 162 = .inr (5, [.int (uT M), .ref (L 163), .ref (L 164), .ref (L 165), .int (uN M), .ref (L 166), .int (uL M), .int (uP M), .int (uW M), .ref (L 167), .int (uQ M), .long (uH M)]) := by
  unfold KW
  rw [cW_n (by omega)]
  unfold oW
  rw [if_neg (by omega)]
  exact mW_o
theorem KW_168 : KW cy L F f C M 168 = .inl (cy 4, 1, .inr (.inl f)) := cW_168
theorem thr_K (l : Launch) (D : va_G) (cy : Nat → ClassId) (L : Nat → Nat) (F : Nat → va_E) (f : Nat → Int64) (C : CT) (M : MT) : GM l D cy 169 L yX5_thrown wsX5_thrown ({ frames := 0, cells := 0, slots := 0, locals := 0 }) [.ref (L 162)] (KW cy L F f C M) (some (.int (uT M))) (KW cy L F f C M) :=
  toKW (k_X5_thrown l D cy 169 L (cW cy L (oW cy F f) C) (by omega) (uT M) (uS M) (uA M) (uV M) (uN M) (uB M) (uL M) (uP M) (uW M) (uR M) (uQ M) (uH M))
end KWR
section GLW
variable {p : Program} {l : Launch} {e : Env} {R : Room} {s : State} {m : MethodId} {args : Array Value} {below : List Frame} {meth : Method} {c : Code} {H : Heap} {locs : List Loc} {cells slots : Nat} {Q : State → Prop}
variable {cc : ByteArray} {pc : Nat} {ls : Array Slot} {rest : List Value} {D : va_G} {cy : Nat → ClassId} {N : Nat} {L : Nat → Nat} {A : Nat → Prop} {F : Nat → va_E}
theorem g_cLW {y : MethodName} {bytes : ByteArray} {maxL nL n index fr lo : Nat} {ret : Option FieldType} {hh : List (Nat × Nat × Nat × Nat)} {ws ws' : List Cond} {Ts : List Cond} {own : String} {As st0 : List Value} {r : Int32} {F2 : Nat → va_E}
    (hexec : p.tables.exec = Jvm.exec) (hb : c.code = cc) (hml : c.maxLocals = nL) (hown : s.vm.findClass own = some m.cls) (hts : ∀ w ∈ Ts, w.before args s = true) (hK : gK D cy A s) (hA : ∀ q, s.heap.size ≤ q → A q) (hG : GW D N L A F H) (hS : va_S A s.heap H locs)
    (hM : GMw l D cy N L y ws ({ frames := fr, cells := 0, slots := 0, locals := lo }) 0 0 As F (some (.int r)) F2 ∨ GMw l D cy N L y ws ({ frames := fr, cells := 1, slots := 6, locals := lo }) 1 6 As F (some (.int r)) F2)
    (hT : GoodIn Ts (va_wsS own index y ws)) (hw : ws = Cond.codeWith y bytes maxL ret hh :: ws') (hd : y.cls ≠ "java/lang/invoke/MethodHandle" ∧ y.cls ≠ "java/lang/invoke/VarHandle" ∧ (parseMethodDescriptor y.desc).map (fun d => d.parameters.length) = some n) (hR : fr + 1 ≤ R.frames ∧ 8 + (maxL + 11) + lo ≤ R.locals)
    (hst : st0 = As.reverse ++ rest) (hn : As.length = n) (hsize : ls.size = nL) (hroom : (rest.map fun v => v.category).sum ≤ 8) (hdg : decode cc pc = .ok (.invokestatic index, 3)) (hcl : cells + 1 ≤ R.cells ∧ slots + 6 ≤ R.slots)
    (kk : ∀ (H1 : Heap) (locs1 : List Loc), GW D N L A F2 H1 → va_S A s.heap H1 locs1 → W p l e R s m args below meth c H1 locs1 (cells + 1) (slots + 6) Q (F0 m (pc + 3) ls (.int r :: rest))) : W p l e R s m args below meth c H locs cells slots Q (F0 m pc ls st0) := by
  rcases hM with hM | hM
  · exact g_cSW hexec hb hml hown hts hK hA hG hS hM (vx_cwSW n hts hT hw rfl rfl hd hR) hst hn hsize hroom hdg ⟨by omega, by omega⟩ (fun H1 locs1 hG1 hS1 => W.widen (Nat.le_succ cells) (Nat.le_add_right slots 6) (kk H1 locs1 hG1 hS1))
  · exact g_cSW hexec hb hml hown hts hK hA hG hS hM (vx_cwSW n hts hT hw rfl rfl hd hR) hst hn hsize hroom hdg hcl kk
end GLW
/-- what holds through the law -/
def LC (p : Program) (s : State) (m : MethodId) (meth : Method) (c : Code) (b Ln : Nat) (xs : Nat → Int32) (D : va_G) (cy : Nat → ClassId) (l : Launch) : Prop :=
  p.tables.exec = Jvm.exec ∧ c.code = code ∧ c.maxLocals = 9 ∧ s.vm.findClass RL = some m.cls ∧ (∀ w ∈ wsL_law, w.before #[Value.ref b] s = true) ∧ gK D cy (fun q => s.heap.size ≤ q) s ∧ va_X b Ln xs s s.heap ∧ b < s.heap.size ∧ Ln ≤ 2560 ∧ l.stackTraces = false
/-- at a place of the loop, t calls behind: the rest of the law goes well -/
def NX (p : Program) (l : Launch) (e : Env) (s : State) (m : MethodId) (below : List Frame) (meth : Method) (c : Code) (b : Nat) (D : va_G) (cy : Nat → ClassId) (L : Nat → Nat) (F : Nat → va_E) (Q : State → Prop) (pc t u c0 s0 : Nat) : Prop :=
  ∀ (f : Nat → Int64) (C : CT) (M : MT) (H : Heap) (locs : List Loc) (ls : Array Slot), WR (2000 * (u : Int)) C M → GW D 169 L (fun q => s.heap.size ≤ q) (KW cy L F f C M) H → va_S (fun q => s.heap.size ≤ q) s.heap H locs → lv_has ls 9 [(4, .int (nI (5 * t))), (3, .ref (L 168)), (2, .ref (L 162)), (1, .ref (L 0)), (0, .ref b)] →
    W p l e room_1 s m #[Value.ref b] below meth c H locs (c0 + u) (s0 + 6 * u) Q (F0 m pc ls [])
