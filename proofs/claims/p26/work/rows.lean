section
-- ===== PART A: goes FIRST, ahead of the names: the tables' words, and 'selects' of the private methods out of them =====
/-- a private method of a class that the tables say can be made, by its rows of tables_1 -/
def lw_okq (q : MethodName × Nat) : Prop := (q.1.cls ≠ "java/lang/invoke/MethodHandle" ∧ q.1.cls ≠ "java/lang/invoke/VarHandle") ∧ Cond.instantiable q.1.cls q.2 ∈ tables_1 ∧ Cond.privateMethod q.1 ∈ tables_1 ∧ Cond.instanceMethod q.1 ∈ tables_1
theorem lw_p0 : lw_okq (⟨"java/lang/Throwable", "fillInStackTrace", "(I)Ljava/lang/Throwable;"⟩, 6) := ⟨⟨by decide +kernel, by decide +kernel⟩, List.mem_of_getElem? (i := 220) (by decide +kernel), List.mem_of_getElem? (i := 218) (by decide +kernel), List.mem_of_getElem? (i := 219) (by decide +kernel)⟩
theorem lw_p1 : lw_okq (⟨"SiloPads", "outInHour", "(LSiloPads$Silo;I)I"⟩, 8) := ⟨⟨by decide +kernel, by decide +kernel⟩, List.mem_of_getElem? (i := 14) (by decide +kernel), List.mem_of_getElem? (i := 338) (by decide +kernel), List.mem_of_getElem? (i := 339) (by decide +kernel)⟩
theorem lw_p2 : lw_okq (⟨"SiloPads", "hardnessAt", "(I)I"⟩, 8) := ⟨⟨by decide +kernel, by decide +kernel⟩, List.mem_of_getElem? (i := 14) (by decide +kernel), List.mem_of_getElem? (i := 342) (by decide +kernel), List.mem_of_getElem? (i := 343) (by decide +kernel)⟩
theorem lw_p3 : lw_okq (⟨"SiloPads", "saveState", "()V"⟩, 8) := ⟨⟨by decide +kernel, by decide +kernel⟩, List.mem_of_getElem? (i := 14) (by decide +kernel), List.mem_of_getElem? (i := 374) (by decide +kernel), List.mem_of_getElem? (i := 375) (by decide +kernel)⟩
theorem lw_p4 : lw_okq (⟨"SiloPads", "bringIn", "(LSiloPads$Silo;LSiloPads$Ship;I)I"⟩, 8) := ⟨⟨by decide +kernel, by decide +kernel⟩, List.mem_of_getElem? (i := 14) (by decide +kernel), List.mem_of_getElem? (i := 384) (by decide +kernel), List.mem_of_getElem? (i := 385) (by decide +kernel)⟩
theorem lw_p5 : lw_okq (⟨"SiloPads", "letOut", "(LSiloPads$Silo;LSiloPads$Ship;I)I"⟩, 8) := ⟨⟨by decide +kernel, by decide +kernel⟩, List.mem_of_getElem? (i := 14) (by decide +kernel), List.mem_of_getElem? (i := 410) (by decide +kernel), List.mem_of_getElem? (i := 411) (by decide +kernel)⟩
theorem lw_p6 : lw_okq (⟨"SiloPads", "pour", "(LSiloPads$Silo;LSiloPads$Ship;I)I"⟩, 8) := ⟨⟨by decide +kernel, by decide +kernel⟩, List.mem_of_getElem? (i := 14) (by decide +kernel), List.mem_of_getElem? (i := 414) (by decide +kernel), List.mem_of_getElem? (i := 415) (by decide +kernel)⟩
theorem lw_p7 : lw_okq (⟨"SiloPads", "pourForHour", "(LSiloPads$Silo;LSiloPads$Ship;)I"⟩, 8) := ⟨⟨by decide +kernel, by decide +kernel⟩, List.mem_of_getElem? (i := 14) (by decide +kernel), List.mem_of_getElem? (i := 418) (by decide +kernel), List.mem_of_getElem? (i := 419) (by decide +kernel)⟩
theorem lw_p8 : lw_okq (⟨"SiloPads", "dustOf", "(I)I"⟩, 8) := ⟨⟨by decide +kernel, by decide +kernel⟩, List.mem_of_getElem? (i := 14) (by decide +kernel), List.mem_of_getElem? (i := 426) (by decide +kernel), List.mem_of_getElem? (i := 427) (by decide +kernel)⟩
theorem lw_p9 : lw_okq (⟨"SiloPads", "shakesToBreak", "(LSiloPads$Silo;)I"⟩, 8) := ⟨⟨by decide +kernel, by decide +kernel⟩, List.mem_of_getElem? (i := 14) (by decide +kernel), List.mem_of_getElem? (i := 445) (by decide +kernel), List.mem_of_getElem? (i := 446) (by decide +kernel)⟩
theorem lw_p10 : lw_okq (⟨"SiloPads", "passDays", "(I)I"⟩, 8) := ⟨⟨by decide +kernel, by decide +kernel⟩, List.mem_of_getElem? (i := 14) (by decide +kernel), List.mem_of_getElem? (i := 477) (by decide +kernel), List.mem_of_getElem? (i := 478) (by decide +kernel)⟩
theorem lw_p11 : lw_okq (⟨"SiloPads", "passDayIn", "(LSiloPads$Silo;)I"⟩, 8) := ⟨⟨by decide +kernel, by decide +kernel⟩, List.mem_of_getElem? (i := 14) (by decide +kernel), List.mem_of_getElem? (i := 481) (by decide +kernel), List.mem_of_getElem? (i := 482) (by decide +kernel)⟩
theorem lw_p12 : lw_okq (⟨"SiloPads", "softTonnes", "(LSiloPads$Silo;)I"⟩, 8) := ⟨⟨by decide +kernel, by decide +kernel⟩, List.mem_of_getElem? (i := 14) (by decide +kernel), List.mem_of_getElem? (i := 515) (by decide +kernel), List.mem_of_getElem? (i := 516) (by decide +kernel)⟩
def lw_privs_1 : List (MethodName × Nat) := [(⟨"java/lang/Throwable", "fillInStackTrace", "(I)Ljava/lang/Throwable;"⟩, 6), (⟨"SiloPads", "outInHour", "(LSiloPads$Silo;I)I"⟩, 8), (⟨"SiloPads", "hardnessAt", "(I)I"⟩, 8), (⟨"SiloPads", "saveState", "()V"⟩, 8), (⟨"SiloPads", "bringIn", "(LSiloPads$Silo;LSiloPads$Ship;I)I"⟩, 8), (⟨"SiloPads", "letOut", "(LSiloPads$Silo;LSiloPads$Ship;I)I"⟩, 8), (⟨"SiloPads", "pour", "(LSiloPads$Silo;LSiloPads$Ship;I)I"⟩, 8), (⟨"SiloPads", "pourForHour", "(LSiloPads$Silo;LSiloPads$Ship;)I"⟩, 8), (⟨"SiloPads", "dustOf", "(I)I"⟩, 8), (⟨"SiloPads", "shakesToBreak", "(LSiloPads$Silo;)I"⟩, 8), (⟨"SiloPads", "passDays", "(I)I"⟩, 8), (⟨"SiloPads", "passDayIn", "(LSiloPads$Silo;)I"⟩, 8), (⟨"SiloPads", "softTonnes", "(LSiloPads$Silo;)I"⟩, 8)]
theorem lw_r1 : ∀ q ∈ lw_privs_1, lw_okq q := List.forall_mem_cons.mpr ⟨lw_p0, List.forall_mem_cons.mpr ⟨lw_p1, List.forall_mem_cons.mpr ⟨lw_p2, List.forall_mem_cons.mpr ⟨lw_p3, List.forall_mem_cons.mpr ⟨lw_p4, List.forall_mem_cons.mpr ⟨lw_p5, List.forall_mem_cons.mpr ⟨lw_p6, List.forall_mem_cons.mpr ⟨lw_p7, List.forall_mem_cons.mpr ⟨lw_p8, List.forall_mem_cons.mpr ⟨lw_p9, List.forall_mem_cons.mpr ⟨lw_p10, List.forall_mem_cons.mpr ⟨lw_p11, List.forall_mem_cons.mpr ⟨lw_p12, fun _ h => absurd h List.not_mem_nil⟩⟩⟩⟩⟩⟩⟩⟩⟩⟩⟩⟩⟩
def lw_privs : List (MethodName × Nat) := lw_privs_1
def lw_tbl : List Cond := k2_sels lw_privs ++ tables_1
theorem lw_privs_ok : ∀ q ∈ lw_privs, lw_okq q := lw_r1
/-- the streams that the claim lets the run draw from -/
abbrev lw_cs : List Choice := [Jvm.Choice.named "NaN.bits"]
theorem lw_bits : nanBits ∈ lw_cs := by first | decide | exact List.mem_cons_self | simp [lw_cs, nanBits]
end
section
/-! ===== BEGIN words of one list among another's, by their places ===== -/
theorem goodIn_r {big : List Cond} (ws : List Cond) (ps : List Nat) (hp : ws = ps.filterMap (fun i => big[i]?)) (h : ws.all goodWord = true) : GoodIn big ws := by
  intro w hw
  have h1 := List.all_eq_true.mp h w hw
  rw [hp] at hw
  obtain ⟨i, -, hi⟩ := List.mem_filterMap.mp hw
  have hm : w ∈ big := by first | exact List.mem_of_getElem? hi | exact List.getElem?_mem hi
  exact ⟨hm, good_of_word h1⟩
theorem goodIn_app {big a b : List Cond} (ha : GoodIn big a) (hb : GoodIn big b) : GoodIn big (a ++ b) := fun w h => (List.mem_append.mp h).elim (ha w) (hb w)
theorem goodIn_ca {big a b : List Cond} {c : Cond} (ha : GoodIn big (c :: a)) (hb : GoodIn big b) : GoodIn big (c :: (a ++ b)) := fun w h => (List.mem_cons.mp h).elim (fun e => ha w (List.mem_cons.mpr (Or.inl e))) (fun h => (List.mem_append.mp h).elim (fun h => ha w (List.mem_cons.mpr (Or.inr h))) (hb w))
theorem goodIn_sub {big ws : List Cond} (hm : ∀ w ∈ ws, w ∈ big) (h : ws.all goodWord = true) : GoodIn big ws := fun w hw => ⟨hm w hw, good_of_word (List.all_eq_true.mp h w hw)⟩
/-! ===== END ===== -/

/-! ===== BEGIN exceptions that leave a method, and their catching by the caller (launches without stack traces) ===== -/
section VXA
/-! The laws vx_back, vx_callV, vx_callS, vx_callSW, vx_throw0, vx_throwS follow proofs of the library, with one case more: JvmDerived/Free/Laws.lean (Back.of_free), Shelf42/LK1.lean (callV, callS), Shelf/KitTraced.lean (throwNew0V, throwNewS). -/
/-- where a method has thrown q: the class by its name, the cell, what was written, the world -/
def vx_T (XC : String → State → State → Prop) (st : State) (q : Addr) (t : State) (mc ms : Nat) (free : Addr → Prop) : Prop :=
  ∃ (E : String) (ce : Cell) (L : List Loc), XC E st t ∧ t.heap[q]? = some ce ∧ ce.vm = .none ∧ st.vm.findClass E = some ce.cls ∧ st.WarmedH t.vm ∧ st.sameButNew ({ t with vm := st.vm } : State) L mc ms ∧ ∀ z ∈ L, free z.base
def vx_Q (Qc : Array Value → State → Outcome → State → Prop) (XC : String → State → State → Prop) (mc ms : Nat) (free : Addr → Prop) : Array Value → State → Outcome → State → Prop := fun a st o t =>
  (Qc a st o t ∧ ∃ L, FrameEnd st o t L mc ms ∧ ∀ q ∈ L, free q.base) ∨ ∃ q, o = .threw q ∧ vx_T XC st q t mc ms free
/-- a callee that returns or throws -/
def vx_Met (l : Launch) (y : MethodName) (ws : List Cond) (rm : Room) (Pc : Array Value → State → Prop) (Qc : Array Value → State → Outcome → State → Prop) (XC : String → State → State → Prop) (mc ms : Nat) (free : Addr → Prop) : Prop :=
  MetFree l y (headSpec ws rm) Pc (fun _ _ _ _ _ => True) (vx_Q Qc XC mc ms free)
def vx_Post (XC : String → State → State → Prop) (mc ms : Nat) (free : Addr → Prop) : Pt → Array Value → Addr → Pt → Prop := fun A a q B =>
  ∃ (g : JFrame) (mk : MethodId) (t : State) (L : List Loc) (E : String) (ce : Cell), B.U.heap = t.heap ∧ B.U.vm = t.vm ∧ XC E (A.U.calling g mk a) t ∧ t.heap[q]? = some ce ∧ ce.vm = .none ∧ A.U.vm.findClass E = some ce.cls ∧ B.locs = A.locs ++ L ∧ (∀ z ∈ L, free z.base) ∧ B.cells = A.cells + mc ∧ B.slots = A.slots + ms
def vx_Back (l : Launch) (R : Room) (p : Program) (e : Env) (below : List Frame) (s : State) (sargs : Array Value) (y : MethodName) (len W9 : Nat)
    (Pre : Pt → Array Value → Prop) (Post : Pt → Array Value → Option Value → Pt → Prop) (PostX : Pt → Array Value → Addr → Pt → Prop) : Prop :=
  ∀ (m : MethodId) (meth : Method) (c : Code) (A : Pt) (g : JFrame) (ig : Instr) (mk : MethodId) (a : Array Value),
    Stand p l e R s m sargs below meth c A.U A.locs A.cells A.slots → g.method = m → g.locals.size = c.maxLocals → decode c.code g.pc = .ok (ig, len) →
    2 * g.monitorRoom + (g.stack.map fun v => v.category).sum ≤ W9 → A.U.methodNamed? y = some mk → Pre A a →
    (∃ (v : Option Value) (B : Pt), Stand p l e R s m sargs below meth c B.U B.locs B.cells B.slots ∧ Post A a v B ∧
      Steps p.tables e below (doInvoke e (A.U.setTop g) [] mk a).1 (B.U.setTop { g with pc := g.pc + len, stack := v.toList ++ g.stack })) ∨
    (∃ (q : Addr) (B : Pt), Stand p l e R s m sargs below meth c B.U B.locs B.cells B.slots ∧ PostX A a q B ∧
      Steps p.tables e below (doInvoke e (A.U.setTop g) [] mk a).1 ((B.U.setTop g).pushFrame (.throwing q)))
section Payer
variable {l : Launch} {R : Room} {p : Program} {e : Env} {below : List Frame} {s : State} {sargs : Array Value} {y : MethodName} {len W9 : Nat}
theorem vx_back {ws : List Cond} {rm : Room} {Pc : Array Value → State → Prop} {Qc : Array Value → State → Outcome → State → Prop} {XC : String → State → State → Prop} {mc ms : Nat} {free : Addr → Prop} {bytes : ByteArray} {maxL : Nat} {ret : Option FieldType}
    (hM : vx_Met l y ws rm Pc Qc XC mc ms free) (hblind : FrameBlind Pc) (hrc : rm.cells = mc) (hrs : rm.slots = ms)
    (hframes : rm.frames + 1 ≤ R.frames) (hlocals : W9 + (maxL + 11) + rm.locals ≤ R.locals)
    (hws : ∀ w ∈ ws, ∀ a' U, s.WarmedH U.vm → w.before a' U = true) (hcode : Cond.code y bytes maxL ret ∈ ws) (hinit : ∀ a' U, s.WarmedH U.vm → (Cond.initialized y.cls).before a' U = true) :
    vx_Back l R p e below s sargs y len W9 (PreOf R mc ms Pc) (PostOf Qc mc ms free) (vx_Post XC mc ms free) := by
  intro m meth c A g ig mk a X hg hsize hdg hW hn hp
  have h1 : (headSpec ws rm).pre.before a A.U = true := atoms_intro fun w hw => hws w hw _ _ X.warmed
  have h2 : (Cond.code y bytes maxL ret).before a A.U = true := hws _ hcode _ _ X.warmed
  have h3 : (Cond.initialized y.cls).before a A.U = true := hinit _ _ X.warmed
  have h4 : A.cells + (headSpec ws rm).room.cells ≤ R.cells := by rw [show (headSpec ws rm).room.cells = mc from hrc]; exact hp.1
  have h5 : A.slots + (headSpec ws rm).room.slots ≤ R.slots := by rw [show (headSpec ws rm).room.slots = ms from hrs]; exact hp.2.1
  have hPc : Pc a (A.U.calling g mk a) := hblind _ _ _ _ hp.2.2
  obtain ⟨U, Ls, c0, s0⟩ := A
  dsimp only [Pt.U, Pt.locs, Pt.cells, Pt.slots] at h1 h2 h3 h4 h5 X hn hPc ⊢
  obtain ⟨methY, cY, hmY, hcY, -, hlY, -, -, -, -⟩ := Cond.code_spec hn h2
  obtain ⟨kY, hkY, -⟩ := className_of_methodNamed hn
  have hinitY : kY.init = .initialized := Cond.initialized_spec (findClass_of_methodNamed hn) hkY h3
  have h : At U g.method c below := by rw [hg]; exact X.here
  have hlocals9 : W9 + (maxL + 11) + (headSpec ws rm).room.locals ≤ R.locals := hlocals
  have happ : (headSpec ws rm).appliesLoose y e.platform (U.calling g mk a) = true :=
    Spec.appliesLoose_calling (g := g) h hdg hn hkY hinitY
      (X.room_calling (g := g) (R' := (headSpec ws rm).room) hsize hmY hcY hframes (by rw [hlY]; omega) h4 h5) h1
  obtain ⟨mid, hmid⟩ := h.above
  have hfr : (U.setTop g).frames = (.java g :: mid) ++ below := by rw [State.frames_setTop' g h.top, hmid]; rfl
  obtain ⟨o, s₂, hsteps, -, hend, hq⟩ := Steps.callFree hM p X.admits X.cas X.clock (acts := []) hfr happ hPc trivial
  have hq' : vx_Q Qc XC mc ms free a (U.calling g mk a) o s₂ := hq
  rw [State.frames_setTop' g h.top] at hend
  obtain ⟨g₀, hg0⟩ := Option.isSome_iff_exists.mp h.top
  obtain ⟨r, hr⟩ := State.topJava?_eq_some.mp hg0
  have hr' : (({ U with heap := s₂.heap, slotsUsed := s₂.slotsUsed } : State).setVm s₂.vm).frames = .java g₀ :: r := hr
  rcases hq' with ⟨hqc, L, hfe, hL⟩ | ⟨q, rfl, E, ce, L, hx, hce, hcv, hcl, hW₂, hsm, hL⟩
  · obtain ⟨⟨v, rfl⟩, hW₂, e2, q2, q3, q4, q5, q6⟩ := id hfe
    have e3 : s₂ = ({ (U.calling g mk a).setFrames s₂.frames with heap := s₂.heap, slotsUsed := s₂.slotsUsed } : State).setVm s₂.vm := by
      have : s₂ = ({ s₂ with vm := (U.calling g mk a).vm } : State).setVm s₂.vm := rfl
      rw [e2] at this
      exact this
    obtain ⟨c₂, i₂, len₂, hc₂, hd₂, hf₂⟩ := hend
    have hW' : U.WarmedH s₂.vm := hW₂
    have hcc : c₂ = c := by
      have h1 : s₂.code? g.method = U.code? g.method := by
        rw [State.code?_eq, State.code?_eq, hW'.alike.method?]
      exact Option.some.inj (hc₂.symm.trans (h1.trans h.code))
    subst hcc
    have hlen : len₂ = len := by rw [hdg] at hd₂; cases hd₂; rfl
    subst hlen
    have hs₂ : s₂ = (({ U with heap := s₂.heap, slotsUsed := s₂.slotsUsed } : State).setVm s₂.vm).setTop { g with pc := g.pc + len₂, stack := v.toList ++ g.stack } := by
      refine e3.trans ?_
      rw [hf₂, State.calling_eq h.top, State.setFrames_setFrames, State.setTop_of_frames _ hr', hr]
      rfl
    have hsame : U.sameButNew ({ U with heap := s₂.heap, slotsUsed := s₂.slotsUsed } : State) L mc ms := by
      refine ⟨?_, q2, q3, q4, q5, q6⟩
      obtain ⟨t, ht, -⟩ := State.frames_cons hr
      show ({ U with heap := s₂.heap, slotsUsed := s₂.slotsUsed } : State) = { U.setFrames U.frames with heap := s₂.heap, slotsUsed := s₂.slotsUsed }
      rw [State.setFrames_self ht]
    subst hg
    refine Or.inl ⟨v, ⟨(({ U with heap := s₂.heap, slotsUsed := s₂.slotsUsed } : State).setVm s₂.vm), Ls ++ L, c0 + mc, s0 + ms⟩,
      ⟨X.admits, X.cas, X.clock, X.frames, X.room, X.hears, X.method, X.code, (X.here.setHeapUsed s₂.heap s₂.slotsUsed).setVm hW'.alike, X.tail, State.WarmedH.trans X.warmed hW', X.limits, X.bytes, X.same.trans (hsame.setVm s.vm)⟩,
      ⟨g, mk, s₂, L, rfl, rfl, hqc, rfl, hL, rfl, rfl⟩, ?_⟩
    show Steps p.tables e below _ ((({ U with heap := s₂.heap, slotsUsed := s₂.slotsUsed } : State).setVm s₂.vm).setTop { g with pc := g.pc + len₂, stack := v.toList ++ g.stack })
    rw [← hs₂]
    exact hsteps
  · obtain ⟨e2, q2, q3, q4, q5, q6⟩ := id hsm
    have e3 : s₂ = ({ (U.calling g mk a).setFrames s₂.frames with heap := s₂.heap, slotsUsed := s₂.slotsUsed } : State).setVm s₂.vm := by
      have : s₂ = ({ s₂ with vm := (U.calling g mk a).vm } : State).setVm s₂.vm := rfl
      rw [e2] at this
      exact this
    have hf₂ : s₂.frames = .throwing q :: .java g :: U.frames.tail := hend
    have hW' : U.WarmedH s₂.vm := hW₂
    have hs₂ : s₂ = ((({ U with heap := s₂.heap, slotsUsed := s₂.slotsUsed } : State).setVm s₂.vm).setTop g).pushFrame (.throwing q) := by
      refine e3.trans ?_
      rw [hf₂, State.calling_eq h.top, State.setFrames_setFrames, State.pushFrame, State.frames_setTop _ hr', State.setTop_of_frames _ hr', State.setFrames_setFrames, hr]
      rfl
    have hsame : U.sameButNew ({ U with heap := s₂.heap, slotsUsed := s₂.slotsUsed } : State) L mc ms := by
      refine ⟨?_, q2, q3, q4, q5, q6⟩
      obtain ⟨t, ht, -⟩ := State.frames_cons hr
      show ({ U with heap := s₂.heap, slotsUsed := s₂.slotsUsed } : State) = { U.setFrames U.frames with heap := s₂.heap, slotsUsed := s₂.slotsUsed }
      rw [State.setFrames_self ht]
    subst hg
    refine Or.inr ⟨q, ⟨(({ U with heap := s₂.heap, slotsUsed := s₂.slotsUsed } : State).setVm s₂.vm), Ls ++ L, c0 + mc, s0 + ms⟩,
      ⟨X.admits, X.cas, X.clock, X.frames, X.room, X.hears, X.method, X.code, (X.here.setHeapUsed s₂.heap s₂.slotsUsed).setVm hW'.alike, X.tail, State.WarmedH.trans X.warmed hW', X.limits, X.bytes, X.same.trans (hsame.setVm s.vm)⟩,
      ⟨g, mk, s₂, L, E, ce, rfl, rfl, hx, hce, hcv, hcl, rfl, hL, rfl, rfl⟩, ?_⟩
    show Steps p.tables e below _ (((({ U with heap := s₂.heap, slotsUsed := s₂.slotsUsed } : State).setVm s₂.vm).setTop g).pushFrame (.throwing q))
    rw [← hs₂]
    exact hsteps
end Payer
section Calls
variable {p : Program} {l : Launch} {e : Env} {R : Room} {s : State} {m : MethodId} {args : Array Value} {below : List Frame} {meth : Method} {c : Code} {T : State} {locs : List Loc} {cells slots : Nat}
theorem vx_callV (X : Stand p l e R s m args below meth c T locs cells slots) (hexec : p.tables.exec = Jvm.exec) {own C : String} {index : Nat} {y : MethodName} {bytes : ByteArray} {maxL : Nat} {ret : Option FieldType}
    (hown : s.vm.findClass own = some m.cls) (hlink : (Cond.methodLink own index y).before args s = true) (hinst : (Cond.instanceMethod y).before args s = true) (hsel : (Cond.selects C y y).before args s = true)
    (hcode : (Cond.code y bytes maxL ret).before args s = true) (hy : y.cls ≠ "java/lang/invoke/MethodHandle" ∧ y.cls ≠ "java/lang/invoke/VarHandle")
    {W9 : Nat} {Pre : Pt → Array Value → Prop} {Post : Pt → Array Value → Option Value → Pt → Prop} {PostX : Pt → Array Value → Addr → Pt → Prop} (hK : vx_Back l R p e below s args y 3 W9 Pre Post PostX)
    {b : Addr} {cellB : Cell} (hcell : T.heap[b]? = some cellB) (hobj : cellB.vm.isStatics = false) (hcls : s.vm.findClass C = some cellB.cls)
    {g : JFrame} (hg : g.method = m) (hsize : g.locals.size = c.maxLocals) {argsL rest : List Value} (hlen : ∀ sig, parseMethodDescriptor y.desc = some sig → argsL.length = sig.parameters.length)
    (hstack : g.stack = argsL.reverse ++ .ref b :: rest) (hW : 2 * g.monitorRoom + (rest.map fun v => v.category).sum ≤ W9) (hdg : decode c.code g.pc = .ok (.invokevirtual index, 3))
    (hpre : ∀ vm₁, s.WarmedH vm₁ → Pre ⟨T.setVm vm₁, locs, cells, slots⟩ (Value.ref b :: argsL).toArray) :
    (∃ (v : Option Value) (vm₁ : Vm) (B : Pt), s.WarmedH vm₁ ∧ Stand p l e R s m args below meth c B.U B.locs B.cells B.slots ∧ Post ⟨T.setVm vm₁, locs, cells, slots⟩ (Value.ref b :: argsL).toArray v B ∧
      ∀ target, Steps p.tables e below (B.U.setTop { g with pc := g.pc + 3, stack := v.toList ++ rest }) target → Steps p.tables e below (T.setTop g) target) ∨
    (∃ (q : Addr) (vm₁ : Vm) (B : Pt), s.WarmedH vm₁ ∧ Stand p l e R s m args below meth c B.U B.locs B.cells B.slots ∧ PostX ⟨T.setVm vm₁, locs, cells, slots⟩ (Value.ref b :: argsL).toArray q B ∧
      Steps p.tables e below (T.setTop g) ((B.U.setTop { g with stack := rest }).pushFrame (.throwing q))) := by
  obtain ⟨mk, methM, hnamed, hmethM, hstM, habM⟩ := Cond.instanceMethod_spec hinst
  obtain ⟨methM', cM, hmethM', -, -, -, -, -, -, hsigM⟩ := Cond.code_spec hnamed hcode
  cases hmethM.symm.trans hmethM'
  obtain ⟨c2, r2, m2, q1, q2, q3, q4, kP, hkP, hkPi⟩ := Cond.selects_spec hsel
  cases hcls.symm.trans q1
  cases (State.methodFound?_of_named hnamed hy).symm.trans q2
  cases hnamed.symm.trans q3
  have hselP : selectMethod e.platform s.vm cellB.cls mk = .method mk := by rw [Launch.admits_selectMethod X.admits]; exact q4
  obtain ⟨vm₁, X₁, hstep₁⟩ := X.invokevirtual hexec hown hlink hnamed hmethM hstM hkP hkPi hy (a := b) (cell := cellB) hcell
    (fun z h => by rw [h] at hobj; cases hobj) hselP hmethM habM hkP hkPi (g := g) hg (argsL := argsL) (rest := rest) (hlen _ hsigM) hstack hdg
  rcases hK m meth c ⟨T.setVm vm₁, locs, cells, slots⟩ { g with stack := rest } (.invokevirtual index) mk (Value.ref b :: argsL).toArray X₁ hg hsize hdg hW (X₁.named hnamed) (hpre vm₁ X₁.warmed) with ⟨v, B, X', hpost, hsteps⟩ | ⟨q, B, X', hpost, hsteps⟩
  · exact Or.inl ⟨v, vm₁, B, X₁.warmed, X', hpost, fun target h => hstep₁ _ fun acts => by rw [doInvoke_state]; exact hsteps.trans h⟩
  · exact Or.inr ⟨q, vm₁, B, X₁.warmed, X', hpost, hstep₁ _ fun acts => by rw [doInvoke_state]; exact hsteps⟩
theorem vx_callS (X : Stand p l e R s m args below meth c T locs cells slots) (hexec : p.tables.exec = Jvm.exec) {own : String} {index : Nat} {y : MethodName} {bytes : ByteArray} {maxL : Nat} {ret : Option FieldType}
    (hown : s.vm.findClass own = some m.cls) (hlink : (Cond.methodLink own index y).before args s = true) (hstat : (Cond.static y).before args s = true) (hinit : (Cond.initialized y.cls).before args s = true)
    (hcode : (Cond.code y bytes maxL ret).before args s = true) (hy : y.cls ≠ "java/lang/invoke/MethodHandle" ∧ y.cls ≠ "java/lang/invoke/VarHandle")
    {W9 : Nat} {Pre : Pt → Array Value → Prop} {Post : Pt → Array Value → Option Value → Pt → Prop} {PostX : Pt → Array Value → Addr → Pt → Prop} (hK : vx_Back l R p e below s args y 3 W9 Pre Post PostX)
    {g : JFrame} (hg : g.method = m) (hsize : g.locals.size = c.maxLocals) {argsL rest : List Value} (hlen : ∀ sig, parseMethodDescriptor y.desc = some sig → argsL.length = sig.parameters.length)
    (hstack : g.stack = argsL.reverse ++ rest) (hW : 2 * g.monitorRoom + (rest.map fun v => v.category).sum ≤ W9) (hdg : decode c.code g.pc = .ok (.invokestatic index, 3))
    (hpre : ∀ vm₁, s.WarmedH vm₁ → Pre ⟨T.setVm vm₁, locs, cells, slots⟩ argsL.toArray) :
    (∃ (v : Option Value) (vm₁ : Vm) (B : Pt), s.WarmedH vm₁ ∧ Stand p l e R s m args below meth c B.U B.locs B.cells B.slots ∧ Post ⟨T.setVm vm₁, locs, cells, slots⟩ argsL.toArray v B ∧
      ∀ target, Steps p.tables e below (B.U.setTop { g with pc := g.pc + 3, stack := v.toList ++ rest }) target → Steps p.tables e below (T.setTop g) target) ∨
    (∃ (q : Addr) (vm₁ : Vm) (B : Pt), s.WarmedH vm₁ ∧ Stand p l e R s m args below meth c B.U B.locs B.cells B.slots ∧ PostX ⟨T.setVm vm₁, locs, cells, slots⟩ argsL.toArray q B ∧
      Steps p.tables e below (T.setTop g) ((B.U.setTop { g with stack := rest }).pushFrame (.throwing q))) := by
  obtain ⟨mk, hnamed⟩ := Cond.code_named hcode
  obtain ⟨methM, cM, hmethM, -, -, -, -, -, -, hsigM⟩ := Cond.code_spec hnamed hcode
  have hstatic : methM.isStatic = true := Cond.static_spec hnamed hmethM hstat
  obtain ⟨kP, hkP, -⟩ := className_of_methodNamed hnamed
  have hinitP : kP.init = .initialized := Cond.initialized_spec (findClass_of_methodNamed hnamed) hkP hinit
  obtain ⟨vm₁, X₁, hstep₁⟩ := X.invokestatic hexec hown hlink hnamed hmethM hstatic hkP hinitP hy (g := g) hg (argsL := argsL) (rest := rest) (hlen _ hsigM) hstack hdg
  rcases hK m meth c ⟨T.setVm vm₁, locs, cells, slots⟩ { g with stack := rest } (.invokestatic index) mk argsL.toArray X₁ hg hsize hdg hW (X₁.named hnamed) (hpre vm₁ X₁.warmed) with ⟨v, B, X', hpost, hsteps⟩ | ⟨q, B, X', hpost, hsteps⟩
  · exact Or.inl ⟨v, vm₁, B, X₁.warmed, X', hpost, fun target h => hstep₁ _ fun acts => by rw [doInvoke_state]; exact hsteps.trans h⟩
  · exact Or.inr ⟨q, vm₁, B, X₁.warmed, X', hpost, hstep₁ _ fun acts => by rw [doInvoke_state]; exact hsteps⟩
end Calls
theorem vx_cls {s : State} {T : State} {vm₁ : Vm} {E : String} {k : ClassId} (hW : s.WarmedH vm₁) (h : (T.setVm vm₁).vm.findClass E = some k) : s.vm.findClass E = some k := by
  have h1 : vm₁.findClass E = some k := h
  rw [hW.alike.findClass] at h1
  exact h1
/-- the method's frame g, with q thrown over it -/
def vx_W (p : Program) (l : Launch) (e : Env) (R : Room) (s : State) (m : MethodId) (args : Array Value) (below : List Frame) (meth : Method) (c : Code) (H : Heap) (locs : List Loc) (cells slots : Nat) (Q : State → Prop) (g : JFrame) (q : Addr) : Prop :=
  ∀ T : State, T.heap = H → Stand p l e R s m args below meth c T locs cells slots → ∃ t, Steps p.tables e below ((T.setTop g).pushFrame (.throwing q)) t ∧ Q t
def vx_Run (p : Program) (l : Launch) (e : Env) (R : Room) (s : State) (m : MethodId) (args : Array Value) (below : List Frame) (meth : Method) (c : Code) (H : Heap) (locs : List Loc) (cells slots mc ms : Nat) (g : JFrame) (rest : List Value) (Qa : State → Outcome → State → Prop) (XC : String → State → State → Prop) (free : Addr → Prop) : Prop :=
  ∀ T : State, T.heap = H → Stand p l e R s m args below meth c T locs cells slots →
    (∃ (v : Option Value) (st₀ t T' : State) (L : List Loc), st₀.heap = H ∧ Stand p l e R s m args below meth c T' (locs ++ L) (cells + mc) (slots + ms) ∧ (∀ q ∈ L, free q.base) ∧ T'.heap = t.heap ∧ T'.vm = t.vm ∧ Qa st₀ (.returned v) t ∧
      Goes p e below T g T' { g with pc := g.pc + 3, stack := v.toList ++ rest }) ∨
    (∃ (q : Addr) (st₀ t T' : State) (L : List Loc) (E : String) (ce : Cell), st₀.heap = H ∧ Stand p l e R s m args below meth c T' (locs ++ L) (cells + mc) (slots + ms) ∧ (∀ z ∈ L, free z.base) ∧ T'.heap = t.heap ∧ T'.vm = t.vm ∧ XC E st₀ t ∧ t.heap[q]? = some ce ∧ ce.vm = .none ∧ s.vm.findClass E = some ce.cls ∧
      Steps p.tables e below (T.setTop g) ((T'.setTop { g with stack := rest }).pushFrame (.throwing q)))
def vx_X {S : Type} (px : S → Prop) (B : String → S → State → Prop) (A : Nat → Prop) : String → State → State → Prop := fun E st t => ∃ u : S, px u ∧ B E u t ∧ va_F A st t
section Runs
variable {p : Program} {l : Launch} {e : Env} {R : Room} {s : State} {m : MethodId} {args : Array Value} {below : List Frame} {meth : Method} {c : Code} {H : Heap} {locs : List Loc} {cells slots : Nat}
variable {y : MethodName} {bytes cc : ByteArray} {maxL nL mc ms n index : Nat} {ret : Option FieldType} {ws : List Cond} {rm : Room} {Pc : Array Value → State → Prop} {Qc : Array Value → State → Outcome → State → Prop} {XC : String → State → State → Prop} {free : Addr → Prop} {Ts : List Cond} {own C : String} {b : Addr} {As rest : List Value} {g : JFrame}
theorem vx_callBack (cb : CallB R s args own index y bytes maxL ret ws rm mc ms n) (hM : vx_Met l y ws rm Pc Qc XC mc ms free) (hbl : FrameBlind Pc) : vx_Back l R p e below s args y 3 8 (PreOf R mc ms Pc) (PostOf Qc mc ms free) (vx_Post XC mc ms free) := by
  obtain ⟨hrc, hrs, hfr, hlo, hws, hcw, -, hini, -⟩ := cb
  exact vx_back (bytes := bytes) (maxL := maxL) (ret := ret) hM hbl hrc hrs hfr hlo hws hcw (fun a' U hW => word_at hW (Or.inl (by first | rfl | simp [Cond.onTables, Cond.keeps, Cond.steady])) hini)
theorem vx_runV (S : CallFix p m c cc nL s args Ts own) (hM : vx_Met l y ws rm Pc Qc XC mc ms free) (cw : CallW R s args own C index y bytes maxL ret ws rm mc ms n) (hp : PreV s H C b Pc As)
    (hg : g.method = m) (hn : As.length = n) (hsize : g.locals.size = nL) (hstack : g.stack = As.reverse ++ .ref b :: rest) (hW : 2 * g.monitorRoom + (rest.map fun v => v.category).sum ≤ 8) (hdg : decode cc g.pc = .ok (.invokevirtual index, 3)) (hf : cells + mc ≤ R.cells ∧ slots + ms ≤ R.slots) :
    vx_Run p l e R s m args below meth c H locs cells slots mc ms g rest (Qc (Value.ref b :: As).toArray) XC free := by
  have hK : vx_Back l R p e below s args y 3 8 (PreOf R mc ms Pc) (PostOf Qc mc ms free) (vx_Post XC mc ms free) := vx_callBack cw.1 hM hp.1
  obtain ⟨⟨-, -, -, -, -, -, hcode, -, hy, hlen, hl⟩, hin, hse⟩ := cw
  obtain ⟨hx, hb, hml, ho, -⟩ := S
  obtain ⟨-, ⟨cellB, hcB, hoB, hclB⟩, hPc⟩ := hp
  intro T hT X
  rcases vx_callV X hx (C := C) (bytes := bytes) (maxL := maxL) (ret := ret) ho hl hin hse hcode hy hK (by rw [hT]; exact hcB) hoB hclB hg (hsize.trans hml.symm) (argsL := As) (rest := rest) (fun sig h => hn.trans (hlen sig h)) hstack hW (by rw [hb]; exact hdg)
    (fun vm₁ hW₁ => ⟨hf.1, hf.2, hPc (T.setVm vm₁) hT hW₁⟩) with ⟨v, vm₁, ⟨U', l2, c2, s2⟩, hW₁, X', ⟨g', mk, t, L, e1, e2, hq, h1, hL, h2, h3⟩, st⟩ | ⟨q, vm₁, ⟨U', l2, c2, s2⟩, hW₁, X', ⟨g', mk, t, L, E, ce, e1, e2, hq, hce, hcv, hcl, h1, hL, h2, h3⟩, st⟩
  · dsimp only [Pt.U, Pt.locs, Pt.cells, Pt.slots] at X' e1 e2 h1 h2 h3 st
    subst h1; subst h2; subst h3
    exact Or.inl ⟨v, (T.setVm vm₁).calling g' mk (Value.ref b :: As).toArray, t, U', L, hT, X', hL, e1, e2, hq, st⟩
  · dsimp only [Pt.U, Pt.locs, Pt.cells, Pt.slots] at X' e1 e2 h1 h2 h3 st hcl
    subst h1; subst h2; subst h3
    exact Or.inr ⟨q, (T.setVm vm₁).calling g' mk (Value.ref b :: As).toArray, t, U', L, E, ce, hT, X', hL, e1, e2, hq, hce, hcv, vx_cls hW₁ hcl, st⟩
theorem vx_runS (S : CallFix p m c cc nL s args Ts own) (hM : vx_Met l y ws rm Pc Qc XC mc ms free) (cw : CallB R s args own index y bytes maxL ret ws rm mc ms n ∧ (Cond.static y).before args s = true) (hp : PreS s H Pc As)
    (hg : g.method = m) (hn : As.length = n) (hsize : g.locals.size = nL) (hstack : g.stack = As.reverse ++ rest) (hW : 2 * g.monitorRoom + (rest.map fun v => v.category).sum ≤ 8) (hdg : decode cc g.pc = .ok (.invokestatic index, 3)) (hf : cells + mc ≤ R.cells ∧ slots + ms ≤ R.slots) :
    vx_Run p l e R s m args below meth c H locs cells slots mc ms g rest (Qc As.toArray) XC free := by
  have hK : vx_Back l R p e below s args y 3 8 (PreOf R mc ms Pc) (PostOf Qc mc ms free) (vx_Post XC mc ms free) := vx_callBack cw.1 hM hp.1
  obtain ⟨⟨-, -, -, -, -, -, hcode, hini, hy, hlen, hl⟩, hstt⟩ := cw
  obtain ⟨hx, hb, hml, ho, -⟩ := S
  intro T hT X
  rcases vx_callS X hx (bytes := bytes) (maxL := maxL) (ret := ret) ho hl hstt hini hcode hy hK hg (hsize.trans hml.symm) (argsL := As) (rest := rest) (fun sig h => hn.trans (hlen sig h)) hstack hW (by rw [hb]; exact hdg)
    (fun vm₁ hW₁ => ⟨hf.1, hf.2, hp.2 (T.setVm vm₁) hT hW₁⟩) with ⟨v, vm₁, ⟨U', l2, c2, s2⟩, hW₁, X', ⟨g', mk, t, L, e1, e2, hq, h1, hL, h2, h3⟩, st⟩ | ⟨q, vm₁, ⟨U', l2, c2, s2⟩, hW₁, X', ⟨g', mk, t, L, E, ce, e1, e2, hq, hce, hcv, hcl, h1, hL, h2, h3⟩, st⟩
  · dsimp only [Pt.U, Pt.locs, Pt.cells, Pt.slots] at X' e1 e2 h1 h2 h3 st
    subst h1; subst h2; subst h3
    exact Or.inl ⟨v, (T.setVm vm₁).calling g' mk As.toArray, t, U', L, hT, X', hL, e1, e2, hq, st⟩
  · dsimp only [Pt.U, Pt.locs, Pt.cells, Pt.slots] at X' e1 e2 h1 h2 h3 st hcl
    subst h1; subst h2; subst h3
    exact Or.inr ⟨q, (T.setVm vm₁).calling g' mk As.toArray, t, U', L, E, ce, hT, X', hL, e1, e2, hq, hce, hcv, vx_cls hW₁ hcl, st⟩
end Runs
section Rows
variable {p : Program} {l : Launch} {e : Env} {R : Room} {s : State} {m : MethodId} {args : Array Value} {below : List Frame} {meth : Method} {c : Code} {H : Heap} {locs : List Loc} {cells slots : Nat} {Q : State → Prop}
variable {mc ms : Nat} {free : Addr → Prop} {A0 A1 : Nat → Prop} {H0 : Heap} {a : Array Value} {pc : Nat} {ls : Array Slot} {st0 rest : List Value}
theorem vx_keep {st₀ t T' : State} {L : List Loc} (h0 : st₀.heap = H) (e1 : T'.heap = t.heap) (hS : va_S A0 H0 H locs) (hA : ∀ q, q < H.size → A1 q → A0 q) (hf : ∀ q, free q → A0 q) (hL : ∀ q ∈ L, free q.base) (hF : va_F A1 st₀ t) :
    H.size ≤ T'.heap.size ∧ (∀ q : Nat, q < H.size → ¬ A1 q → T'.heap[q]? = H[q]?) ∧ va_S A0 H0 T'.heap (locs ++ L) := by
  obtain ⟨hz, hk⟩ := hF
  rw [h0] at hz hk
  exact ⟨by rw [e1]; exact hz, fun q h1 h2 => by rw [e1]; exact hk q h1 h2,
    ⟨Nat.le_trans hS.1 (by rw [e1]; exact hz), fun q h1 h2 => by rw [e1, hk q (Nat.lt_of_lt_of_le h1 hS.1) (fun z => h2 (hA q (Nat.lt_of_lt_of_le h1 hS.1) z))]; exact hS.2.1 q h1 h2, fun q hq => by
      rcases List.mem_append.mp hq with h | h
      · exact hS.2.2 q h
      · exact hf _ (hL q h)⟩⟩
theorem vx_calli {S SX : Type} {post : Int32 → S → Prop} {px : SX → Prop} {B : S → State → Prop} {BX : String → SX → State → Prop} {AX : Nat → Prop} (hr : vx_Run p l e R s m args below meth c H locs cells slots mc ms (F0 m pc ls st0) rest (va_Qi post B A1 a) (vx_X px BX AX) free) (hS : va_S A0 H0 H locs) (hA : ∀ q, q < H.size → A1 q → A0 q) (hf : ∀ q, free q → A0 q) (hAX : ∀ q, q < H.size → AX q → A0 q)
    (kx : ∀ (E : String) (ce : Cell) (q9 : Addr) (u : SX) (t : State) (H1 : Heap) (locs1 : List Loc), t.heap = H1 → s.vm.Alike t.vm → px u → BX E u t → H.size ≤ H1.size → (∀ q : Nat, q < H.size → ¬ AX q → H1[q]? = H[q]?) → va_S A0 H0 H1 locs1 → H1[q9]? = some ce → ce.vm = .none → s.vm.findClass E = some ce.cls → vx_W p l e R s m args below meth c H1 locs1 (cells + mc) (slots + ms) Q (F0 m pc ls rest) q9)
    (kk : ∀ (r : Int32) (u : S) (t : State) (H1 : Heap) (locs1 : List Loc), t.heap = H1 → s.vm.Alike t.vm → post r u → B u t → H.size ≤ H1.size → (∀ q : Nat, q < H.size → ¬ A1 q → H1[q]? = H[q]?) → va_S A0 H0 H1 locs1 → W p l e R s m args below meth c H1 locs1 (cells + mc) (slots + ms) Q (F0 m (pc + 3) ls (.int r :: rest))) : W p l e R s m args below meth c H locs cells slots Q (F0 m pc ls st0) := by
  intro T hT X
  rcases hr T hT X with ⟨v, st₀, t, T', L, h0, X', hL, e1, e2, ⟨⟨r, u, hv, hp, hb⟩, hF⟩, st⟩ | ⟨q, st₀, t, T', L, E, ce, h0, X', hL, e1, e2, ⟨u, hp, hb, hF⟩, hce, hcv, hcl, st⟩
  · cases hv
    obtain ⟨k1, k2, k3⟩ := vx_keep h0 e1 hS hA hf hL hF
    obtain ⟨t2, a1, b1⟩ := kk r u t T'.heap (locs ++ L) e1.symm (by rw [← e2]; exact X'.warmed.alike) hp hb k1 k2 k3 T' rfl X'
    exact ⟨t2, st t2 a1, b1⟩
  · obtain ⟨k1, k2, k3⟩ := vx_keep h0 e1 hS hAX hf hL hF
    obtain ⟨t2, a1, b1⟩ := kx E ce q u t T'.heap (locs ++ L) e1.symm (by rw [← e2]; exact X'.warmed.alike) hp hb k1 k2 k3 (by rw [e1]; exact hce) hcv hcl T' rfl X'
    exact ⟨t2, st.trans a1, b1⟩
theorem vx_calll {S SX : Type} {post : Int64 → S → Prop} {px : SX → Prop} {B : S → State → Prop} {BX : String → SX → State → Prop} {AX : Nat → Prop} (hr : vx_Run p l e R s m args below meth c H locs cells slots mc ms (F0 m pc ls st0) rest (va_Ql post B A1 a) (vx_X px BX AX) free) (hS : va_S A0 H0 H locs) (hA : ∀ q, q < H.size → A1 q → A0 q) (hf : ∀ q, free q → A0 q) (hAX : ∀ q, q < H.size → AX q → A0 q)
    (kx : ∀ (E : String) (ce : Cell) (q9 : Addr) (u : SX) (t : State) (H1 : Heap) (locs1 : List Loc), t.heap = H1 → s.vm.Alike t.vm → px u → BX E u t → H.size ≤ H1.size → (∀ q : Nat, q < H.size → ¬ AX q → H1[q]? = H[q]?) → va_S A0 H0 H1 locs1 → H1[q9]? = some ce → ce.vm = .none → s.vm.findClass E = some ce.cls → vx_W p l e R s m args below meth c H1 locs1 (cells + mc) (slots + ms) Q (F0 m pc ls rest) q9)
    (kk : ∀ (r : Int64) (u : S) (t : State) (H1 : Heap) (locs1 : List Loc), t.heap = H1 → s.vm.Alike t.vm → post r u → B u t → H.size ≤ H1.size → (∀ q : Nat, q < H.size → ¬ A1 q → H1[q]? = H[q]?) → va_S A0 H0 H1 locs1 → W p l e R s m args below meth c H1 locs1 (cells + mc) (slots + ms) Q (F0 m (pc + 3) ls (.long r :: rest))) : W p l e R s m args below meth c H locs cells slots Q (F0 m pc ls st0) := by
  intro T hT X
  rcases hr T hT X with ⟨v, st₀, t, T', L, h0, X', hL, e1, e2, ⟨⟨r, u, hv, hp, hb⟩, hF⟩, st⟩ | ⟨q, st₀, t, T', L, E, ce, h0, X', hL, e1, e2, ⟨u, hp, hb, hF⟩, hce, hcv, hcl, st⟩
  · cases hv
    obtain ⟨k1, k2, k3⟩ := vx_keep h0 e1 hS hA hf hL hF
    obtain ⟨t2, a1, b1⟩ := kk r u t T'.heap (locs ++ L) e1.symm (by rw [← e2]; exact X'.warmed.alike) hp hb k1 k2 k3 T' rfl X'
    exact ⟨t2, st t2 a1, b1⟩
  · obtain ⟨k1, k2, k3⟩ := vx_keep h0 e1 hS hAX hf hL hF
    obtain ⟨t2, a1, b1⟩ := kx E ce q u t T'.heap (locs ++ L) e1.symm (by rw [← e2]; exact X'.warmed.alike) hp hb k1 k2 k3 (by rw [e1]; exact hce) hcv hcl T' rfl X'
    exact ⟨t2, st.trans a1, b1⟩
theorem vx_callf {S SX : Type} {post : UInt32 → S → Prop} {px : SX → Prop} {B : S → State → Prop} {BX : String → SX → State → Prop} {AX : Nat → Prop} (hr : vx_Run p l e R s m args below meth c H locs cells slots mc ms (F0 m pc ls st0) rest (va_Qf post B A1 a) (vx_X px BX AX) free) (hS : va_S A0 H0 H locs) (hA : ∀ q, q < H.size → A1 q → A0 q) (hf : ∀ q, free q → A0 q) (hAX : ∀ q, q < H.size → AX q → A0 q)
    (kx : ∀ (E : String) (ce : Cell) (q9 : Addr) (u : SX) (t : State) (H1 : Heap) (locs1 : List Loc), t.heap = H1 → s.vm.Alike t.vm → px u → BX E u t → H.size ≤ H1.size → (∀ q : Nat, q < H.size → ¬ AX q → H1[q]? = H[q]?) → va_S A0 H0 H1 locs1 → H1[q9]? = some ce → ce.vm = .none → s.vm.findClass E = some ce.cls → vx_W p l e R s m args below meth c H1 locs1 (cells + mc) (slots + ms) Q (F0 m pc ls rest) q9)
    (kk : ∀ (r : UInt32) (u : S) (t : State) (H1 : Heap) (locs1 : List Loc), t.heap = H1 → s.vm.Alike t.vm → post r u → B u t → H.size ≤ H1.size → (∀ q : Nat, q < H.size → ¬ A1 q → H1[q]? = H[q]?) → va_S A0 H0 H1 locs1 → W p l e R s m args below meth c H1 locs1 (cells + mc) (slots + ms) Q (F0 m (pc + 3) ls (.float r :: rest))) : W p l e R s m args below meth c H locs cells slots Q (F0 m pc ls st0) := by
  intro T hT X
  rcases hr T hT X with ⟨v, st₀, t, T', L, h0, X', hL, e1, e2, ⟨⟨r, u, hv, hp, hb⟩, hF⟩, st⟩ | ⟨q, st₀, t, T', L, E, ce, h0, X', hL, e1, e2, ⟨u, hp, hb, hF⟩, hce, hcv, hcl, st⟩
  · cases hv
    obtain ⟨k1, k2, k3⟩ := vx_keep h0 e1 hS hA hf hL hF
    obtain ⟨t2, a1, b1⟩ := kk r u t T'.heap (locs ++ L) e1.symm (by rw [← e2]; exact X'.warmed.alike) hp hb k1 k2 k3 T' rfl X'
    exact ⟨t2, st t2 a1, b1⟩
  · obtain ⟨k1, k2, k3⟩ := vx_keep h0 e1 hS hAX hf hL hF
    obtain ⟨t2, a1, b1⟩ := kx E ce q u t T'.heap (locs ++ L) e1.symm (by rw [← e2]; exact X'.warmed.alike) hp hb k1 k2 k3 (by rw [e1]; exact hce) hcv hcl T' rfl X'
    exact ⟨t2, st.trans a1, b1⟩
theorem vx_calld {S SX : Type} {post : UInt64 → S → Prop} {px : SX → Prop} {B : S → State → Prop} {BX : String → SX → State → Prop} {AX : Nat → Prop} (hr : vx_Run p l e R s m args below meth c H locs cells slots mc ms (F0 m pc ls st0) rest (va_Qd post B A1 a) (vx_X px BX AX) free) (hS : va_S A0 H0 H locs) (hA : ∀ q, q < H.size → A1 q → A0 q) (hf : ∀ q, free q → A0 q) (hAX : ∀ q, q < H.size → AX q → A0 q)
    (kx : ∀ (E : String) (ce : Cell) (q9 : Addr) (u : SX) (t : State) (H1 : Heap) (locs1 : List Loc), t.heap = H1 → s.vm.Alike t.vm → px u → BX E u t → H.size ≤ H1.size → (∀ q : Nat, q < H.size → ¬ AX q → H1[q]? = H[q]?) → va_S A0 H0 H1 locs1 → H1[q9]? = some ce → ce.vm = .none → s.vm.findClass E = some ce.cls → vx_W p l e R s m args below meth c H1 locs1 (cells + mc) (slots + ms) Q (F0 m pc ls rest) q9)
    (kk : ∀ (r : UInt64) (u : S) (t : State) (H1 : Heap) (locs1 : List Loc), t.heap = H1 → s.vm.Alike t.vm → post r u → B u t → H.size ≤ H1.size → (∀ q : Nat, q < H.size → ¬ A1 q → H1[q]? = H[q]?) → va_S A0 H0 H1 locs1 → W p l e R s m args below meth c H1 locs1 (cells + mc) (slots + ms) Q (F0 m (pc + 3) ls (.double r :: rest))) : W p l e R s m args below meth c H locs cells slots Q (F0 m pc ls st0) := by
  intro T hT X
  rcases hr T hT X with ⟨v, st₀, t, T', L, h0, X', hL, e1, e2, ⟨⟨r, u, hv, hp, hb⟩, hF⟩, st⟩ | ⟨q, st₀, t, T', L, E, ce, h0, X', hL, e1, e2, ⟨u, hp, hb, hF⟩, hce, hcv, hcl, st⟩
  · cases hv
    obtain ⟨k1, k2, k3⟩ := vx_keep h0 e1 hS hA hf hL hF
    obtain ⟨t2, a1, b1⟩ := kk r u t T'.heap (locs ++ L) e1.symm (by rw [← e2]; exact X'.warmed.alike) hp hb k1 k2 k3 T' rfl X'
    exact ⟨t2, st t2 a1, b1⟩
  · obtain ⟨k1, k2, k3⟩ := vx_keep h0 e1 hS hAX hf hL hF
    obtain ⟨t2, a1, b1⟩ := kx E ce q u t T'.heap (locs ++ L) e1.symm (by rw [← e2]; exact X'.warmed.alike) hp hb k1 k2 k3 (by rw [e1]; exact hce) hcv hcl T' rfl X'
    exact ⟨t2, st.trans a1, b1⟩
theorem vx_callv {S SX : Type} {post : S → Prop} {px : SX → Prop} {B : S → State → Prop} {BX : String → SX → State → Prop} {AX : Nat → Prop} (hr : vx_Run p l e R s m args below meth c H locs cells slots mc ms (F0 m pc ls st0) rest (va_Qv post B A1 a) (vx_X px BX AX) free) (hS : va_S A0 H0 H locs) (hA : ∀ q, q < H.size → A1 q → A0 q) (hf : ∀ q, free q → A0 q) (hAX : ∀ q, q < H.size → AX q → A0 q)
    (kx : ∀ (E : String) (ce : Cell) (q9 : Addr) (u : SX) (t : State) (H1 : Heap) (locs1 : List Loc), t.heap = H1 → s.vm.Alike t.vm → px u → BX E u t → H.size ≤ H1.size → (∀ q : Nat, q < H.size → ¬ AX q → H1[q]? = H[q]?) → va_S A0 H0 H1 locs1 → H1[q9]? = some ce → ce.vm = .none → s.vm.findClass E = some ce.cls → vx_W p l e R s m args below meth c H1 locs1 (cells + mc) (slots + ms) Q (F0 m pc ls rest) q9)
    (kk : ∀ (u : S) (t : State) (H1 : Heap) (locs1 : List Loc), t.heap = H1 → s.vm.Alike t.vm → post u → B u t → H.size ≤ H1.size → (∀ q : Nat, q < H.size → ¬ A1 q → H1[q]? = H[q]?) → va_S A0 H0 H1 locs1 → W p l e R s m args below meth c H1 locs1 (cells + mc) (slots + ms) Q (F0 m (pc + 3) ls (rest))) : W p l e R s m args below meth c H locs cells slots Q (F0 m pc ls st0) := by
  intro T hT X
  rcases hr T hT X with ⟨v, st₀, t, T', L, h0, X', hL, e1, e2, ⟨⟨u, hv, hp, hb⟩, hF⟩, st⟩ | ⟨q, st₀, t, T', L, E, ce, h0, X', hL, e1, e2, ⟨u, hp, hb, hF⟩, hce, hcv, hcl, st⟩
  · cases hv
    obtain ⟨k1, k2, k3⟩ := vx_keep h0 e1 hS hA hf hL hF
    obtain ⟨t2, a1, b1⟩ := kk u t T'.heap (locs ++ L) e1.symm (by rw [← e2]; exact X'.warmed.alike) hp hb k1 k2 k3 T' rfl X'
    exact ⟨t2, st t2 a1, b1⟩
  · obtain ⟨k1, k2, k3⟩ := vx_keep h0 e1 hS hAX hf hL hF
    obtain ⟨t2, a1, b1⟩ := kx E ce q u t T'.heap (locs ++ L) e1.symm (by rw [← e2]; exact X'.warmed.alike) hp hb k1 k2 k3 (by rw [e1]; exact hce) hcv hcl T' rfl X'
    exact ⟨t2, st.trans a1, b1⟩
/-- caught by the row x of this method's table; the rows ahead don't take it -/
theorem vx_catch {own name : String} {E : String} {ce : Cell} {q : Addr} (hown : s.vm.findClass own = some m.cls) (pre : List ExceptionTableEntry) (x : ExceptionTableEntry) (suf : List ExceptionTableEntry) (hsplit : c.exceptionTable.toList = pre ++ x :: suf)
    (hpass : ∀ z ∈ pre, covers z pc = false ∨ (z.catchType ≠ 0 ∧ ∃ nm : String, (Cond.classLink own z.catchType nm).before args s = true ∧ va_Nc E nm s)) (hx : covers x pc = true) (h0 : x.catchType ≠ 0)
    (hlink : (Cond.classLink own x.catchType name).before args s = true) (hcast : (Cond.castable E name).before args s = true) (hcell : H[q]? = some ce) (hv : ce.vm = .none) (hcl : s.vm.findClass E = some ce.cls)
    (kk : W p l e R s m args below meth c H locs cells slots Q (F0 m x.handlerPc ls [.ref q])) : vx_W p l e R s m args below meth c H locs cells slots Q (F0 m pc ls rest) q := by
  intro T hT X
  have hpl : e.platform.magicAccessors = ({} : Platform).magicAccessors := by rw [X.admits.platform]
  obtain ⟨c3, c4, hc3, hc4, hasg⟩ := Cond.castable_spec hcast
  cases Option.some.inj (hc3.symm.trans hcl)
  obtain ⟨c5, hc5, hcl5⟩ := Cond.classLink_spec hown hlink e.platform hpl
  cases Option.some.inj (hc4.symm.trans hc5)
  obtain ⟨vm', X', st⟩ := X.thenCaughtThrough q (g := F0 m pc ls rest) rfl (Steps.refl _) (by rw [hT]; exact hcell) (by rw [hv]; rfl) (by obtain ⟨k9, h9, -⟩ := Vm.findClass_spec hcl; exact ⟨k9, h9⟩) pre x suf hsplit
    (fun z hz => by
      rcases hpass z hz with h | ⟨hz0, nm, hl1, hn1⟩
      · exact Or.inl h
      · obtain ⟨c6, hc6, hcl6⟩ := Cond.classLink_spec hown hl1 e.platform hpl
        obtain ⟨a8, b8, h1, h2, h3⟩ := hn1
        cases Option.some.inj (h1.symm.trans hcl)
        cases Option.some.inj (h2.symm.trans hc6)
        exact Or.inr ⟨hz0, _, hcl6, h3⟩) hx (Or.inr ⟨h0, c4, hcl5, hasg⟩)
  obtain ⟨t, a1, b1⟩ := kk (T.setVm vm') hT X'
  exact ⟨t, st.trans a1, b1⟩
end Rows
section Ends
variable {p : Program} {l : Launch} {e : Env} {R : Room} {s : State} {m : MethodId} {args : Array Value} {below : List Frame} {meth : Method} {c : Code} {H : Heap} {locs : List Loc} {cells slots : Nat} {Q : State → Prop}
variable {mc ms : Nat} {free : Addr → Prop} {A0 A1 : Nat → Prop} {H0 : Heap} {a : Array Value} {ls : Array Slot} {st0 rest : List Value}
variable {Qc : Array Value → State → Outcome → State → Prop} {XC : String → State → State → Prop}
/-- what a body that may throw owes at its end -/
def vx_MQ (below : List Frame) (Qc : Array Value → State → Outcome → State → Prop) (XC : String → State → State → Prop) (a : Array Value) (s : State) (mc ms : Nat) (free : Addr → Prop) : State → Prop := fun t =>
  ∃ o, t.status = .running ∧ Ended t below o ∧ vx_Q Qc XC mc ms free a s o t
theorem vx_ret {g : JFrame} {mc ms : Nat} (k : W p l e R s m args below meth c H locs cells slots (MQ below Qc args s mc ms free) g) : W p l e R s m args below meth c H locs cells slots (vx_MQ below Qc XC args s mc ms free) g := by
  intro T hT X
  obtain ⟨t, a1, o, b1, b2, b3, b4⟩ := k T hT X
  exact ⟨t, a1, o, b1, b2, Or.inl ⟨b3, b4⟩⟩
/-- not caught here: it goes on to the caller -/
theorem vx_widen {g : JFrame} {q : Addr} {k n : Nat} (h1 : cells ≤ k) (h2 : slots ≤ n) (kk : vx_W p l e R s m args below meth c H locs k n Q g q) : vx_W p l e R s m args below meth c H locs cells slots Q g q := fun T hT X => kk T hT (stand_widen X h1 h2)
theorem vx_out {pc : Nat} {E : String} {ce : Cell} {q : Addr} {mc ms : Nat} (hout : ∀ x ∈ c.exceptionTable.toList, covers x pc = false) (hlocks : meth.locks = false) (hcell : H[q]? = some ce) (hv : ce.vm = .none) (hcl : s.vm.findClass E = some ce.cls)
    (hx : ∀ t : State, t.heap = H → s.vm.Alike t.vm → XC E s t) (hf : ∀ z ∈ locs, free z.base) (hc : cells ≤ mc) (hs : slots ≤ ms) :
    vx_W p l e R s m args below meth c H locs cells slots (vx_MQ below Qc XC args s mc ms free) (F0 m pc ls rest) q := by
  intro T hT X
  obtain ⟨st1, hrun, hend, hW, hsm⟩ := X.leaveThrown q (g := F0 m pc ls rest) rfl rfl rfl hout hlocks
  have hcell9 : (T.setFrames (.throwing q :: below)).heap[q]? = some ce := by
    show T.heap[q]? = some ce
    rw [hT]; exact hcell
  exact ⟨_, st1, .threw q, hrun, hend, Or.inr ⟨q, rfl, E, ce, locs, hx _ hT hW.alike, hcell9, hv, hcl, hW, hsm.mono hc hs, hf⟩⟩
theorem vx_frame {U : State} {k n : Nat} (h : s.sameButNew ({ U with vm := s.vm } : State) locs k n) : s.heap.size ≤ U.heap.size ∧ ∀ q : Nat, q < s.heap.size → (∀ z ∈ locs, z.base ≠ q) → U.heap[q]? = s.heap[q]? := by
  obtain ⟨-, h2, -, -, -, h6⟩ := h
  refine ⟨h2, fun q hq hz => ?_⟩
  obtain ⟨c9, e1, e2, e3, e4⟩ := h6 q _ (Array.getElem?_eq_getElem hq)
  have hs : c9.slots = (s.heap[q]).slots := Array.ext_getElem? fun i => e4 i fun hm => hz _ hm rfl
  have h9 : c9 = s.heap[q] := by
    rw [hs] at e2
    exact e2
  have e5 : U.heap[q]? = some c9 := e1
  rw [e5, h9, Array.getElem?_eq_getElem hq]
/-- the words of a throw but the four that speak of the heap -/
def vx_no (w : Cond) : Bool := decide (w ≠ .isRef (.static Bundle.tN "UNASSIGNED_STACK" Bundle.steD)) && decide (w ≠ .isRef (.static Bundle.tN "SUPPRESSED_SENTINEL" Bundle.listD)) && decide (w ≠ .laysStatic Bundle.tN "UNASSIGNED_STACK" Bundle.steD) && decide (w ≠ .laysStatic Bundle.tN "SUPPRESSED_SENTINEL" Bundle.listD)
def vx_at0 (own : String) (ic : Nat) (X : String) (names : List String) : List Cond := (Bundle.ownAtoms0 own ic X names).filter vx_no
def vx_atS (own : String) (ic : Nat) (X : String) (names : List String) : List Cond := (Bundle.ownAtoms own ic X names).filter vx_no
/-- a word that the tables alone decide, or a good one -/
def vx_ot (w : Cond) : Bool := w.onTables || goodWord w
theorem vx_ot_at {args a' : Array Value} {s U : State} {w : Cond} (hW : s.WarmedH U.vm) (hvm : s.vm = U.vm) (hg : vx_ot w = true) (h : w.before args s = true) : w.before a' U = true := by
  simp only [vx_ot, Bool.or_eq_true] at hg
  rcases hg with hg | hg
  · exact va_tabs hg hvm h
  · exact word_at hW (good_of_word hg) h
/-- a list's words: the good ones out of the method's own list, the others by premises of their own -/
theorem vx_hat {args : Array Value} {s : State} {L B : List Cond} (h1 : ∀ w ∈ L.filter goodWord, w.before args s = true) (h2 : ∀ w ∈ L.filter (fun w => !goodWord w), w ∈ B) (h3 : ∀ w ∈ B, w.before args s = true) : ∀ w ∈ L, w.before args s = true := by
  intro w hw
  by_cases g : goodWord w = true
  · exact h1 w (List.mem_filter.mpr ⟨hw, g⟩)
  · refine h3 w (h2 w (List.mem_filter.mpr ⟨hw, ?_⟩))
    show (!goodWord w) = true
    cases hgw : goodWord w
    · rfl
    · exact absurd hgw g
theorem vx_c {args : Array Value} {s : State} {w : Cond} {B : List Cond} (h : w.before args s = true) (t : ∀ w ∈ B, w.before args s = true) : ∀ w' ∈ w :: B, w'.before args s = true := fun w' h' => (List.mem_cons.mp h').elim (fun e => by rw [e]; exact h) (t w')
theorem vx_n {args : Array Value} {s : State} : ∀ w ∈ ([] : List Cond), w.before args s = true := fun _ h => nomatch h
theorem vx_own {args : Array Value} {s : State} {L : List Cond} (h1 : ∀ w ∈ L.filter vx_no, w.before args s = true)
    (hU : (Cond.isRef (.static Bundle.tN "UNASSIGNED_STACK" Bundle.steD)).before args s = true) (hN : (Cond.isRef (.static Bundle.tN "SUPPRESSED_SENTINEL" Bundle.listD)).before args s = true)
    (lU : (Cond.laysStatic Bundle.tN "UNASSIGNED_STACK" Bundle.steD).before args s = true) (lN : (Cond.laysStatic Bundle.tN "SUPPRESSED_SENTINEL" Bundle.listD).before args s = true) : ∀ w ∈ L, w.before args s = true := by
  intro w hw
  by_cases e1 : w = .isRef (.static Bundle.tN "UNASSIGNED_STACK" Bundle.steD)
  · rw [e1]; exact hU
  · by_cases e2 : w = .isRef (.static Bundle.tN "SUPPRESSED_SENTINEL" Bundle.listD)
    · rw [e2]; exact hN
    · by_cases e3 : w = .laysStatic Bundle.tN "UNASSIGNED_STACK" Bundle.steD
      · rw [e3]; exact lU
      · by_cases e4 : w = .laysStatic Bundle.tN "SUPPRESSED_SENTINEL" Bundle.listD
        · rw [e4]; exact lN
        · exact h1 w (List.mem_filter.mpr ⟨hw, by unfold vx_no; rw [decide_eq_true e1, decide_eq_true e2, decide_eq_true e3, decide_eq_true e4]; rfl⟩)
/-- where a static field lies, its class's statics cell in H -/
def vx_L (C n d : String) (A : Nat → Prop) (U : State) (H : Heap) : Prop := ∃ (c : ClassId) (k : Class) (i : Nat) (f : Field) (a : Nat) (cell : Cell), U.vm.findClass C = some c ∧ U.fieldFound? C n d = some (c, k, i, f) ∧ f.isStatic = true ∧ k.statics = some a ∧ H[a]? = some cell ∧ cell.vm.isStatics = true ∧ cell.cls = c ∧ f.slot < cell.slots.size ∧ k.staticTypes[f.slot]? = some f.type ∧ ¬ A a
theorem vx_L.moved {C n d : String} {A : Nat → Prop} {u U : State} {H : Heap} (hvm : u.vm.Alike U.vm) (h : vx_L C n d A u H) : vx_L C n d A U H := by
  obtain ⟨c, k, i, f, a, cell, h1, h2, h3, h4, h5, h6, h7, h8, h9, h10⟩ := h
  obtain ⟨k', hi', he⟩ := State.fieldFound?_setVm hvm h2
  exact ⟨c, k', i, f, a, cell, by rw [hvm.findClass]; exact h1, hi', h3, by rw [he]; exact h4, h5, h6, h7, h8, by rw [he]; exact h9, h10⟩
theorem vx_L.kept {C n d : String} {A : Nat → Prop} {U : State} {H H1 : Heap} (h : vx_L C n d A U H) (hq : ∀ a : Nat, a < H.size → ¬ A a → H1[a]? = H[a]?) : vx_L C n d A U H1 := by
  obtain ⟨c, k, i, f, a, cell, h1, h2, h3, h4, h5, h6, h7, h8, h9, h10⟩ := h
  exact ⟨c, k, i, f, a, cell, h1, h2, h3, h4, by rw [hq a (Array.getElem?_eq_some_iff.mp h5).1 h10]; exact h5, h6, h7, h8, h9, h10⟩
theorem vx_L.narrow {C n d : String} {A B : Nat → Prop} {U : State} {H : Heap} (h : vx_L C n d A U H) (hAB : ∀ q, B q → A q) : vx_L C n d B U H := by
  obtain ⟨c, k, i, f, a, cell, h1, h2, h3, h4, h5, h6, h7, h8, h9, h10⟩ := h
  exact ⟨c, k, i, f, a, cell, h1, h2, h3, h4, h5, h6, h7, h8, h9, fun z => h10 (hAB _ z)⟩
theorem vx_L.word {C n d : String} {A : Nat → Prop} {s : State} {args : Array Value} (h : vx_L C n d A s s.heap) : (Cond.laysStatic C n d).before args s = true := by
  obtain ⟨c, k, i, f, a, cell, h1, h2, h3, h4, h5, h6, h7, h8, h9, -⟩ := h
  show (Cond.laysStatic C n d).holds args s none s [] = true
  exact Cond.laysStatic_of h1 h2 h3 h4 h5 h6 h7 h8 h9
/-- .. and what it holds: null or some reference -/
def vx_Zq (C n d : String) (A : Nat → Prop) (U : State) (H : Heap) : Prop := va_Zq C n d A U H ∧ vx_L C n d A U H
theorem vx_Zq.moved {C n d : String} {A : Nat → Prop} {u U : State} {H : Heap} (hvm : u.vm.Alike U.vm) (h : vx_Zq C n d A u H) : vx_Zq C n d A U H := ⟨va_Zq.moved hvm h.1, vx_L.moved hvm h.2⟩
theorem vx_Zq.kept {C n d : String} {A : Nat → Prop} {U : State} {H H1 : Heap} (h : vx_Zq C n d A U H) (hq : ∀ a : Nat, a < H.size → ¬ A a → H1[a]? = H[a]?) : vx_Zq C n d A U H1 := ⟨va_Zq.kept h.1 hq, vx_L.kept h.2 hq⟩
theorem vx_Zq.narrow {C n d : String} {A B : Nat → Prop} {U : State} {H : Heap} (h : vx_Zq C n d A U H) (hAB : ∀ q, B q → A q) : vx_Zq C n d B U H := ⟨va_Zq.narrow h.1 hAB, vx_L.narrow h.2 hAB⟩
theorem vx_Zqof {args : Array Value} {s : State} {C n d : String} {A : Nat → Prop} (hl : (Cond.laysStatic C n d).before args s = true) (hini : (Cond.initialized C).before args s = true) (h : (Cond.isRef (.static C n d)).before args s = true) (hA : ∀ a : Nat, a < s.heap.size → ¬ A a) : vx_Zq C n d A s s.heap := by
  refine ⟨va_Zqof hl hini h hA, ?_⟩
  obtain ⟨c, k, i, f, a, cell, h1, h2, h3, h4, h5, h6, h7, h8, h9⟩ := Cond.laysStatic_spec hl
  exact ⟨c, k, i, f, a, cell, h1, h2, h3, h4, h5, h6, h7, h8, h9, hA a (Array.getElem?_eq_some_iff.mp h5).1⟩
theorem vx_isRef {C n d : String} {v : Value} {A : Nat → Prop} {s : State} {args : Array Value} (h : va_Z C n d v A s s.heap) (hv : v.isRef = true) : (Cond.isRef (.static C n d)).before args s = true := by
  obtain ⟨cf, kf, fi, f, a, cell, h1, h2, h3, h4, h5, h6, h7, -⟩ := h
  have he : (Term.static C n d).eval args s none [] s = some v := by
    simp [Term.eval, State.fieldNamed?, h1, h2, h4, h5, h6, h7]
  simp only [Cond.before, Cond.holds, Cond.value, he]
  cases v <;> simp_all [Value.isRef]
theorem vx_isRefq {C n d : String} {A : Nat → Prop} {s : State} {args : Array Value} (h : va_Zq C n d A s s.heap) : (Cond.isRef (.static C n d)).before args s = true := by
  rcases h with h | ⟨t, h⟩
  · exact vx_isRef h rfl
  · exact vx_isRef h rfl
/-- the same frame, seen from here: as if the method were called anew in this heap -/
theorem vx_rebase {T : State} (X : Stand p l e R s m args below meth c T locs cells slots) {R' : Room} (hf : R'.frames ≤ R.frames) (hl : R'.locals ≤ R.locals) (hc : cells + R'.cells ≤ R.cells) (hs : slots + R'.slots ≤ R.slots) :
    Stand p l e R' ((T.setVm s.vm).setFrames (.invoking m args :: below)) m args below meth c T [] 0 0 := by
  have htop : (T.setVm s.vm).topJava?.isSome := X.here.top
  have hF : ((T.setVm s.vm).setFrames (.invoking m args :: below)).frames = .invoking m args :: below := State.frames_setFrames _ (State.cur_lt_of_top htop)
  obtain ⟨g₀, hg0⟩ := Option.isSome_iff_exists.mp htop
  obtain ⟨r, hr⟩ := State.topJava?_eq_some.mp hg0
  have hl9 : e.platform.stackLimits (T.setVm s.vm).me = e.platform.stackLimits s.me := X.limits
  have hb9 : (T.setVm s.vm).me.stackBytes = s.me.stackBytes := X.bytes
  refine ⟨X.admits, X.cas, X.clock, hF, ?_, X.hears, X.method, X.code, X.here, X.tail, X.warmed, ?_, ?_, ?_⟩
  · have h := X.room
    have hU : ((T.setVm s.vm).setFrames (.invoking m args :: below)).localsInUse = s.localsInUse := by
      rw [State.localsInUse_invoking hF (meth := meth) (c := c) X.method X.code, State.localsInUse_invoking X.frames X.method X.code]
    simp only [State.hasRoom, Bool.and_eq_true, decide_eq_true_eq] at h ⊢
    obtain ⟨⟨⟨⟨h1, h2, h3, h4, h5, h6⟩, h7⟩, h8⟩, h9⟩ := h
    rw [X.frames, List.length_cons] at h2 h3
    have q1 := X.heapSize
    have q2 := X.used
    simp only [hF, hU, List.length_cons, State.stackLimits_setFrames, State.stackBytes_setFrames, hl9, hb9]
    refine ⟨⟨⟨⟨by omega, by omega, by omega, by omega, by omega, h6⟩, ?_⟩, ?_⟩, X.book⟩
    · show T.heap.size + R'.cells ≤ e.platform.maxCells
      omega
    · show T.slotsUsed + R'.slots ≤ e.platform.maxSlots
      omega
  · rw [State.stackLimits_setFrames]; rfl
  · rw [State.stackBytes_setFrames]; rfl
  · refine ⟨?_, Nat.le_refl _, Nat.le_refl _, ?_, ?_, fun a c9 h9 => ⟨c9, h9, rfl, rfl, fun _ _ => rfl⟩⟩
    · obtain ⟨t, ht, -⟩ := State.frames_cons hr
      show T.setVm s.vm = { ((T.setVm s.vm).setFrames (.invoking m args :: below)).setFrames (T.setVm s.vm).frames with heap := T.heap, slotsUsed := T.slotsUsed }
      rw [State.setFrames_setFrames, State.setFrames_self ht]
      rfl
    · show T.slotsUsed = T.slotsUsed + ((T.heap.toList.drop T.heap.size).map (·.slots.size)).sum
      rw [List.drop_eq_nil_of_le (Nat.le_of_eq Array.length_toList)]
      rfl
    · show ((T.heap.toList.drop T.heap.size).map (·.slots.size)).sum ≤ 0
      rw [List.drop_eq_nil_of_le (Nat.le_of_eq Array.length_toList)]
      exact Nat.le_refl _
/-- 'throw new E()': new; dup; invokespecial; athrow -/
theorem vx_throw0 {cc : ByteArray} {pc : Nat} (hexec : p.tables.exec = Jvm.exec) (hb : c.code = cc) (hl : l.stackTraces = false) {own cls : String} {names : List String} {ik ic mc ms : Nat} {A : Nat → Prop}
    (hown : s.vm.findClass own = some m.cls) (hcls : Bundle.fit cls = true) (hnames : ∀ n ∈ names, Bundle.fit n = true)
    (hk : (Cond.classLink own ik cls).before args s = true) (hini : (Cond.initialized cls).before args s = true) (hat : ∀ w ∈ vx_at0 own ic cls names, w.before args s = true)
    (hgood : ∀ w ∈ Cond.classLink own ik cls :: Cond.initialized cls :: vx_at0 own ic cls names, vx_ot w = true)
    (hU : vx_Zq Bundle.tN "UNASSIGNED_STACK" Bundle.steD A s s.heap) (hN : vx_Zq Bundle.tN "SUPPRESSED_SENTINEL" Bundle.listD A s s.heap) (hS : va_S A s.heap H locs) (hsize : ls.size = c.maxLocals)
    (d0 : decode cc pc = .ok (.new ik, 3)) (d3 : decode cc (pc + 3) = .ok (.dup, 1)) (d4 : decode cc (pc + 4) = .ok (.invokespecial ic, 3)) (d7 : decode cc (pc + 7) = .ok (.athrow, 1))
    (hout : ∀ x ∈ c.exceptionTable.toList, covers x (pc + 7) = false)
    (hRframes : names.length + 3 < R.frames) (hRlocals : (rest.map fun v => v.category).sum + (13 * (names.length + 1) + 42) ≤ R.locals) (hRcells : cells + 1 ≤ R.cells) (hRslots : slots + 6 ≤ R.slots) (hlocks : meth.locks = false)
    (hx : ∀ t : State, s.vm.Alike t.vm → H.size ≤ t.heap.size → (∀ q : Nat, q < H.size → t.heap[q]? = H[q]?) → XC cls s t)
    (hf : ∀ z ∈ locs, free z.base) (hc : cells + 1 ≤ mc) (hs : slots + 6 ≤ ms) :
    W p l e R s m args below meth c H locs cells slots (vx_MQ below Qc XC args s mc ms free) (F0 m pc ls rest) := by
  intro T hT X
  have htr : e.platform.stackTraces = false := (show e.platform.stackTraces = l.stackTraces by rw [X.admits.platform]).trans hl
  have Y := vx_rebase X (R' := { frames := R.frames, locals := R.locals, cells := 1, slots := 6 }) (Nat.le_refl _) (Nat.le_refl _) hRcells hRslots
  obtain ⟨s', hA⟩ : ∃ z, z = (T.setVm s.vm).setFrames (.invoking m args :: below) := ⟨_, rfl⟩
  rw [← hA] at Y
  have hvm : s'.vm = s.vm := by rw [hA]; rfl
  have hhp : s'.heap = H := by rw [hA]; exact hT
  have hW0 : s.WarmedH s'.vm := by rw [hvm]; exact State.WarmedH.refl s
  have hat' : ∀ w ∈ vx_at0 own ic cls names, w.before args s' = true := fun w hw => vx_ot_at hW0 hvm.symm (hgood w (List.mem_cons_of_mem _ (List.mem_cons_of_mem _ hw))) (hat w hw)
  have hk' : (Cond.classLink own ik cls).before args s' = true := vx_ot_at hW0 hvm.symm (hgood _ List.mem_cons_self) hk
  have hini' : (Cond.initialized cls).before args s' = true := vx_ot_at hW0 hvm.symm (hgood _ (List.mem_cons_of_mem _ List.mem_cons_self)) hini
  have hU' : vx_Zq Bundle.tN "UNASSIGNED_STACK" Bundle.steD A s' s'.heap := by rw [hhp]; exact vx_Zq.moved hW0.alike (hU.kept hS.2.1)
  have hN' : vx_Zq Bundle.tN "SUPPRESSED_SENTINEL" Bundle.listD A s' s'.heap := by rw [hhp]; exact vx_Zq.moved hW0.alike (hN.kept hS.2.1)
  have h : ∀ w ∈ Bundle.ownAtoms0 own ic cls names, w.before args s' = true := vx_own hat' (vx_isRefq hU'.1) (vx_isRefq hN'.1) hU'.2.word hN'.2.word
  have hown' : s'.vm.findClass own = some m.cls := by rw [hvm]; exact hown
  have hins : (Cond.instantiable cls 6).before args s' = true := h _ (by simp [Bundle.ownAtoms0])
  obtain ⟨vm₁, cX, kX, hfX, hkX, -, -, X₁, st1⟩ := Y.newCold hexec (own := own) (C := cls) (index := ik) (n := 6) hown' hk' hins hini'
    (g := F0 m pc ls rest) rfl (by rw [hb]; exact d0) (Nat.le_refl _) (Nat.le_refl _)
  generalize hT1 : (T.setVm vm₁).pushCell { cls := cX, slots := kX.instanceTypes.map defaultValue, vm := .none } = T1 at X₁ st1
  have hcat : (Value.ref T.heap.size).category = 1 := rfl
  have hcellA : T1.heap[T.heap.size]? = some (freshCell cX kX) := by rw [← hT1]; exact State.heap_pushCell_size _ _
  have d3' : decode c.code (pc + 3) = .ok (.dup, 1) := by rw [hb]; exact d3
  obtain ⟨U, hsteps, hrun, hend, hW, hsame, ce, hce, hO⟩ := X₁.ctorThrow0 hexec htr (own := own) (cls := cls) (names := names) (ic := ic) hown' hcls hnames h (fun x hx => nomatch hx) hfX hkX hcellA (by rw [hhp, hT]; exact Nat.le_refl _)
    (g := { method := m, pc := pc + 4, locals := ls, stack := .ref T.heap.size :: .ref T.heap.size :: rest, locked := none }) rfl hsize rfl rfl (rest := rest) rfl
    (by rw [hb]; exact d4) (by rw [hb]; exact d7) hout hRframes (by simp only [List.map_cons, List.sum_cons, hcat]; omega) hlocks
  obtain ⟨f1, f2⟩ := vx_frame hsame
  rw [hhp] at f1 f2
  have hWs : s.WarmedH U.vm := State.WarmedH.trans hW0 hW
  have hcl : s.vm.findClass cls = some ce.cls := by
    have h9 := hO.cls
    rw [hvm] at h9
    exact h9
  have hall : s.sameButNew ({ U with vm := s.vm } : State) locs mc ms := by
    subst hA
    obtain ⟨e1, e2⟩ := hsame
    rw [State.setFrames_setFrames] at e1
    have h2 : (T.setVm s.vm).sameButNew ({ U with vm := s.vm } : State) [] (0 + 1) (0 + 6) := ⟨e1, e2⟩
    have h3 := X.same.trans h2
    rw [List.append_nil] at h3
    exact h3.mono hc hs
  refine ⟨U, ?_, .threw T.heap.size, hrun, hend, Or.inr ⟨T.heap.size, rfl, cls, ce, locs, hx U hWs.alike f1 (fun q hq => f2 q hq (fun z hz => nomatch hz)), hce, hO.vm, hcl, hWs, hall, hf⟩⟩
  refine st1 _ ?_
  show Steps p.tables e below (T1.setTop { method := m, pc := pc + 3, locals := ls, stack := .ref T.heap.size :: rest, locked := none }) _
  jvm_step X₁.here [X₁.here.top, hexec, d3', Value.category]
  exact hsteps
/-- 'throw new E("text")': new; dup; ldc; invokespecial; athrow -/
theorem vx_throwS {cc : ByteArray} {pc : Nat} (hexec : p.tables.exec = Jvm.exec) (hb : c.code = cc) (hl : l.stackTraces = false) {own cls text : String} {names : List String} {ik is ic mc ms sa : Nat} {A : Nat → Prop}
    (hown : s.vm.findClass own = some m.cls) (hcls : Bundle.fit cls = true) (hnames : ∀ n ∈ names, Bundle.fit n = true)
    (hk : (Cond.classLink own ik cls).before args s = true) (hini : (Cond.initialized cls).before args s = true) (hstr : vk_R own is text sa s) (hat : ∀ w ∈ vx_atS own ic cls names, w.before args s = true)
    (hgood : ∀ w ∈ Cond.classLink own ik cls :: Cond.initialized cls :: vx_atS own ic cls names, vx_ot w = true)
    (hU : vx_Zq Bundle.tN "UNASSIGNED_STACK" Bundle.steD A s s.heap) (hN : vx_Zq Bundle.tN "SUPPRESSED_SENTINEL" Bundle.listD A s s.heap) (hS : va_S A s.heap H locs) (hsize : ls.size = c.maxLocals)
    (d0 : decode cc pc = .ok (.new ik, 3)) (d3 : decode cc (pc + 3) = .ok (.dup, 1)) (d4 : decode cc (pc + 4) = .ok (.ldc is, 2)) (d6 : decode cc (pc + 6) = .ok (.invokespecial ic, 3)) (d9 : decode cc (pc + 9) = .ok (.athrow, 1))
    (hout : ∀ x ∈ c.exceptionTable.toList, covers x (pc + 9) = false)
    (hRframes : names.length + 3 < R.frames) (hRlocals : (rest.map fun v => v.category).sum + (13 * (names.length + 1) + 43) ≤ R.locals) (hRcells : cells + 1 ≤ R.cells) (hRslots : slots + 6 ≤ R.slots) (hlocks : meth.locks = false)
    (hx : ∀ t : State, s.vm.Alike t.vm → H.size ≤ t.heap.size → (∀ q : Nat, q < H.size → t.heap[q]? = H[q]?) → XC cls s t)
    (hf : ∀ z ∈ locs, free z.base) (hc : cells + 1 ≤ mc) (hs : slots + 6 ≤ ms) :
    W p l e R s m args below meth c H locs cells slots (vx_MQ below Qc XC args s mc ms free) (F0 m pc ls rest) := by
  intro T hT X
  have htr : e.platform.stackTraces = false := (show e.platform.stackTraces = l.stackTraces by rw [X.admits.platform]).trans hl
  have Y := vx_rebase X (R' := { frames := R.frames, locals := R.locals, cells := 1, slots := 6 }) (Nat.le_refl _) (Nat.le_refl _) hRcells hRslots
  obtain ⟨s', hA⟩ : ∃ z, z = (T.setVm s.vm).setFrames (.invoking m args :: below) := ⟨_, rfl⟩
  rw [← hA] at Y
  have hvm : s'.vm = s.vm := by rw [hA]; rfl
  have hhp : s'.heap = H := by rw [hA]; exact hT
  have hW0 : s.WarmedH s'.vm := by rw [hvm]; exact State.WarmedH.refl s
  have hat' : ∀ w ∈ vx_atS own ic cls names, w.before args s' = true := fun w hw => vx_ot_at hW0 hvm.symm (hgood w (List.mem_cons_of_mem _ (List.mem_cons_of_mem _ hw))) (hat w hw)
  have hk' : (Cond.classLink own ik cls).before args s' = true := vx_ot_at hW0 hvm.symm (hgood _ List.mem_cons_self) hk
  have hini' : (Cond.initialized cls).before args s' = true := vx_ot_at hW0 hvm.symm (hgood _ (List.mem_cons_of_mem _ List.mem_cons_self)) hini
  have hU' : vx_Zq Bundle.tN "UNASSIGNED_STACK" Bundle.steD A s' s'.heap := by rw [hhp]; exact vx_Zq.moved hW0.alike (hU.kept hS.2.1)
  have hN' : vx_Zq Bundle.tN "SUPPRESSED_SENTINEL" Bundle.listD A s' s'.heap := by rw [hhp]; exact vx_Zq.moved hW0.alike (hN.kept hS.2.1)
  have h : ∀ w ∈ Bundle.ownAtoms own ic cls names, w.before args s' = true := vx_own hat' (vx_isRefq hU'.1) (vx_isRefq hN'.1) hU'.2.word hN'.2.word
  have hown' : s'.vm.findClass own = some m.cls := by rw [hvm]; exact hown
  have hins : (Cond.instantiable cls 6).before args s' = true := h _ (by simp [Bundle.ownAtoms])
  obtain ⟨vm₁, cX, kX, hfX, hkX, -, -, X₁, st1⟩ := Y.newCold hexec (own := own) (C := cls) (index := ik) (n := 6) hown' hk' hins hini'
    (g := F0 m pc ls rest) rfl (by rw [hb]; exact d0) (Nat.le_refl _) (Nat.le_refl _)
  generalize hT1 : (T.setVm vm₁).pushCell { cls := cX, slots := kX.instanceTypes.map defaultValue, vm := .none } = T1 at X₁ st1
  have hcat : (Value.ref T.heap.size).category = 1 := rfl
  have hcellA : T1.heap[T.heap.size]? = some (freshCell cX kX) := by rw [← hT1]; exact State.heap_pushCell_size _ _
  have d3' : decode c.code (pc + 3) = .ok (.dup, 1) := by rw [hb]; exact d3
  have d4' : decode c.code (pc + 4) = .ok (.ldc is, 2) := by rw [hb]; exact d4
  have hstr' : vk_R own is text sa s' := vk_R.warm hW0 hstr
  obtain ⟨U, hsteps, hrun, hend, hW, hsame, ce, hce, hO⟩ := X₁.ctorThrowS hexec htr (own := own) (cls := cls) (names := names) (ic := ic) hown' hcls hnames h (fun x hx => nomatch hx) hfX hkX hcellA (by rw [hhp, hT]; exact Nat.le_refl _) (msg := .ref sa) rfl
    (g := { method := m, pc := pc + 6, locals := ls, stack := .ref sa :: .ref T.heap.size :: .ref T.heap.size :: rest, locked := none }) rfl hsize rfl rfl (rest := rest) rfl
    (by rw [hb]; exact d6) (by rw [hb]; exact d9) hout hRframes (by simp only [List.map_cons, List.sum_cons, hcat]; omega) hlocks
  obtain ⟨f1, f2⟩ := vx_frame hsame
  rw [hhp] at f1 f2
  have hWs : s.WarmedH U.vm := State.WarmedH.trans hW0 hW
  have hcl : s.vm.findClass cls = some ce.cls := by
    have h9 := hO.cls
    rw [hvm] at h9
    exact h9
  have hall : s.sameButNew ({ U with vm := s.vm } : State) locs mc ms := by
    subst hA
    obtain ⟨e1, e2⟩ := hsame
    rw [State.setFrames_setFrames] at e1
    have h2 : (T.setVm s.vm).sameButNew ({ U with vm := s.vm } : State) [] (0 + 1) (0 + 6) := ⟨e1, e2⟩
    have h3 := X.same.trans h2
    rw [List.append_nil] at h3
    exact h3.mono hc hs
  refine ⟨U, ?_, .threw T.heap.size, hrun, hend, Or.inr ⟨T.heap.size, rfl, cls, ce, locs, hx U hWs.alike f1 (fun q hq => f2 q hq (fun z hz => nomatch hz)), hce, hO.vm, hcl, hWs, hall, hf⟩⟩
  refine st1 _ ?_
  show Steps p.tables e below (T1.setTop { method := m, pc := pc + 3, locals := ls, stack := .ref T.heap.size :: rest, locked := none }) _
  jvm_step X₁.here [X₁.here.top, hexec, d3', Value.category]
  exact X₁.ldcString hexec (own := own) (text := text) (index := is) (a := sa) hown' hstr'.1 hstr'.2
    (g := { method := m, pc := pc + 4, locals := ls, stack := .ref T.heap.size :: .ref T.heap.size :: rest, locked := none }) rfl d4' _ hsteps
/-- 'throw new E("text")', the text by a wide index -/
theorem vx_throwSW {cc : ByteArray} {pc : Nat} (hexec : p.tables.exec = Jvm.exec) (hb : c.code = cc) (hl : l.stackTraces = false) {own cls text : String} {names : List String} {ik is ic mc ms sa : Nat} {A : Nat → Prop}
    (hown : s.vm.findClass own = some m.cls) (hcls : Bundle.fit cls = true) (hnames : ∀ n ∈ names, Bundle.fit n = true)
    (hk : (Cond.classLink own ik cls).before args s = true) (hini : (Cond.initialized cls).before args s = true) (hstr : vk_R own is text sa s) (hat : ∀ w ∈ vx_atS own ic cls names, w.before args s = true)
    (hgood : ∀ w ∈ Cond.classLink own ik cls :: Cond.initialized cls :: vx_atS own ic cls names, vx_ot w = true)
    (hU : vx_Zq Bundle.tN "UNASSIGNED_STACK" Bundle.steD A s s.heap) (hN : vx_Zq Bundle.tN "SUPPRESSED_SENTINEL" Bundle.listD A s s.heap) (hS : va_S A s.heap H locs) (hsize : ls.size = c.maxLocals)
    (d0 : decode cc pc = .ok (.new ik, 3)) (d3 : decode cc (pc + 3) = .ok (.dup, 1)) (d4 : decode cc (pc + 4) = .ok (.ldc_w is, 3)) (d7 : decode cc (pc + 7) = .ok (.invokespecial ic, 3)) (d10 : decode cc (pc + 10) = .ok (.athrow, 1))
    (hout : ∀ x ∈ c.exceptionTable.toList, covers x (pc + 10) = false)
    (hRframes : names.length + 3 < R.frames) (hRlocals : (rest.map fun v => v.category).sum + (13 * (names.length + 1) + 43) ≤ R.locals) (hRcells : cells + 1 ≤ R.cells) (hRslots : slots + 6 ≤ R.slots) (hlocks : meth.locks = false)
    (hx : ∀ t : State, s.vm.Alike t.vm → H.size ≤ t.heap.size → (∀ q : Nat, q < H.size → t.heap[q]? = H[q]?) → XC cls s t)
    (hf : ∀ z ∈ locs, free z.base) (hc : cells + 1 ≤ mc) (hs : slots + 6 ≤ ms) :
    W p l e R s m args below meth c H locs cells slots (vx_MQ below Qc XC args s mc ms free) (F0 m pc ls rest) := by
  intro T hT X
  have htr : e.platform.stackTraces = false := (show e.platform.stackTraces = l.stackTraces by rw [X.admits.platform]).trans hl
  have Y := vx_rebase X (R' := { frames := R.frames, locals := R.locals, cells := 1, slots := 6 }) (Nat.le_refl _) (Nat.le_refl _) hRcells hRslots
  obtain ⟨s', hA⟩ : ∃ z, z = (T.setVm s.vm).setFrames (.invoking m args :: below) := ⟨_, rfl⟩
  rw [← hA] at Y
  have hvm : s'.vm = s.vm := by rw [hA]; rfl
  have hhp : s'.heap = H := by rw [hA]; exact hT
  have hW0 : s.WarmedH s'.vm := by rw [hvm]; exact State.WarmedH.refl s
  have hat' : ∀ w ∈ vx_atS own ic cls names, w.before args s' = true := fun w hw => vx_ot_at hW0 hvm.symm (hgood w (List.mem_cons_of_mem _ (List.mem_cons_of_mem _ hw))) (hat w hw)
  have hk' : (Cond.classLink own ik cls).before args s' = true := vx_ot_at hW0 hvm.symm (hgood _ List.mem_cons_self) hk
  have hini' : (Cond.initialized cls).before args s' = true := vx_ot_at hW0 hvm.symm (hgood _ (List.mem_cons_of_mem _ List.mem_cons_self)) hini
  have hU' : vx_Zq Bundle.tN "UNASSIGNED_STACK" Bundle.steD A s' s'.heap := by rw [hhp]; exact vx_Zq.moved hW0.alike (hU.kept hS.2.1)
  have hN' : vx_Zq Bundle.tN "SUPPRESSED_SENTINEL" Bundle.listD A s' s'.heap := by rw [hhp]; exact vx_Zq.moved hW0.alike (hN.kept hS.2.1)
  have h : ∀ w ∈ Bundle.ownAtoms own ic cls names, w.before args s' = true := vx_own hat' (vx_isRefq hU'.1) (vx_isRefq hN'.1) hU'.2.word hN'.2.word
  have hown' : s'.vm.findClass own = some m.cls := by rw [hvm]; exact hown
  have hins : (Cond.instantiable cls 6).before args s' = true := h _ (by simp [Bundle.ownAtoms])
  obtain ⟨vm₁, cX, kX, hfX, hkX, -, -, X₁, st1⟩ := Y.newCold hexec (own := own) (C := cls) (index := ik) (n := 6) hown' hk' hins hini'
    (g := F0 m pc ls rest) rfl (by rw [hb]; exact d0) (Nat.le_refl _) (Nat.le_refl _)
  generalize hT1 : (T.setVm vm₁).pushCell { cls := cX, slots := kX.instanceTypes.map defaultValue, vm := .none } = T1 at X₁ st1
  have hcat : (Value.ref T.heap.size).category = 1 := rfl
  have hcellA : T1.heap[T.heap.size]? = some (freshCell cX kX) := by rw [← hT1]; exact State.heap_pushCell_size _ _
  have d3' : decode c.code (pc + 3) = .ok (.dup, 1) := by rw [hb]; exact d3
  have d4' : decode c.code (pc + 4) = .ok (.ldc_w is, 3) := by rw [hb]; exact d4
  have hstr' : vk_R own is text sa s' := vk_R.warm hW0 hstr
  obtain ⟨U, hsteps, hrun, hend, hW, hsame, ce, hce, hO⟩ := X₁.ctorThrowS hexec htr (own := own) (cls := cls) (names := names) (ic := ic) hown' hcls hnames h (fun x hx => nomatch hx) hfX hkX hcellA (by rw [hhp, hT]; exact Nat.le_refl _) (msg := .ref sa) rfl
    (g := { method := m, pc := pc + 7, locals := ls, stack := .ref sa :: .ref T.heap.size :: .ref T.heap.size :: rest, locked := none }) rfl hsize rfl rfl (rest := rest) rfl
    (by rw [hb]; exact d7) (by rw [hb]; exact d10) hout hRframes (by simp only [List.map_cons, List.sum_cons, hcat]; omega) hlocks
  obtain ⟨f1, f2⟩ := vx_frame hsame
  rw [hhp] at f1 f2
  have hWs : s.WarmedH U.vm := State.WarmedH.trans hW0 hW
  have hcl : s.vm.findClass cls = some ce.cls := by
    have h9 := hO.cls
    rw [hvm] at h9
    exact h9
  have hall : s.sameButNew ({ U with vm := s.vm } : State) locs mc ms := by
    subst hA
    obtain ⟨e1, e2⟩ := hsame
    rw [State.setFrames_setFrames] at e1
    have h2 : (T.setVm s.vm).sameButNew ({ U with vm := s.vm } : State) [] (0 + 1) (0 + 6) := ⟨e1, e2⟩
    have h3 := X.same.trans h2
    rw [List.append_nil] at h3
    exact h3.mono hc hs
  refine ⟨U, ?_, .threw T.heap.size, hrun, hend, Or.inr ⟨T.heap.size, rfl, cls, ce, locs, hx U hWs.alike f1 (fun q hq => f2 q hq (fun z hz => nomatch hz)), hce, hO.vm, hcl, hWs, hall, hf⟩⟩
  refine st1 _ ?_
  show Steps p.tables e below (T1.setTop { method := m, pc := pc + 3, locals := ls, stack := .ref T.heap.size :: rest, locked := none }) _
  jvm_step X₁.here [X₁.here.top, hexec, d3', Value.category]
  exact X₁.ldcStringW hexec (own := own) (text := text) (index := is) (a := sa) hown' hstr'.1 hstr'.2
    (g := { method := m, pc := pc + 4, locals := ls, stack := .ref T.heap.size :: .ref T.heap.size :: rest, locked := none }) rfl d4' _ hsteps
end Ends
section Bodies
variable {l : Launch}
theorem vx_ofW {y : MethodName} {ws ws' : List Cond} {rm : Room} {Pc : Array Value → State → Prop} {Qc : Array Value → State → Outcome → State → Prop} {XC : String → State → State → Prop} {mc ms : Nat} {free : Addr → Prop} {cc : ByteArray} {maxL : Nat} {ret : Option FieldType}
    (hy : plainName y.cls = true) (hw : ws = Cond.code y cc maxL ret :: ws')
    (body : ∀ p e s m args below meth c s₁, BodyLoose p l y (headSpec ws rm) cc maxL ret e s m args below meth c s₁ → c.maxLocals = maxL → (∀ x ∈ c.exceptionTable.toList, False) → Pc args s →
      W p l e (headSpec ws rm).room s m args below meth c s.heap [] 0 0 (vx_MQ below Qc XC args s mc ms free) (entryFrame m args maxL)) : vx_Met l y ws rm Pc Qc XC mc ms free := by
  refine MetFree.of_bodyS (code := cc) (maxLocals := maxL) (ret := ret) hy ?_ ?_
  · intro args s m h hn
    obtain ⟨meth, c, h1, h2, h3, h4, h5, h6, -, -⟩ := Cond.code_spec hn (atoms_spec (ws := ws) h _ (by rw [hw]; exact List.mem_cons_self))
    exact ⟨meth, c, h1, h2, h3, h4, h5, h6⟩
  · intro p e s m args below meth c s₁ B hml hP _
    have hh0 : s₁.heap = s.heap := by rw [B.state]; rfl
    have ht : ∀ x ∈ c.exceptionTable.toList, False := by
      obtain ⟨meth9, c9, h1, h2, -, -, -, -, h7, -⟩ := Cond.code_spec B.named (atoms_spec (ws := ws) B.pre _ (by rw [hw]; exact List.mem_cons_self))
      cases Option.some.inj (h1.symm.trans B.method)
      cases Option.some.inj (h2.symm.trans (Stand.of_body B).code)
      intro x hx
      rw [Array.isEmpty_iff.mp h7] at hx
      cases hx
    obtain ⟨t, a1, o, b1, b2, b3⟩ := body p e s m args below meth c s₁ B hml ht hP s₁ hh0 (Stand.of_body B)
    exact ⟨t, o, a1, b1, b2, b3⟩
/-- the table of a body with handlers -/
theorem vx_table {p : Program} {x y : MethodName} {S : Spec} {cc bytes : ByteArray} {maxL maxL' : Nat} {ret ret' : Option FieldType} {e : Env} {s s₁ : State} {m : MethodId} {args : Array Value} {below : List Frame} {meth : Method} {c : Code} {hh : List (Nat × Nat × Nat × Nat)}
    (B : BodyLoose p l y S cc maxL ret e s m args below meth c s₁) (h : (Cond.codeWith y bytes maxL' ret' hh).before args s = true) : c.exceptionTable.toList = tableOf hh := by
  obtain ⟨m9, meth9, c9, hn9, h1, h2, -, -, h6, -⟩ := Cond.codeWith_spec h
  cases Option.some.inj (hn9.symm.trans B.named)
  cases Option.some.inj (h1.symm.trans B.method)
  cases Option.some.inj (h2.symm.trans (Stand.of_body B).code)
  rw [← h6, table_eq]
end Bodies
end VXA
/-! ===== END ===== -/
/-! ===== BEGIN a static call of a method with an exception table ===== -/
section VXS
variable {p : Program} {l : Launch} {e : Env} {R : Room} {s : State} {m : MethodId} {args : Array Value} {below : List Frame} {meth : Method} {c : Code} {T : State} {H : Heap} {locs : List Loc} {cells slots : Nat}
abbrev vx_CSW (R : Room) (s : State) (args : Array Value) (own : String) (index : Nat) (y : MethodName) (bytes : ByteArray) (maxL : Nat) (ret : Option FieldType) (hh : List (Nat × Nat × Nat × Nat)) (ws : List Cond) (rm : Room) (mc ms n : Nat) : Prop :=
  (rm.cells = mc ∧ rm.slots = ms ∧ rm.frames + 1 ≤ R.frames ∧ 8 + (maxL + 11) + rm.locals ≤ R.locals ∧ (∀ w ∈ ws, ∀ (a' : Array Value) (U : State), s.WarmedH U.vm → w.before a' U = true) ∧ Cond.codeWith y bytes maxL ret hh ∈ ws) ∧
  (Cond.codeWith y bytes maxL ret hh).before args s = true ∧ (Cond.initialized y.cls).before args s = true ∧ (y.cls ≠ "java/lang/invoke/MethodHandle" ∧ y.cls ≠ "java/lang/invoke/VarHandle") ∧
  (∀ sig, parseMethodDescriptor y.desc = some sig → n = sig.parameters.length) ∧ (Cond.methodLink own index y).before args s = true ∧ (Cond.static y).before args s = true
theorem vx_cwSW {own : String} {index maxL mc ms : Nat} {y : MethodName} {bytes : ByteArray} {ret : Option FieldType} {hh : List (Nat × Nat × Nat × Nat)} {Ts ws ws' : List Cond} {rm : Room} (n : Nat) (ht : ∀ w ∈ Ts, w.before args s = true) (hT : GoodIn Ts (va_wsS own index y ws)) (hw : ws = Cond.codeWith y bytes maxL ret hh :: ws') (hrc : rm.cells = mc) (hrs : rm.slots = ms)
    (hd : y.cls ≠ "java/lang/invoke/MethodHandle" ∧ y.cls ≠ "java/lang/invoke/VarHandle" ∧ (parseMethodDescriptor y.desc).map (fun d => d.parameters.length) = some n) (hR : rm.frames + 1 ≤ R.frames ∧ 8 + (maxL + 11) + rm.locals ≤ R.locals) :
    vx_CSW R s args own index y bytes maxL ret hh ws rm mc ms n := by
  have ok : ∀ w ∈ va_wsS own index y ws, w.before args s = true := fun w h => ht w (hT w h).1
  have hG : GoodIn Ts ws := fun w h => hT w (by unfold va_wsS; exact List.mem_append_right _ h)
  have hc : Cond.codeWith y bytes maxL ret hh ∈ ws := by rw [hw]; exact List.mem_cons_self
  refine ⟨⟨hrc, hrs, hR.1, hR.2, pay_in ht hG, hc⟩, ht _ (hG _ hc).1, ok _ (by simp [va_wsS]), ⟨hd.1, hd.2.1⟩, fun sig h => ?_, ok _ (by simp [va_wsS]), ok _ (by simp [va_wsS])⟩
  have h2 := hd.2.2
  rw [h] at h2
  exact (Option.some.inj h2).symm
theorem vx_callSW (X : Stand p l e R s m args below meth c T locs cells slots) (hexec : p.tables.exec = Jvm.exec) {own : String} {index : Nat} {y : MethodName} {bytes : ByteArray} {maxL : Nat} {ret : Option FieldType} {hh : List (Nat × Nat × Nat × Nat)}
    (hown : s.vm.findClass own = some m.cls) (hlink : (Cond.methodLink own index y).before args s = true) (hstat : (Cond.static y).before args s = true) (hinit : (Cond.initialized y.cls).before args s = true)
    (hcode : (Cond.codeWith y bytes maxL ret hh).before args s = true) (hy : y.cls ≠ "java/lang/invoke/MethodHandle" ∧ y.cls ≠ "java/lang/invoke/VarHandle")
    {W9 : Nat} {Pre : Pt → Array Value → Prop} {Post : Pt → Array Value → Option Value → Pt → Prop} (hK : Back l R p e below s args y 3 W9 Pre Post)
    {g : JFrame} (hg : g.method = m) (hsize : g.locals.size = c.maxLocals) {argsL rest : List Value} (hlen : ∀ sig, parseMethodDescriptor y.desc = some sig → argsL.length = sig.parameters.length)
    (hstack : g.stack = argsL.reverse ++ rest) (hW : 2 * g.monitorRoom + (rest.map fun v => v.category).sum ≤ W9) (hdg : decode c.code g.pc = .ok (.invokestatic index, 3))
    (hpre : ∀ vm₁, s.WarmedH vm₁ → Pre ⟨T.setVm vm₁, locs, cells, slots⟩ argsL.toArray) :
    ∃ (v : Option Value) (vm₁ : Vm) (B : Pt), s.WarmedH vm₁ ∧ Stand p l e R s m args below meth c B.U B.locs B.cells B.slots ∧ Post ⟨T.setVm vm₁, locs, cells, slots⟩ argsL.toArray v B ∧
      ∀ target, Steps p.tables e below (B.U.setTop { g with pc := g.pc + 3, stack := v.toList ++ rest }) target → Steps p.tables e below (T.setTop g) target := by
  obtain ⟨mk, methM, cM, hnamed, hmethM, -, -, -, -, -, -, hsigM⟩ := Cond.codeWith_spec hcode
  have hstatic : methM.isStatic = true := Cond.static_spec hnamed hmethM hstat
  obtain ⟨kP, hkP, -⟩ := className_of_methodNamed hnamed
  have hinitP : kP.init = .initialized := Cond.initialized_spec (findClass_of_methodNamed hnamed) hkP hinit
  obtain ⟨vm₁, X₁, hstep₁⟩ := X.invokestatic hexec hown hlink hnamed hmethM hstatic hkP hinitP hy (g := g) hg (argsL := argsL) (rest := rest) (hlen _ hsigM) hstack hdg
  obtain ⟨v, B, X', hpost, hsteps⟩ := hK m meth c ⟨T.setVm vm₁, locs, cells, slots⟩ { g with stack := rest } (.invokestatic index) mk argsL.toArray X₁ hg hsize hdg hW (X₁.named hnamed) (hpre vm₁ X₁.warmed)
  exact ⟨v, vm₁, B, X₁.warmed, X', hpost, fun target h => hstep₁ _ fun acts => by rw [doInvoke_state]; exact hsteps.trans h⟩
theorem vx_runSW {y : MethodName} {bytes cc : ByteArray} {maxL nL mc ms n index : Nat} {ret : Option FieldType} {hh : List (Nat × Nat × Nat × Nat)} {ws : List Cond} {rm : Room} {Pc : Array Value → State → Prop} {Qc : Array Value → State → Outcome → State → Prop} {free : Addr → Prop} {Ts : List Cond} {own : String} {As rest : List Value} {g : JFrame}
    (S : CallFix p m c cc nL s args Ts own) (hM : Met l y ws rm Pc Qc mc ms free) (cw : vx_CSW R s args own index y bytes maxL ret hh ws rm mc ms n) (hp : PreS s H Pc As)
    (hg : g.method = m) (hn : As.length = n) (hsize : g.locals.size = nL) (hstack : g.stack = As.reverse ++ rest) (hW : 2 * g.monitorRoom + (rest.map fun v => v.category).sum ≤ 8) (hdg : decode cc g.pc = .ok (.invokestatic index, 3)) (hf : cells + mc ≤ R.cells ∧ slots + ms ≤ R.slots) :
    va_Run p l e R s m args below meth c H locs cells slots mc ms g rest (Qc As.toArray) (free) := by
  obtain ⟨⟨hrc, hrs, hfr, hlo, hws, hcw⟩, hcode, hini, hy, hlen, hl, hstt⟩ := cw
  have hK : Back l R p e below s args y 3 8 (PreOf R mc ms Pc) (PostOf Qc mc ms free) := va_backW (hh := hh) (bytes := bytes) (maxL := maxL) (ret := ret) hM hp.1 hrc hrs hfr hlo hws hcw (fun a' U hW => word_at hW (Or.inl (by first | rfl | simp [Cond.onTables, Cond.keeps, Cond.steady])) hini)
  obtain ⟨hx, hb, hml, ho, -⟩ := S
  intro T hT X
  obtain ⟨v, vm₁, ⟨U', l2, c2, s2⟩, hW₁, X', ⟨g', mk, t, L, e1, e2, hq, h1, hL, h2, h3⟩, st⟩ := vx_callSW X hx (hh := hh) (bytes := bytes) (maxL := maxL) (ret := ret) ho hl hstt hini hcode hy hK hg (hsize.trans hml.symm) (argsL := As) (rest := rest) (fun sig h => hn.trans (hlen sig h)) hstack hW (by rw [hb]; exact hdg)
    (fun vm₁ hW₁ => ⟨hf.1, hf.2, hp.2 (T.setVm vm₁) hT hW₁⟩)
  dsimp only [Pt.U, Pt.locs, Pt.cells, Pt.slots] at X' e1 e2 h1 h2 h3 st
  subst h1; subst h2; subst h3
  exact ⟨v, (T.setVm vm₁).calling g' mk As.toArray, t, U', L, hT, X', hL, e1, e2, hq, st⟩
/-- not caught here, past rows that name other classes: it goes on to the caller -/
theorem vx_outP {p : Program} {l : Launch} {e : Env} {R : Room} {s : State} {m : MethodId} {args : Array Value} {below : List Frame} {meth : Method} {c : Code} {H : Heap} {locs : List Loc} {cells slots : Nat} {free : Addr → Prop} {ls : Array Slot} {rest : List Value} {Qc : Array Value → State → Outcome → State → Prop} {XC : String → State → State → Prop}
    {pc : Nat} {own E : String} {ce : Cell} {q : Addr} {mc ms : Nat} (hown : s.vm.findClass own = some m.cls) (hlocks : meth.locks = false)
    (hpass : ∀ z ∈ c.exceptionTable.toList, covers z pc = false ∨ (z.catchType ≠ 0 ∧ ∃ nm : String, (Cond.classLink own z.catchType nm).before args s = true ∧ va_Nc E nm s)) (hcell : H[q]? = some ce) (hv : ce.vm = .none) (hcl : s.vm.findClass E = some ce.cls)
    (hx : ∀ t : State, t.heap = H → s.vm.Alike t.vm → XC E s t) (hf : ∀ z ∈ locs, free z.base) (hc : cells ≤ mc) (hs : slots ≤ ms) :
    vx_W p l e R s m args below meth c H locs cells slots (vx_MQ below Qc XC args s mc ms free) (F0 m pc ls rest) q := by
  intro T hT X
  have hpl : e.platform.magicAccessors = ({} : Platform).magicAccessors := by rw [X.admits.platform]
  obtain ⟨vm', hW', X', st⟩ := X.outThrough hlocks q (g := F0 m pc ls rest) rfl rfl rfl (cell := ce) (by rw [hT]; exact hcell) (by rw [hv]; rfl)
    (by obtain ⟨k9, h9, -⟩ := Vm.findClass_spec hcl; exact ⟨k9, h9⟩) (fun z hz => by
      rcases hpass z hz with h | ⟨hz0, nm, hl1, hn1⟩
      · exact Or.inl h
      · obtain ⟨c6, hc6, hcl6⟩ := Cond.classLink_spec hown hl1 e.platform hpl
        obtain ⟨a8, b8, h1, h2, h3⟩ := hn1
        cases Option.some.inj (h1.symm.trans hcl)
        cases Option.some.inj (h2.symm.trans hc6)
        exact Or.inr ⟨hz0, _, hcl6, h3⟩)
  obtain ⟨g₀, hfr⟩ := X'.frames_eq
  have hcell9 : ((T.setVm vm').setFrames (.throwing q :: below)).heap[q]? = some ce := by
    show T.heap[q]? = some ce
    rw [hT]; exact hcell
  have hend : Ended ((T.setVm vm').setFrames (.throwing q :: below)) below (.threw q) := State.frames_setFrames _ (State.cur_lt_of_frames hfr)
  refine ⟨(T.setVm vm').setFrames (.throwing q :: below), ?_, .threw q, X'.here.running, hend, Or.inr ⟨q, rfl, E, ce, locs, hx _ hT (X'.ends _).1.alike, hcell9, hv, hcl, (X'.ends _).1, (X'.ends _).2.mono hc hs, hf⟩⟩
  rw [X.pushThrowing_eq]
  exact st
/-- a thing of a world lies in the heap -/
theorem vx_lt {D : va_G} {cl : List vw_C} {ws : va_W} {H1 : Heap} (h : va_P D cl ws H1) {k : Nat} {q : Nat × va_E} (hk : ws[k]? = some q) : q.1 < H1.size := (h k q hk).lt
end VXS
/-! ===== END ===== -/
/-! ===== BEGIN methods with a table of their own: called by a name, returning or throwing ===== -/
section VXH
/-! vx_backW, vx_callVX, vx_callSX, vx_callVW, vx_runVW, vx_runVX, vx_runSX, vx_ofWH follow the same proofs as their sisters above (Free/Laws.lean, Shelf42/LK1.lean); vx_outP calls Shelf42/NT130.lean (outThrough). -/
section
variable {l : Launch} {R : Room} {p : Program} {e : Env} {below : List Frame} {s : State} {sargs : Array Value} {y : MethodName} {len W9 : Nat}
theorem vx_backW {ws : List Cond} {rm : Room} {Pc : Array Value → State → Prop} {Qc : Array Value → State → Outcome → State → Prop} {XC : String → State → State → Prop} {mc ms : Nat} {free : Addr → Prop} {bytes : ByteArray} {maxL : Nat} {ret : Option FieldType} {hh : List (Nat × Nat × Nat × Nat)}
    (hM : vx_Met l y ws rm Pc Qc XC mc ms free) (hblind : FrameBlind Pc) (hrc : rm.cells = mc) (hrs : rm.slots = ms)
    (hframes : rm.frames + 1 ≤ R.frames) (hlocals : W9 + (maxL + 11) + rm.locals ≤ R.locals)
    (hws : ∀ w ∈ ws, ∀ a' U, s.WarmedH U.vm → w.before a' U = true) (hcode : Cond.codeWith y bytes maxL ret hh ∈ ws) (hinit : ∀ a' U, s.WarmedH U.vm → (Cond.initialized y.cls).before a' U = true) :
    vx_Back l R p e below s sargs y len W9 (PreOf R mc ms Pc) (PostOf Qc mc ms free) (vx_Post XC mc ms free) := by
  intro m meth c A g ig mk a X hg hsize hdg hW hn hp
  have h1 : (headSpec ws rm).pre.before a A.U = true := atoms_intro fun w hw => hws w hw _ _ X.warmed
  have h2 : (Cond.codeWith y bytes maxL ret hh).before a A.U = true := hws _ hcode _ _ X.warmed
  have h3 : (Cond.initialized y.cls).before a A.U = true := hinit _ _ X.warmed
  have h4 : A.cells + (headSpec ws rm).room.cells ≤ R.cells := by rw [show (headSpec ws rm).room.cells = mc from hrc]; exact hp.1
  have h5 : A.slots + (headSpec ws rm).room.slots ≤ R.slots := by rw [show (headSpec ws rm).room.slots = ms from hrs]; exact hp.2.1
  have hPc : Pc a (A.U.calling g mk a) := hblind _ _ _ _ hp.2.2
  obtain ⟨U, Ls, c0, s0⟩ := A
  dsimp only [Pt.U, Pt.locs, Pt.cells, Pt.slots] at h1 h2 h3 h4 h5 X hn hPc ⊢
  obtain ⟨m9, methY, cY, hn9, hmY, hcY, -, hlY, -⟩ := Cond.codeWith_spec h2
  cases Option.some.inj (hn9.symm.trans hn)
  obtain ⟨kY, hkY, -⟩ := className_of_methodNamed hn
  have hinitY : kY.init = .initialized := Cond.initialized_spec (findClass_of_methodNamed hn) hkY h3
  have h : At U g.method c below := by rw [hg]; exact X.here
  have hlocals9 : W9 + (maxL + 11) + (headSpec ws rm).room.locals ≤ R.locals := hlocals
  have happ : (headSpec ws rm).appliesLoose y e.platform (U.calling g mk a) = true :=
    Spec.appliesLoose_calling (g := g) h hdg hn hkY hinitY
      (X.room_calling (g := g) (R' := (headSpec ws rm).room) hsize hmY hcY hframes (by rw [hlY]; omega) h4 h5) h1
  obtain ⟨mid, hmid⟩ := h.above
  have hfr : (U.setTop g).frames = (.java g :: mid) ++ below := by rw [State.frames_setTop' g h.top, hmid]; rfl
  obtain ⟨o, s₂, hsteps, -, hend, hq⟩ := Steps.callFree hM p X.admits X.cas X.clock (acts := []) hfr happ hPc trivial
  have hq' : vx_Q Qc XC mc ms free a (U.calling g mk a) o s₂ := hq
  rw [State.frames_setTop' g h.top] at hend
  obtain ⟨g₀, hg0⟩ := Option.isSome_iff_exists.mp h.top
  obtain ⟨r, hr⟩ := State.topJava?_eq_some.mp hg0
  have hr' : (({ U with heap := s₂.heap, slotsUsed := s₂.slotsUsed } : State).setVm s₂.vm).frames = .java g₀ :: r := hr
  rcases hq' with ⟨hqc, L, hfe, hL⟩ | ⟨q, rfl, E, ce, L, hx, hce, hcv, hcl, hW₂, hsm, hL⟩
  · obtain ⟨⟨v, rfl⟩, hW₂, e2, q2, q3, q4, q5, q6⟩ := id hfe
    have e3 : s₂ = ({ (U.calling g mk a).setFrames s₂.frames with heap := s₂.heap, slotsUsed := s₂.slotsUsed } : State).setVm s₂.vm := by
      have : s₂ = ({ s₂ with vm := (U.calling g mk a).vm } : State).setVm s₂.vm := rfl
      rw [e2] at this
      exact this
    obtain ⟨c₂, i₂, len₂, hc₂, hd₂, hf₂⟩ := hend
    have hW' : U.WarmedH s₂.vm := hW₂
    have hcc : c₂ = c := by
      have h1 : s₂.code? g.method = U.code? g.method := by
        rw [State.code?_eq, State.code?_eq, hW'.alike.method?]
      exact Option.some.inj (hc₂.symm.trans (h1.trans h.code))
    subst hcc
    have hlen : len₂ = len := by rw [hdg] at hd₂; cases hd₂; rfl
    subst hlen
    have hs₂ : s₂ = (({ U with heap := s₂.heap, slotsUsed := s₂.slotsUsed } : State).setVm s₂.vm).setTop { g with pc := g.pc + len₂, stack := v.toList ++ g.stack } := by
      refine e3.trans ?_
      rw [hf₂, State.calling_eq h.top, State.setFrames_setFrames, State.setTop_of_frames _ hr', hr]
      rfl
    have hsame : U.sameButNew ({ U with heap := s₂.heap, slotsUsed := s₂.slotsUsed } : State) L mc ms := by
      refine ⟨?_, q2, q3, q4, q5, q6⟩
      obtain ⟨t, ht, -⟩ := State.frames_cons hr
      show ({ U with heap := s₂.heap, slotsUsed := s₂.slotsUsed } : State) = { U.setFrames U.frames with heap := s₂.heap, slotsUsed := s₂.slotsUsed }
      rw [State.setFrames_self ht]
    subst hg
    refine Or.inl ⟨v, ⟨(({ U with heap := s₂.heap, slotsUsed := s₂.slotsUsed } : State).setVm s₂.vm), Ls ++ L, c0 + mc, s0 + ms⟩,
      ⟨X.admits, X.cas, X.clock, X.frames, X.room, X.hears, X.method, X.code, (X.here.setHeapUsed s₂.heap s₂.slotsUsed).setVm hW'.alike, X.tail, State.WarmedH.trans X.warmed hW', X.limits, X.bytes, X.same.trans (hsame.setVm s.vm)⟩,
      ⟨g, mk, s₂, L, rfl, rfl, hqc, rfl, hL, rfl, rfl⟩, ?_⟩
    show Steps p.tables e below _ ((({ U with heap := s₂.heap, slotsUsed := s₂.slotsUsed } : State).setVm s₂.vm).setTop { g with pc := g.pc + len₂, stack := v.toList ++ g.stack })
    rw [← hs₂]
    exact hsteps
  · obtain ⟨e2, q2, q3, q4, q5, q6⟩ := id hsm
    have e3 : s₂ = ({ (U.calling g mk a).setFrames s₂.frames with heap := s₂.heap, slotsUsed := s₂.slotsUsed } : State).setVm s₂.vm := by
      have : s₂ = ({ s₂ with vm := (U.calling g mk a).vm } : State).setVm s₂.vm := rfl
      rw [e2] at this
      exact this
    have hf₂ : s₂.frames = .throwing q :: .java g :: U.frames.tail := hend
    have hW' : U.WarmedH s₂.vm := hW₂
    have hs₂ : s₂ = ((({ U with heap := s₂.heap, slotsUsed := s₂.slotsUsed } : State).setVm s₂.vm).setTop g).pushFrame (.throwing q) := by
      refine e3.trans ?_
      rw [hf₂, State.calling_eq h.top, State.setFrames_setFrames, State.pushFrame, State.frames_setTop _ hr', State.setTop_of_frames _ hr', State.setFrames_setFrames, hr]
      rfl
    have hsame : U.sameButNew ({ U with heap := s₂.heap, slotsUsed := s₂.slotsUsed } : State) L mc ms := by
      refine ⟨?_, q2, q3, q4, q5, q6⟩
      obtain ⟨t, ht, -⟩ := State.frames_cons hr
      show ({ U with heap := s₂.heap, slotsUsed := s₂.slotsUsed } : State) = { U.setFrames U.frames with heap := s₂.heap, slotsUsed := s₂.slotsUsed }
      rw [State.setFrames_self ht]
    subst hg
    refine Or.inr ⟨q, ⟨(({ U with heap := s₂.heap, slotsUsed := s₂.slotsUsed } : State).setVm s₂.vm), Ls ++ L, c0 + mc, s0 + ms⟩,
      ⟨X.admits, X.cas, X.clock, X.frames, X.room, X.hears, X.method, X.code, (X.here.setHeapUsed s₂.heap s₂.slotsUsed).setVm hW'.alike, X.tail, State.WarmedH.trans X.warmed hW', X.limits, X.bytes, X.same.trans (hsame.setVm s.vm)⟩,
      ⟨g, mk, s₂, L, E, ce, rfl, rfl, hx, hce, hcv, hcl, rfl, hL, rfl, rfl⟩, ?_⟩
    show Steps p.tables e below _ (((({ U with heap := s₂.heap, slotsUsed := s₂.slotsUsed } : State).setVm s₂.vm).setTop g).pushFrame (.throwing q))
    rw [← hs₂]
    exact hsteps
end
variable {p : Program} {l : Launch} {e : Env} {R : Room} {s : State} {m : MethodId} {args : Array Value} {below : List Frame} {meth : Method} {c : Code} {T : State} {H : Heap} {locs : List Loc} {cells slots : Nat}
theorem vx_callVX (X : Stand p l e R s m args below meth c T locs cells slots) (hexec : p.tables.exec = Jvm.exec) {own C : String} {index : Nat} {y : MethodName} {bytes : ByteArray} {maxL : Nat} {ret : Option FieldType} {hh : List (Nat × Nat × Nat × Nat)}
    (hown : s.vm.findClass own = some m.cls) (hlink : (Cond.methodLink own index y).before args s = true) (hinst : (Cond.instanceMethod y).before args s = true) (hsel : (Cond.selects C y y).before args s = true)
    (hcode : (Cond.codeWith y bytes maxL ret hh).before args s = true) (hy : y.cls ≠ "java/lang/invoke/MethodHandle" ∧ y.cls ≠ "java/lang/invoke/VarHandle")
    {W9 : Nat} {Pre : Pt → Array Value → Prop} {Post : Pt → Array Value → Option Value → Pt → Prop} {PostX : Pt → Array Value → Addr → Pt → Prop} (hK : vx_Back l R p e below s args y 3 W9 Pre Post PostX)
    {b : Addr} {cellB : Cell} (hcell : T.heap[b]? = some cellB) (hobj : cellB.vm.isStatics = false) (hcls : s.vm.findClass C = some cellB.cls)
    {g : JFrame} (hg : g.method = m) (hsize : g.locals.size = c.maxLocals) {argsL rest : List Value} (hlen : ∀ sig, parseMethodDescriptor y.desc = some sig → argsL.length = sig.parameters.length)
    (hstack : g.stack = argsL.reverse ++ .ref b :: rest) (hW : 2 * g.monitorRoom + (rest.map fun v => v.category).sum ≤ W9) (hdg : decode c.code g.pc = .ok (.invokevirtual index, 3))
    (hpre : ∀ vm₁, s.WarmedH vm₁ → Pre ⟨T.setVm vm₁, locs, cells, slots⟩ (Value.ref b :: argsL).toArray) :
    (∃ (v : Option Value) (vm₁ : Vm) (B : Pt), s.WarmedH vm₁ ∧ Stand p l e R s m args below meth c B.U B.locs B.cells B.slots ∧ Post ⟨T.setVm vm₁, locs, cells, slots⟩ (Value.ref b :: argsL).toArray v B ∧
      ∀ target, Steps p.tables e below (B.U.setTop { g with pc := g.pc + 3, stack := v.toList ++ rest }) target → Steps p.tables e below (T.setTop g) target) ∨
    (∃ (q : Addr) (vm₁ : Vm) (B : Pt), s.WarmedH vm₁ ∧ Stand p l e R s m args below meth c B.U B.locs B.cells B.slots ∧ PostX ⟨T.setVm vm₁, locs, cells, slots⟩ (Value.ref b :: argsL).toArray q B ∧
      Steps p.tables e below (T.setTop g) ((B.U.setTop { g with stack := rest }).pushFrame (.throwing q))) := by
  obtain ⟨mk, methM, hnamed, hmethM, hstM, habM⟩ := Cond.instanceMethod_spec hinst
  obtain ⟨m8, methM', cM, hn8, hmethM', -, -, -, -, -, -, hsigM⟩ := Cond.codeWith_spec hcode
  cases Option.some.inj (hn8.symm.trans hnamed)
  cases hmethM.symm.trans hmethM'
  obtain ⟨c2, r2, m2, q1, q2, q3, q4, kP, hkP, hkPi⟩ := Cond.selects_spec hsel
  cases hcls.symm.trans q1
  cases (State.methodFound?_of_named hnamed hy).symm.trans q2
  cases hnamed.symm.trans q3
  have hselP : selectMethod e.platform s.vm cellB.cls mk = .method mk := by rw [Launch.admits_selectMethod X.admits]; exact q4
  obtain ⟨vm₁, X₁, hstep₁⟩ := X.invokevirtual hexec hown hlink hnamed hmethM hstM hkP hkPi hy (a := b) (cell := cellB) hcell
    (fun z h => by rw [h] at hobj; cases hobj) hselP hmethM habM hkP hkPi (g := g) hg (argsL := argsL) (rest := rest) (hlen _ hsigM) hstack hdg
  rcases hK m meth c ⟨T.setVm vm₁, locs, cells, slots⟩ { g with stack := rest } (.invokevirtual index) mk (Value.ref b :: argsL).toArray X₁ hg hsize hdg hW (X₁.named hnamed) (hpre vm₁ X₁.warmed) with ⟨v, B, X', hpost, hsteps⟩ | ⟨q, B, X', hpost, hsteps⟩
  · exact Or.inl ⟨v, vm₁, B, X₁.warmed, X', hpost, fun target h => hstep₁ _ fun acts => by rw [doInvoke_state]; exact hsteps.trans h⟩
  · exact Or.inr ⟨q, vm₁, B, X₁.warmed, X', hpost, hstep₁ _ fun acts => by rw [doInvoke_state]; exact hsteps⟩
theorem vx_callSX (X : Stand p l e R s m args below meth c T locs cells slots) (hexec : p.tables.exec = Jvm.exec) {own : String} {index : Nat} {y : MethodName} {bytes : ByteArray} {maxL : Nat} {ret : Option FieldType} {hh : List (Nat × Nat × Nat × Nat)}
    (hown : s.vm.findClass own = some m.cls) (hlink : (Cond.methodLink own index y).before args s = true) (hstat : (Cond.static y).before args s = true) (hinit : (Cond.initialized y.cls).before args s = true)
    (hcode : (Cond.codeWith y bytes maxL ret hh).before args s = true) (hy : y.cls ≠ "java/lang/invoke/MethodHandle" ∧ y.cls ≠ "java/lang/invoke/VarHandle")
    {W9 : Nat} {Pre : Pt → Array Value → Prop} {Post : Pt → Array Value → Option Value → Pt → Prop} {PostX : Pt → Array Value → Addr → Pt → Prop} (hK : vx_Back l R p e below s args y 3 W9 Pre Post PostX)
    {g : JFrame} (hg : g.method = m) (hsize : g.locals.size = c.maxLocals) {argsL rest : List Value} (hlen : ∀ sig, parseMethodDescriptor y.desc = some sig → argsL.length = sig.parameters.length)
    (hstack : g.stack = argsL.reverse ++ rest) (hW : 2 * g.monitorRoom + (rest.map fun v => v.category).sum ≤ W9) (hdg : decode c.code g.pc = .ok (.invokestatic index, 3))
    (hpre : ∀ vm₁, s.WarmedH vm₁ → Pre ⟨T.setVm vm₁, locs, cells, slots⟩ argsL.toArray) :
    (∃ (v : Option Value) (vm₁ : Vm) (B : Pt), s.WarmedH vm₁ ∧ Stand p l e R s m args below meth c B.U B.locs B.cells B.slots ∧ Post ⟨T.setVm vm₁, locs, cells, slots⟩ argsL.toArray v B ∧
      ∀ target, Steps p.tables e below (B.U.setTop { g with pc := g.pc + 3, stack := v.toList ++ rest }) target → Steps p.tables e below (T.setTop g) target) ∨
    (∃ (q : Addr) (vm₁ : Vm) (B : Pt), s.WarmedH vm₁ ∧ Stand p l e R s m args below meth c B.U B.locs B.cells B.slots ∧ PostX ⟨T.setVm vm₁, locs, cells, slots⟩ argsL.toArray q B ∧
      Steps p.tables e below (T.setTop g) ((B.U.setTop { g with stack := rest }).pushFrame (.throwing q))) := by
  obtain ⟨mk, methM, cM, hnamed, hmethM, -, -, -, -, -, -, hsigM⟩ := Cond.codeWith_spec hcode
  have hstatic : methM.isStatic = true := Cond.static_spec hnamed hmethM hstat
  obtain ⟨kP, hkP, -⟩ := className_of_methodNamed hnamed
  have hinitP : kP.init = .initialized := Cond.initialized_spec (findClass_of_methodNamed hnamed) hkP hinit
  obtain ⟨vm₁, X₁, hstep₁⟩ := X.invokestatic hexec hown hlink hnamed hmethM hstatic hkP hinitP hy (g := g) hg (argsL := argsL) (rest := rest) (hlen _ hsigM) hstack hdg
  rcases hK m meth c ⟨T.setVm vm₁, locs, cells, slots⟩ { g with stack := rest } (.invokestatic index) mk argsL.toArray X₁ hg hsize hdg hW (X₁.named hnamed) (hpre vm₁ X₁.warmed) with ⟨v, B, X', hpost, hsteps⟩ | ⟨q, B, X', hpost, hsteps⟩
  · exact Or.inl ⟨v, vm₁, B, X₁.warmed, X', hpost, fun target h => hstep₁ _ fun acts => by rw [doInvoke_state]; exact hsteps.trans h⟩
  · exact Or.inr ⟨q, vm₁, B, X₁.warmed, X', hpost, hstep₁ _ fun acts => by rw [doInvoke_state]; exact hsteps⟩
theorem vx_callVW (X : Stand p l e R s m args below meth c T locs cells slots) (hexec : p.tables.exec = Jvm.exec) {own C : String} {index : Nat} {y : MethodName} {bytes : ByteArray} {maxL : Nat} {ret : Option FieldType} {hh : List (Nat × Nat × Nat × Nat)}
    (hown : s.vm.findClass own = some m.cls) (hlink : (Cond.methodLink own index y).before args s = true) (hinst : (Cond.instanceMethod y).before args s = true) (hsel : (Cond.selects C y y).before args s = true)
    (hcode : (Cond.codeWith y bytes maxL ret hh).before args s = true) (hy : y.cls ≠ "java/lang/invoke/MethodHandle" ∧ y.cls ≠ "java/lang/invoke/VarHandle")
    {W9 : Nat} {Pre : Pt → Array Value → Prop} {Post : Pt → Array Value → Option Value → Pt → Prop} (hK : Back l R p e below s args y 3 W9 Pre Post)
    {b : Addr} {cellB : Cell} (hcell : T.heap[b]? = some cellB) (hobj : cellB.vm.isStatics = false) (hcls : s.vm.findClass C = some cellB.cls)
    {g : JFrame} (hg : g.method = m) (hsize : g.locals.size = c.maxLocals) {argsL rest : List Value} (hlen : ∀ sig, parseMethodDescriptor y.desc = some sig → argsL.length = sig.parameters.length)
    (hstack : g.stack = argsL.reverse ++ .ref b :: rest) (hW : 2 * g.monitorRoom + (rest.map fun v => v.category).sum ≤ W9) (hdg : decode c.code g.pc = .ok (.invokevirtual index, 3))
    (hpre : ∀ vm₁, s.WarmedH vm₁ → Pre ⟨T.setVm vm₁, locs, cells, slots⟩ (Value.ref b :: argsL).toArray) :
    ∃ (v : Option Value) (vm₁ : Vm) (B : Pt), s.WarmedH vm₁ ∧ Stand p l e R s m args below meth c B.U B.locs B.cells B.slots ∧ Post ⟨T.setVm vm₁, locs, cells, slots⟩ (Value.ref b :: argsL).toArray v B ∧
      ∀ target, Steps p.tables e below (B.U.setTop { g with pc := g.pc + 3, stack := v.toList ++ rest }) target → Steps p.tables e below (T.setTop g) target := by
  obtain ⟨mk, methM, hnamed, hmethM, hstM, habM⟩ := Cond.instanceMethod_spec hinst
  obtain ⟨m8, methM', cM, hn8, hmethM', -, -, -, -, -, -, hsigM⟩ := Cond.codeWith_spec hcode
  cases Option.some.inj (hn8.symm.trans hnamed)
  cases hmethM.symm.trans hmethM'
  obtain ⟨c2, r2, m2, q1, q2, q3, q4, kP, hkP, hkPi⟩ := Cond.selects_spec hsel
  cases hcls.symm.trans q1
  cases (State.methodFound?_of_named hnamed hy).symm.trans q2
  cases hnamed.symm.trans q3
  have hselP : selectMethod e.platform s.vm cellB.cls mk = .method mk := by rw [Launch.admits_selectMethod X.admits]; exact q4
  obtain ⟨vm₁, X₁, hstep₁⟩ := X.invokevirtual hexec hown hlink hnamed hmethM hstM hkP hkPi hy (a := b) (cell := cellB) hcell
    (fun z h => by rw [h] at hobj; cases hobj) hselP hmethM habM hkP hkPi (g := g) hg (argsL := argsL) (rest := rest) (hlen _ hsigM) hstack hdg
  obtain ⟨v, B, X', hpost, hsteps⟩ := hK m meth c ⟨T.setVm vm₁, locs, cells, slots⟩ { g with stack := rest } (.invokevirtual index) mk (Value.ref b :: argsL).toArray X₁ hg hsize hdg hW (X₁.named hnamed) (hpre vm₁ X₁.warmed)
  exact ⟨v, vm₁, B, X₁.warmed, X', hpost, fun target h => hstep₁ _ fun acts => by rw [doInvoke_state]; exact hsteps.trans h⟩
abbrev vx_CVW (R : Room) (s : State) (args : Array Value) (own C : String) (index : Nat) (y : MethodName) (bytes : ByteArray) (maxL : Nat) (ret : Option FieldType) (hh : List (Nat × Nat × Nat × Nat)) (ws : List Cond) (rm : Room) (mc ms n : Nat) : Prop :=
  (rm.cells = mc ∧ rm.slots = ms ∧ rm.frames + 1 ≤ R.frames ∧ 8 + (maxL + 11) + rm.locals ≤ R.locals ∧ (∀ w ∈ ws, ∀ (a' : Array Value) (U : State), s.WarmedH U.vm → w.before a' U = true) ∧ Cond.codeWith y bytes maxL ret hh ∈ ws) ∧
  (Cond.codeWith y bytes maxL ret hh).before args s = true ∧ (Cond.initialized y.cls).before args s = true ∧ (y.cls ≠ "java/lang/invoke/MethodHandle" ∧ y.cls ≠ "java/lang/invoke/VarHandle") ∧
  (∀ sig, parseMethodDescriptor y.desc = some sig → n = sig.parameters.length) ∧ (Cond.methodLink own index y).before args s = true ∧ (Cond.instanceMethod y).before args s = true ∧ (Cond.selects C y y).before args s = true
theorem vx_cwVW {own C : String} {index maxL mc ms : Nat} {y : MethodName} {bytes : ByteArray} {ret : Option FieldType} {hh : List (Nat × Nat × Nat × Nat)} {Ts ws ws' : List Cond} {rm : Room} (n : Nat) (ht : ∀ w ∈ Ts, w.before args s = true) (hT : GoodIn Ts (wsV own index C y ws)) (hw : ws = Cond.codeWith y bytes maxL ret hh :: ws') (hrc : rm.cells = mc) (hrs : rm.slots = ms)
    (hd : y.cls = C ∧ y.cls ≠ "java/lang/invoke/MethodHandle" ∧ y.cls ≠ "java/lang/invoke/VarHandle" ∧ (parseMethodDescriptor y.desc).map (fun d => d.parameters.length) = some n) (hR : rm.frames + 1 ≤ R.frames ∧ 8 + (maxL + 11) + rm.locals ≤ R.locals) :
    vx_CVW R s args own C index y bytes maxL ret hh ws rm mc ms n := by
  obtain ⟨hC, hd⟩ := hd
  subst hC
  have ok : ∀ w ∈ wsV own index y.cls y ws, w.before args s = true := fun w h => ht w (hT w h).1
  have hG : GoodIn Ts ws := fun w h => hT w (by unfold wsV; exact List.mem_append_right _ h)
  have hc : Cond.codeWith y bytes maxL ret hh ∈ ws := by rw [hw]; exact List.mem_cons_self
  refine ⟨⟨hrc, hrs, hR.1, hR.2, pay_in ht hG, hc⟩, ht _ (hG _ hc).1, ok _ (by simp [wsV]), ⟨hd.1, hd.2.1⟩, fun sig h => ?_, ok _ (by simp [wsV]), ok _ (by simp [wsV]), ok _ (by simp [wsV])⟩
  have h2 := hd.2.2
  rw [h] at h2
  exact (Option.some.inj h2).symm
theorem vx_runVW {y : MethodName} {bytes cc : ByteArray} {maxL nL mc ms n index : Nat} {ret : Option FieldType} {hh : List (Nat × Nat × Nat × Nat)} {ws : List Cond} {rm : Room} {Pc : Array Value → State → Prop} {Qc : Array Value → State → Outcome → State → Prop} {free : Addr → Prop} {Ts : List Cond} {own C : String} {b : Addr} {As rest : List Value} {g : JFrame}
    (S : CallFix p m c cc nL s args Ts own) (hM : Met l y ws rm Pc Qc mc ms free) (cw : vx_CVW R s args own C index y bytes maxL ret hh ws rm mc ms n) (hp : PreV s H C b Pc As)
    (hg : g.method = m) (hn : As.length = n) (hsize : g.locals.size = nL) (hstack : g.stack = As.reverse ++ .ref b :: rest) (hW : 2 * g.monitorRoom + (rest.map fun v => v.category).sum ≤ 8) (hdg : decode cc g.pc = .ok (.invokevirtual index, 3)) (hf : cells + mc ≤ R.cells ∧ slots + ms ≤ R.slots) :
    va_Run p l e R s m args below meth c H locs cells slots mc ms g rest (Qc (Value.ref b :: As).toArray) free := by
  obtain ⟨⟨hrc, hrs, hfr, hlo, hws, hcw⟩, hcode, hini, hy, hlen, hl, hin, hse⟩ := cw
  have hK : Back l R p e below s args y 3 8 (PreOf R mc ms Pc) (PostOf Qc mc ms free) := va_backW (hh := hh) (bytes := bytes) (maxL := maxL) (ret := ret) hM hp.1 hrc hrs hfr hlo hws hcw (fun a' U hW => word_at hW (Or.inl (by first | rfl | simp [Cond.onTables, Cond.keeps, Cond.steady])) hini)
  obtain ⟨hx, hb, hml, ho, -⟩ := S
  obtain ⟨-, ⟨cellB, hcB, hoB, hclB⟩, hPc⟩ := hp
  intro T hT X
  obtain ⟨v, vm₁, ⟨U', l2, c2, s2⟩, hW₁, X', ⟨g', mk, t, L, e1, e2, hq, h1, hL, h2, h3⟩, st⟩ := vx_callVW X hx (C := C) (hh := hh) (bytes := bytes) (maxL := maxL) (ret := ret) ho hl hin hse hcode hy hK (by rw [hT]; exact hcB) hoB hclB hg (hsize.trans hml.symm) (argsL := As) (rest := rest) (fun sig h => hn.trans (hlen sig h)) hstack hW (by rw [hb]; exact hdg)
    (fun vm₁ hW₁ => ⟨hf.1, hf.2, hPc (T.setVm vm₁) hT hW₁⟩)
  dsimp only [Pt.U, Pt.locs, Pt.cells, Pt.slots] at X' e1 e2 h1 h2 h3 st
  subst h1; subst h2; subst h3
  exact ⟨v, (T.setVm vm₁).calling g' mk (Value.ref b :: As).toArray, t, U', L, hT, X', hL, e1, e2, hq, st⟩
section
variable {y : MethodName} {bytes cc : ByteArray} {maxL nL mc ms n index : Nat} {ret : Option FieldType} {ws : List Cond} {rm : Room} {Pc : Array Value → State → Prop} {Qc : Array Value → State → Outcome → State → Prop} {XC : String → State → State → Prop} {free : Addr → Prop} {Ts : List Cond} {own C : String} {b : Addr} {As rest : List Value} {g : JFrame}
theorem vx_runVX {hh : List (Nat × Nat × Nat × Nat)} (S : CallFix p m c cc nL s args Ts own) (hM : vx_Met l y ws rm Pc Qc XC mc ms free) (cw : vx_CVW R s args own C index y bytes maxL ret hh ws rm mc ms n) (hp : PreV s H C b Pc As)
    (hg : g.method = m) (hn : As.length = n) (hsize : g.locals.size = nL) (hstack : g.stack = As.reverse ++ .ref b :: rest) (hW : 2 * g.monitorRoom + (rest.map fun v => v.category).sum ≤ 8) (hdg : decode cc g.pc = .ok (.invokevirtual index, 3)) (hf : cells + mc ≤ R.cells ∧ slots + ms ≤ R.slots) :
    vx_Run p l e R s m args below meth c H locs cells slots mc ms g rest (Qc (Value.ref b :: As).toArray) XC free := by
  obtain ⟨⟨hrc, hrs, hfr, hlo, hws, hcw⟩, hcode, hini, hy, hlen, hl, hin, hse⟩ := cw
  have hK : vx_Back l R p e below s args y 3 8 (PreOf R mc ms Pc) (PostOf Qc mc ms free) (vx_Post XC mc ms free) := vx_backW (hh := hh) (bytes := bytes) (maxL := maxL) (ret := ret) hM hp.1 hrc hrs hfr hlo hws hcw (fun a' U hW => word_at hW (Or.inl (by first | rfl | simp [Cond.onTables, Cond.keeps, Cond.steady])) hini)
  obtain ⟨hx, hb, hml, ho, -⟩ := S
  obtain ⟨-, ⟨cellB, hcB, hoB, hclB⟩, hPc⟩ := hp
  intro T hT X
  rcases vx_callVX X hx (C := C) (hh := hh) (bytes := bytes) (maxL := maxL) (ret := ret) ho hl hin hse hcode hy hK (by rw [hT]; exact hcB) hoB hclB hg (hsize.trans hml.symm) (argsL := As) (rest := rest) (fun sig h => hn.trans (hlen sig h)) hstack hW (by rw [hb]; exact hdg)
    (fun vm₁ hW₁ => ⟨hf.1, hf.2, hPc (T.setVm vm₁) hT hW₁⟩) with ⟨v, vm₁, ⟨U', l2, c2, s2⟩, hW₁, X', ⟨g', mk, t, L, e1, e2, hq, h1, hL, h2, h3⟩, st⟩ | ⟨q, vm₁, ⟨U', l2, c2, s2⟩, hW₁, X', ⟨g', mk, t, L, E, ce, e1, e2, hq, hce, hcv, hcl, h1, hL, h2, h3⟩, st⟩
  · dsimp only [Pt.U, Pt.locs, Pt.cells, Pt.slots] at X' e1 e2 h1 h2 h3 st
    subst h1; subst h2; subst h3
    exact Or.inl ⟨v, (T.setVm vm₁).calling g' mk (Value.ref b :: As).toArray, t, U', L, hT, X', hL, e1, e2, hq, st⟩
  · dsimp only [Pt.U, Pt.locs, Pt.cells, Pt.slots] at X' e1 e2 h1 h2 h3 st hcl
    subst h1; subst h2; subst h3
    exact Or.inr ⟨q, (T.setVm vm₁).calling g' mk (Value.ref b :: As).toArray, t, U', L, E, ce, hT, X', hL, e1, e2, hq, hce, hcv, vx_cls hW₁ hcl, st⟩
theorem vx_runSX {hh : List (Nat × Nat × Nat × Nat)} (S : CallFix p m c cc nL s args Ts own) (hM : vx_Met l y ws rm Pc Qc XC mc ms free) (cw : vx_CSW R s args own index y bytes maxL ret hh ws rm mc ms n) (hp : PreS s H Pc As)
    (hg : g.method = m) (hn : As.length = n) (hsize : g.locals.size = nL) (hstack : g.stack = As.reverse ++ rest) (hW : 2 * g.monitorRoom + (rest.map fun v => v.category).sum ≤ 8) (hdg : decode cc g.pc = .ok (.invokestatic index, 3)) (hf : cells + mc ≤ R.cells ∧ slots + ms ≤ R.slots) :
    vx_Run p l e R s m args below meth c H locs cells slots mc ms g rest (Qc As.toArray) XC free := by
  obtain ⟨⟨hrc, hrs, hfr, hlo, hws, hcw⟩, hcode, hini, hy, hlen, hl, hstt⟩ := cw
  have hK : vx_Back l R p e below s args y 3 8 (PreOf R mc ms Pc) (PostOf Qc mc ms free) (vx_Post XC mc ms free) := vx_backW (hh := hh) (bytes := bytes) (maxL := maxL) (ret := ret) hM hp.1 hrc hrs hfr hlo hws hcw (fun a' U hW => word_at hW (Or.inl (by first | rfl | simp [Cond.onTables, Cond.keeps, Cond.steady])) hini)
  obtain ⟨hx, hb, hml, ho, -⟩ := S
  intro T hT X
  rcases vx_callSX X hx (hh := hh) (bytes := bytes) (maxL := maxL) (ret := ret) ho hl hstt hini hcode hy hK hg (hsize.trans hml.symm) (argsL := As) (rest := rest) (fun sig h => hn.trans (hlen sig h)) hstack hW (by rw [hb]; exact hdg)
    (fun vm₁ hW₁ => ⟨hf.1, hf.2, hp.2 (T.setVm vm₁) hT hW₁⟩) with ⟨v, vm₁, ⟨U', l2, c2, s2⟩, hW₁, X', ⟨g', mk, t, L, e1, e2, hq, h1, hL, h2, h3⟩, st⟩ | ⟨q, vm₁, ⟨U', l2, c2, s2⟩, hW₁, X', ⟨g', mk, t, L, E, ce, e1, e2, hq, hce, hcv, hcl, h1, hL, h2, h3⟩, st⟩
  · dsimp only [Pt.U, Pt.locs, Pt.cells, Pt.slots] at X' e1 e2 h1 h2 h3 st
    subst h1; subst h2; subst h3
    exact Or.inl ⟨v, (T.setVm vm₁).calling g' mk As.toArray, t, U', L, hT, X', hL, e1, e2, hq, st⟩
  · dsimp only [Pt.U, Pt.locs, Pt.cells, Pt.slots] at X' e1 e2 h1 h2 h3 st hcl
    subst h1; subst h2; subst h3
    exact Or.inr ⟨q, (T.setVm vm₁).calling g' mk As.toArray, t, U', L, E, ce, hT, X', hL, e1, e2, hq, hce, hcv, vx_cls hW₁ hcl, st⟩
end
end VXH
theorem vx_ofWH {l : Launch} {y : MethodName} {ws ws' : List Cond} {rm : Room} {Pc : Array Value → State → Prop} {Qc : Array Value → State → Outcome → State → Prop} {XC : String → State → State → Prop} {mc ms : Nat} {free : Addr → Prop} {cc : ByteArray} {maxL : Nat} {ret : Option FieldType} {hh : List (Nat × Nat × Nat × Nat)}
    (hy : plainName y.cls = true) (hw : ws = Cond.codeWith y cc maxL ret hh :: ws')
    (body : ∀ p e s m args below meth c s₁, BodyLoose p l y (headSpec ws rm) cc maxL ret e s m args below meth c s₁ → c.maxLocals = maxL → Pc args s →
      W p l e (headSpec ws rm).room s m args below meth c s.heap [] 0 0 (vx_MQ below Qc XC args s mc ms free) (entryFrame m args maxL)) : vx_Met l y ws rm Pc Qc XC mc ms free := by
  refine MetFree.of_bodyS (code := cc) (maxLocals := maxL) (ret := ret) hy ?_ ?_
  · intro args s m h hn
    obtain ⟨m9, meth, c, hn9, h1, h2, h3, h4, -, h5, h6, -⟩ := Cond.codeWith_spec (atoms_spec (ws := ws) h _ (by rw [hw]; exact List.mem_cons_self))
    cases hn.symm.trans hn9
    exact ⟨meth, c, h1, h2, h3, h4, h5, h6⟩
  · intro p e s m args below meth c s₁ B hml hP _
    have hh0 : s₁.heap = s.heap := by rw [B.state]; rfl
    obtain ⟨t, a1, o, b1, b2, b3⟩ := body p e s m args below meth c s₁ B hml hP s₁ hh0 (Stand.of_body B)
    exact ⟨t, o, a1, b1, b2, b3⟩
/-! ===== END ===== -/

/-! ===== BEGIN printed: names, fields, word lists, decode rows ===== -/
def RX0 : String := "SiloPads$Ship"
def TX0 : u_T := fun k => match k with
  | 0 => ("SiloPads$Ship", "tonnes", "I", false)
  | _ => ("SiloPads$Ship", "hold", "I", false)
def tyX0 : Nat → FieldType := fun k => match k with
  | 0 => .int
  | _ => .int
abbrev wsX00 : List Cond := u_ws RX0 TX0 2
theorem nmX0 : ∀ a, a < 2 → ∀ b, b < 2 → a ≠ b → (TX0 a).2.1 ≠ (TX0 b).2.1 := by decide +kernel
theorem tyX0_ok : ∀ k, k < 2 → parseFieldDescriptor (TX0 k).2.2.1 = some (tyX0 k) := by decide +kernel
abbrev cX0_init : ByteArray := prog_2_method_1_code
def yX0_init : MethodName := ⟨RX0, "<init>", "()V"⟩
abbrev cX0_becomeLike : ByteArray := prog_2_method_2_code
def yX0_becomeLike : MethodName := ⟨RX0, "becomeLike", "(LSiloPads$Ship;)V"⟩
abbrev cX0_room : ByteArray := prog_2_method_3_code
def yX0_room : MethodName := ⟨RX0, "room", "()I"⟩
def RX1 : String := "SiloPads$Silo"
def TX1 : u_T := fun k => match k with
  | 0 => ("SiloPads$Silo", "tonnes", "[I", true)
  | 1 => ("SiloPads$Silo", "ages", "[I", true)
  | 2 => ("SiloPads$Silo", "layers", "I", false)
  | 3 => ("SiloPads$Silo", "padsOn", "I", false)
  | 4 => ("SiloPads$Silo", "arch", "I", false)
  | _ => ("SiloPads$Silo", "shakes", "I", false)
def tyX1 : Nat → FieldType := fun k => match k with
  | 0 => .array .int
  | 1 => .array .int
  | 2 => .int
  | 3 => .int
  | 4 => .int
  | _ => .int
abbrev wsX10 : List Cond := u_ws RX1 TX1 6
theorem nmX1 : ∀ a, a < 6 → ∀ b, b < 6 → a ≠ b → (TX1 a).2.1 ≠ (TX1 b).2.1 := by decide +kernel
theorem tyX1_ok : ∀ k, k < 6 → parseFieldDescriptor (TX1 k).2.2.1 = some (tyX1 k) := by decide +kernel
abbrev cX1_init : ByteArray := prog_3_method_1_code
def yX1_init : MethodName := ⟨RX1, "<init>", "()V"⟩
abbrev cX1_becomeLike : ByteArray := prog_3_method_2_code
def yX1_becomeLike : MethodName := ⟨RX1, "becomeLike", "(LSiloPads$Silo;)V"⟩
abbrev cX1_total : ByteArray := prog_3_method_3_code
def yX1_total : MethodName := ⟨RX1, "total", "()I"⟩
abbrev cX1_totalFrom : ByteArray := prog_3_method_4_code
def yX1_totalFrom : MethodName := ⟨RX1, "totalFrom", "(I)I"⟩
abbrev cX1_tonnesHeld : ByteArray := prog_3_method_5_code
def yX1_tonnesHeld : MethodName := ⟨RX1, "tonnesHeld", "()I"⟩
abbrev cX1_canGetArch : ByteArray := prog_3_method_6_code
def yX1_canGetArch : MethodName := ⟨RX1, "canGetArch", "()Z"⟩
abbrev cX1_placeOnTop : ByteArray := prog_3_method_7_code
def yX1_placeOnTop : MethodName := ⟨RX1, "placeOnTop", "()I"⟩
abbrev cX1_place : ByteArray := prog_3_method_8_code
def yX1_place : MethodName := ⟨RX1, "place", "()I"⟩
abbrev cX1_fill : ByteArray := prog_3_method_9_code
def yX1_fill : MethodName := ⟨RX1, "fill", "(I)V"⟩
abbrev cX1_takeFromLowest : ByteArray := prog_3_method_10_code
def yX1_takeFromLowest : MethodName := ⟨RX1, "takeFromLowest", "(I)V"⟩
abbrev cX1_makeOlder : ByteArray := prog_3_method_11_code
def yX1_makeOlder : MethodName := ⟨RX1, "makeOlder", "()V"⟩
abbrev cX1_makeLowestYounger : ByteArray := prog_3_method_12_code
def yX1_makeLowestYounger : MethodName := ⟨RX1, "makeLowestYounger", "()V"⟩
def RX2 : String := "SiloPads$TextReader"
def TX2 : u_T := fun k => match k with
  | 0 => ("SiloPads$TextReader", "place", "I", false)
  | 1 => ("SiloPads$TextReader", "silo", "I", false)
  | 2 => ("SiloPads$TextReader", "ship", "I", false)
  | 3 => ("SiloPads$TextReader", "kind", "I", false)
  | _ => ("SiloPads$TextReader", "number", "I", false)
def tyX2 : Nat → FieldType := fun k => match k with
  | 0 => .int
  | 1 => .int
  | 2 => .int
  | 3 => .int
  | _ => .int
abbrev wsX20 : List Cond := u_ws RX2 TX2 5
theorem nmX2 : ∀ a, a < 5 → ∀ b, b < 5 → a ≠ b → (TX2 a).2.1 ≠ (TX2 b).2.1 := by decide +kernel
theorem tyX2_ok : ∀ k, k < 5 → parseFieldDescriptor (TX2 k).2.2.1 = some (tyX2 k) := by decide +kernel
abbrev cX2_init : ByteArray := prog_4_method_1_code
def yX2_init : MethodName := ⟨RX2, "<init>", "()V"⟩
def RX3 : String := "SiloPads$Yard"
def TX3 : u_T := fun k => match k with
  | 0 => ("SiloPads$Yard", "silos", "[LSiloPads$Silo;", true)
  | 1 => ("SiloPads$Yard", "ships", "[LSiloPads$Ship;", true)
  | 2 => ("SiloPads$Yard", "settings", "[I", true)
  | 3 => ("SiloPads$Yard", "days", "I", false)
  | 4 => ("SiloPads$Yard", "dust", "I", false)
  | 5 => ("SiloPads$Yard", "brought", "I", false)
  | 6 => ("SiloPads$Yard", "gone", "I", false)
  | 7 => ("SiloPads$Yard", "shakes", "I", false)
  | _ => ("SiloPads$Yard", "formed", "I", false)
def tyX3 : Nat → FieldType := fun k => match k with
  | 0 => .array (.object "SiloPads$Silo")
  | 1 => .array (.object "SiloPads$Ship")
  | 2 => .array .int
  | 3 => .int
  | 4 => .int
  | 5 => .int
  | 6 => .int
  | 7 => .int
  | _ => .int
abbrev wsX30 : List Cond := u_ws RX3 TX3 9
theorem nmX3 : ∀ a, a < 9 → ∀ b, b < 9 → a ≠ b → (TX3 a).2.1 ≠ (TX3 b).2.1 := by decide +kernel
theorem tyX3_ok : ∀ k, k < 9 → parseFieldDescriptor (TX3 k).2.2.1 = some (tyX3 k) := by decide +kernel
abbrev cX3_init : ByteArray := prog_5_method_1_code
def yX3_init : MethodName := ⟨RX3, "<init>", "()V"⟩
abbrev cX3_becomeLike : ByteArray := prog_5_method_2_code
def yX3_becomeLike : MethodName := ⟨RX3, "becomeLike", "(LSiloPads$Yard;)V"⟩
abbrev cX3_siloTonnes : ByteArray := prog_5_method_3_code
def yX3_siloTonnes : MethodName := ⟨RX3, "siloTonnes", "()I"⟩
abbrev cX3_shipTonnes : ByteArray := prog_5_method_4_code
def yX3_shipTonnes : MethodName := ⟨RX3, "shipTonnes", "()I"⟩
abbrev cX3_padsOn : ByteArray := prog_5_method_5_code
def yX3_padsOn : MethodName := ⟨RX3, "padsOn", "()I"⟩
abbrev cX3_arches : ByteArray := prog_5_method_6_code
def yX3_arches : MethodName := ⟨RX3, "arches", "()I"⟩
def RX4 : String := "SiloPads"
def TX4 : u_T := fun k => match k with
  | 0 => ("SiloPads", "now", "LSiloPads$Yard;", true)
  | 1 => ("SiloPads", "saved", "[LSiloPads$Yard;", true)
  | 2 => ("SiloPads", "savedStates", "I", false)
  | 3 => ("SiloPads", "codes", "[I", true)
  | 4 => ("SiloPads", "length", "I", false)
  | 5 => ("SiloPads", "reader", "LSiloPads$TextReader;", true)
  | 6 => ("SiloPads", "trialSilo", "LSiloPads$Silo;", true)
  | _ => ("SiloPads", "trialShip", "LSiloPads$Ship;", true)
def tyX4 : Nat → FieldType := fun k => match k with
  | 0 => .object "SiloPads$Yard"
  | 1 => .array (.object "SiloPads$Yard")
  | 2 => .int
  | 3 => .array .int
  | 4 => .int
  | 5 => .object "SiloPads$TextReader"
  | 6 => .object "SiloPads$Silo"
  | _ => .object "SiloPads$Ship"
abbrev wsX40 : List Cond := u_ws RX4 TX4 8
theorem nmX4 : ∀ a, a < 8 → ∀ b, b < 8 → a ≠ b → (TX4 a).2.1 ≠ (TX4 b).2.1 := by decide +kernel
theorem tyX4_ok : ∀ k, k < 8 → parseFieldDescriptor (TX4 k).2.2.1 = some (tyX4 k) := by decide +kernel
abbrev cX4_init : ByteArray := prog_1_method_1_code
def yX4_init : MethodName := ⟨RX4, "<init>", "()V"⟩
abbrev cX4_ship : ByteArray := prog_1_method_2_code
def yX4_ship : MethodName := ⟨RX4, "ship", "(III)I"⟩
abbrev cX4_unload : ByteArray := prog_1_method_3_code
def yX4_unload : MethodName := ⟨RX4, "unload", "(III)I"⟩
abbrev cX4_flow : ByteArray := prog_1_method_4_code
def yX4_flow : MethodName := ⟨RX4, "flow", "(III)I"⟩
abbrev cX4_pads : ByteArray := prog_1_method_5_code
def yX4_pads : MethodName := ⟨RX4, "pads", "(II)I"⟩
abbrev cX4_shake : ByteArray := prog_1_method_6_code
def yX4_shake : MethodName := ⟨RX4, "shake", "(I)I"⟩
abbrev cX4_pass : ByteArray := prog_1_method_7_code
def yX4_pass : MethodName := ⟨RX4, "pass", "(I)I"⟩
abbrev cX4_set : ByteArray := prog_1_method_8_code
def yX4_set : MethodName := ⟨RX4, "set", "(II)I"⟩
abbrev cX4_undo : ByteArray := prog_1_method_13_code
def yX4_undo : MethodName := ⟨RX4, "undo", "()I"⟩
abbrev cX4_silo : ByteArray := prog_1_method_14_code
def yX4_silo : MethodName := ⟨RX4, "silo", "(II)I"⟩
abbrev cX4_layer : ByteArray := prog_1_method_15_code
def yX4_layer : MethodName := ⟨RX4, "layer", "(III)I"⟩
abbrev cX4_shipOf : ByteArray := prog_1_method_16_code
def yX4_shipOf : MethodName := ⟨RX4, "shipOf", "(II)I"⟩
abbrev cX4_count : ByteArray := prog_1_method_17_code
def yX4_count : MethodName := ⟨RX4, "count", "(I)I"⟩
abbrev cX4_whyNot : ByteArray := prog_1_method_18_code
def yX4_whyNot : MethodName := ⟨RX4, "whyNot", "(II)I"⟩
abbrev cX4_urgent : ByteArray := prog_1_method_20_code
def yX4_urgent : MethodName := ⟨RX4, "urgent", "()I"⟩
abbrev cX4_shakesNeeded : ByteArray := prog_1_method_22_code
def yX4_shakesNeeded : MethodName := ⟨RX4, "shakesNeeded", "(I)I"⟩
abbrev cX4_softness : ByteArray := prog_1_method_23_code
def yX4_softness : MethodName := ⟨RX4, "softness", "()D"⟩
abbrev cX4_isNoSilo : ByteArray := prog_1_method_25_code
def yX4_isNoSilo : MethodName := ⟨RX4, "isNoSilo", "(I)Z"⟩
abbrev cX4_isNoShip : ByteArray := prog_1_method_26_code
def yX4_isNoShip : MethodName := ⟨RX4, "isNoShip", "(I)Z"⟩
abbrev cX4_saveState : ByteArray := prog_1_method_27_code
def yX4_saveState : MethodName := ⟨RX4, "saveState", "()V"⟩
abbrev cX4_bringIn : ByteArray := prog_1_method_28_code
def yX4_bringIn : MethodName := ⟨RX4, "bringIn", "(LSiloPads$Silo;LSiloPads$Ship;I)I"⟩
abbrev cX4_letOut : ByteArray := prog_1_method_29_code
def yX4_letOut : MethodName := ⟨RX4, "letOut", "(LSiloPads$Silo;LSiloPads$Ship;I)I"⟩
abbrev cX4_pour : ByteArray := prog_1_method_30_code
def yX4_pour : MethodName := ⟨RX4, "pour", "(LSiloPads$Silo;LSiloPads$Ship;I)I"⟩
abbrev cX4_pourForHour : ByteArray := prog_1_method_31_code
def yX4_pourForHour : MethodName := ⟨RX4, "pourForHour", "(LSiloPads$Silo;LSiloPads$Ship;)I"⟩
abbrev cX4_dustOf : ByteArray := prog_1_method_32_code
def yX4_dustOf : MethodName := ⟨RX4, "dustOf", "(I)I"⟩
abbrev cX4_outInHour : ByteArray := prog_1_method_33_code
def yX4_outInHour : MethodName := ⟨RX4, "outInHour", "(LSiloPads$Silo;I)I"⟩
abbrev cX4_hardnessAt : ByteArray := prog_1_method_34_code
def yX4_hardnessAt : MethodName := ⟨RX4, "hardnessAt", "(I)I"⟩
abbrev cX4_softTonnes : ByteArray := prog_1_method_35_code
def yX4_softTonnes : MethodName := ⟨RX4, "softTonnes", "(LSiloPads$Silo;)I"⟩
abbrev cX4_passDays : ByteArray := prog_1_method_36_code
def yX4_passDays : MethodName := ⟨RX4, "passDays", "(I)I"⟩
abbrev cX4_passDayIn : ByteArray := prog_1_method_37_code
def yX4_passDayIn : MethodName := ⟨RX4, "passDayIn", "(LSiloPads$Silo;)I"⟩
abbrev cX4_shakesToBreak : ByteArray := prog_1_method_39_code
def yX4_shakesToBreak : MethodName := ⟨RX4, "shakesToBreak", "(LSiloPads$Silo;)I"⟩
abbrev cX4_isMoreUrgent : ByteArray := prog_1_method_40_code
def yX4_isMoreUrgent : MethodName := ⟨RX4, "isMoreUrgent", "(LSiloPads$Silo;LSiloPads$Silo;)Z"⟩
def RX5 : String := "SiloPadsModel"
def TX5 : u_T := fun k => match k with
  | _ => ("", "", "", false)
def tyX5 : Nat → FieldType := fun k => match k with
  | _ => .int
abbrev wsX50 : List Cond := u_ws RX5 TX5 0
theorem nmX5 : ∀ a, a < 0 → ∀ b, b < 0 → a ≠ b → (TX5 a).2.1 ≠ (TX5 b).2.1 := by decide +kernel
theorem tyX5_ok : ∀ k, k < 0 → parseFieldDescriptor (TX5 k).2.2.1 = some (tyX5 k) := by decide +kernel
def RJx8e188 : String := "java/lang/Cloneable"
def TJx8e188 : u_T := fun k => match k with
  | _ => ("", "", "", false)
def tyJx8e188 : Nat → FieldType := fun k => match k with
  | _ => .int
abbrev wsJx8e1880 : List Cond := u_ws RJx8e188 TJx8e188 0
theorem nmJx8e188 : ∀ a, a < 0 → ∀ b, b < 0 → a ≠ b → (TJx8e188 a).2.1 ≠ (TJx8e188 b).2.1 := by decide +kernel
theorem tyJx8e188_ok : ∀ k, k < 0 → parseFieldDescriptor (TJx8e188 k).2.2.1 = some (tyJx8e188 k) := by decide +kernel
def RJ9 : String := "java/lang/Math"
def TJ9 : u_T := fun k => match k with
  | _ => ("", "", "", false)
def tyJ9 : Nat → FieldType := fun k => match k with
  | _ => .int
abbrev wsJ90 : List Cond := u_ws RJ9 TJ9 0
theorem nmJ9 : ∀ a, a < 0 → ∀ b, b < 0 → a ≠ b → (TJ9 a).2.1 ≠ (TJ9 b).2.1 := by decide +kernel
theorem tyJ9_ok : ∀ k, k < 0 → parseFieldDescriptor (TJ9 k).2.2.1 = some (tyJ9 k) := by decide +kernel
abbrev cJ9_max_7cf53 : ByteArray := prog_13_method_65_code
def yJ9_max_7cf53 : MethodName := ⟨RJ9, "max", "(II)I"⟩
abbrev cJ9_min_7cf53 : ByteArray := prog_13_method_69_code
def yJ9_min_7cf53 : MethodName := ⟨RJ9, "min", "(II)I"⟩
def RJ0 : String := "java/lang/String"
def TJ0 : u_T := fun k => match k with
  | _ => ("", "", "", false)
def tyJ0 : Nat → FieldType := fun k => match k with
  | _ => .int
abbrev wsJ00 : List Cond := u_ws RJ0 TJ0 0
theorem nmJ0 : ∀ a, a < 0 → ∀ b, b < 0 → a ≠ b → (TJ0 a).2.1 ≠ (TJ0 b).2.1 := by decide +kernel
theorem tyJ0_ok : ∀ k, k < 0 → parseFieldDescriptor (TJ0 k).2.2.1 = some (tyJ0 k) := by decide +kernel
def RL : String := "SiloPadsLaw"
abbrev cL_cell : ByteArray := method_2_code
def yL_cell : MethodName := ⟨RL, "cell", "([II)I"⟩
abbrev cL_low : ByteArray := method_3_code
def yL_low : MethodName := ⟨RL, "low", "(II)I"⟩
abbrev cL_told : ByteArray := method_4_code
def yL_told : MethodName := ⟨RL, "told", "(LSiloPads;)J"⟩
abbrev cL_act : ByteArray := method_5_code
def yL_act : MethodName := ⟨RL, "act", "(LSiloPads;II)I"⟩
abbrev cL_holds : ByteArray := method_6_code
def yL_holds : MethodName := ⟨RL, "holds", "(LSiloPads;)Z"⟩
abbrev cL_law : ByteArray := code
def yL_law : MethodName := ⟨RL, "law", "([I)Z"⟩
def wsX0_init : List Cond := .code yX0_init cX0_init 1 none :: ([.methodLink RX0 3 objectInit, .instanceMethod objectInit, .code objectInit ⟨#[0xb1]⟩ 1 none, .fieldLink RX0 9 "SiloPads$Ship" "tonnes" "I", .fieldLink RX0 15 "SiloPads$Ship" "hold" "I"] ++ wsX00)
def wsX0_becomeLike : List Cond := .code yX0_becomeLike cX0_becomeLike 2 none :: ([.fieldLink RX0 9 "SiloPads$Ship" "tonnes" "I", .fieldLink RX0 15 "SiloPads$Ship" "hold" "I"] ++ wsX00)
def wsX0_room : List Cond := .code yX0_room cX0_room 1 (some .int) :: ([.fieldLink RX0 15 "SiloPads$Ship" "hold" "I", .fieldLink RX0 9 "SiloPads$Ship" "tonnes" "I"] ++ wsX00)
def wsX1_init : List Cond := .code yX1_init cX1_init 1 none :: ([.methodLink RX1 3 objectInit, .instanceMethod objectInit, .code objectInit ⟨#[0xb1]⟩ 1 none, .arrayClass .int, .fieldLink RX1 9 "SiloPads$Silo" "tonnes" "[I", .fieldLink RX1 15 "SiloPads$Silo" "ages" "[I", .fieldLink RX1 18 "SiloPads$Silo" "layers" "I", .fieldLink RX1 22 "SiloPads$Silo" "padsOn" "I", .fieldLink RX1 25 "SiloPads$Silo" "arch" "I", .fieldLink RX1 28 "SiloPads$Silo" "shakes" "I"] ++ wsX10)
def wsX1_becomeLike : List Cond := .code yX1_becomeLike cX1_becomeLike 3 none :: ([.fieldLink RX1 9 "SiloPads$Silo" "tonnes" "[I", .fieldLink RX1 15 "SiloPads$Silo" "ages" "[I", .fieldLink RX1 18 "SiloPads$Silo" "layers" "I", .fieldLink RX1 22 "SiloPads$Silo" "padsOn" "I", .fieldLink RX1 25 "SiloPads$Silo" "arch" "I", .fieldLink RX1 28 "SiloPads$Silo" "shakes" "I"] ++ wsX10)
def wsX1_totalFrom : List Cond := .code yX1_totalFrom cX1_totalFrom 4 (some .int) :: ([.fieldLink RX1 18 "SiloPads$Silo" "layers" "I", .fieldLink RX1 9 "SiloPads$Silo" "tonnes" "[I"] ++ wsX10)
def wsX1_total : List Cond := .code yX1_total cX1_total 1 (some .int) :: ([.methodLink RX1 31 yX1_totalFrom, .instanceMethod yX1_totalFrom, .selects RX1 yX1_totalFrom yX1_totalFrom, .initialized RX1, .code yX1_totalFrom cX1_totalFrom 4 (some .int), .fieldLink RX1 18 "SiloPads$Silo" "layers" "I", .fieldLink RX1 9 "SiloPads$Silo" "tonnes" "[I"] ++ wsX10)
def wsX1_tonnesHeld : List Cond := .code yX1_tonnesHeld cX1_tonnesHeld 1 (some .int) :: ([.fieldLink RX1 25 "SiloPads$Silo" "arch" "I", .methodLink RX1 31 yX1_totalFrom, .instanceMethod yX1_totalFrom, .selects RX1 yX1_totalFrom yX1_totalFrom, .initialized RX1, .code yX1_totalFrom cX1_totalFrom 4 (some .int), .fieldLink RX1 18 "SiloPads$Silo" "layers" "I", .fieldLink RX1 9 "SiloPads$Silo" "tonnes" "[I"] ++ wsX10)
def wsX1_canGetArch : List Cond := .code yX1_canGetArch cX1_canGetArch 1 (some .boolean) :: ([.fieldLink RX1 18 "SiloPads$Silo" "layers" "I", .fieldLink RX1 25 "SiloPads$Silo" "arch" "I"] ++ wsX10)
def wsX1_placeOnTop : List Cond := .code yX1_placeOnTop cX1_placeOnTop 1 (some .int) :: ([.fieldLink RX1 18 "SiloPads$Silo" "layers" "I", .fieldLink RX1 15 "SiloPads$Silo" "ages" "[I", .fieldLink RX1 9 "SiloPads$Silo" "tonnes" "[I"] ++ wsX10)
def wsX1_place : List Cond := .code yX1_place cX1_place 2 (some .int) :: ([.fieldLink RX1 18 "SiloPads$Silo" "layers" "I", .methodLink RX1 42 Lib.Math.min.name, .static Lib.Math.min.name, .initialized "java/lang/Math", .code Lib.Math.min.name Lib.Math.min.code 2 (some .int), .methodLink RX1 35 yX1_total, .instanceMethod yX1_total, .selects RX1 yX1_total yX1_total, .initialized RX1, .code yX1_total cX1_total 1 (some .int), .methodLink RX1 31 yX1_totalFrom, .instanceMethod yX1_totalFrom, .selects RX1 yX1_totalFrom yX1_totalFrom, .code yX1_totalFrom cX1_totalFrom 4 (some .int), .fieldLink RX1 9 "SiloPads$Silo" "tonnes" "[I", .methodLink RX1 39 yX1_placeOnTop, .instanceMethod yX1_placeOnTop, .selects RX1 yX1_placeOnTop yX1_placeOnTop, .code yX1_placeOnTop cX1_placeOnTop 1 (some .int), .fieldLink RX1 15 "SiloPads$Silo" "ages" "[I"] ++ wsX10)
def wsX1_fill : List Cond := .code yX1_fill cX1_fill 4 none :: ([.methodLink RX1 42 Lib.Math.min.name, .static Lib.Math.min.name, .initialized "java/lang/Math", .code Lib.Math.min.name Lib.Math.min.code 2 (some .int), .fieldLink RX1 18 "SiloPads$Silo" "layers" "I", .fieldLink RX1 9 "SiloPads$Silo" "tonnes" "[I", .fieldLink RX1 15 "SiloPads$Silo" "ages" "[I", .fieldLink RX1 28 "SiloPads$Silo" "shakes" "I", .methodLink RX1 39 yX1_placeOnTop, .instanceMethod yX1_placeOnTop, .selects RX1 yX1_placeOnTop yX1_placeOnTop, .initialized RX1, .code yX1_placeOnTop cX1_placeOnTop 1 (some .int)] ++ wsX10)
def wsX1_takeFromLowest : List Cond := .code yX1_takeFromLowest cX1_takeFromLowest 3 none :: ([.fieldLink RX1 9 "SiloPads$Silo" "tonnes" "[I", .fieldLink RX1 18 "SiloPads$Silo" "layers" "I", .fieldLink RX1 15 "SiloPads$Silo" "ages" "[I", .fieldLink RX1 25 "SiloPads$Silo" "arch" "I"] ++ wsX10)
def wsX1_makeOlder : List Cond := .code yX1_makeOlder cX1_makeOlder 2 none :: ([.fieldLink RX1 18 "SiloPads$Silo" "layers" "I", .fieldLink RX1 15 "SiloPads$Silo" "ages" "[I"] ++ wsX10)
def wsX1_makeLowestYounger : List Cond := .code yX1_makeLowestYounger cX1_makeLowestYounger 1 none :: ([.fieldLink RX1 15 "SiloPads$Silo" "ages" "[I", .methodLink RX1 48 Lib.Math.max.name, .static Lib.Math.max.name, .initialized "java/lang/Math", .code Lib.Math.max.name Lib.Math.max.code 2 (some .int)] ++ wsX10)
def wsX2_init : List Cond := .code yX2_init cX2_init 1 none :: ([.methodLink RX2 3 objectInit, .instanceMethod objectInit, .code objectInit ⟨#[0xb1]⟩ 1 none, .fieldLink RX2 11 "SiloPads$TextReader" "place" "I", .fieldLink RX2 15 "SiloPads$TextReader" "silo" "I", .fieldLink RX2 18 "SiloPads$TextReader" "ship" "I", .fieldLink RX2 21 "SiloPads$TextReader" "kind" "I", .fieldLink RX2 24 "SiloPads$TextReader" "number" "I"] ++ wsX20)
def wsX3_init_r1 : List Cond := [Cond.methodLink RX3 3 objectInit, Cond.instanceMethod objectInit, Cond.code objectInit ⟨#[0xb1]⟩ 1 none, Cond.classLink RX3 9 RX1, Cond.fieldLink RX3 11 "SiloPads$Yard" "silos" "[LSiloPads$Silo;", Cond.classLink RX3 17 RX0, Cond.fieldLink RX3 19 "SiloPads$Yard" "ships" "[LSiloPads$Ship;", Cond.methodLink RX3 27 ⟨"[I", "clone", "()Ljava/lang/Object;"⟩, Cond.sameMethod "[I" "java/lang/Object" "clone" "()Ljava/lang/Object;", Cond.native ⟨"java/lang/Object", "clone", "()Ljava/lang/Object;"⟩, Cond.instanceMethod ⟨"java/lang/Object", "clone", "()Ljava/lang/Object;"⟩, Cond.selects "[I" ⟨"[I", "clone", "()Ljava/lang/Object;"⟩ ⟨"java/lang/Object", "clone", "()Ljava/lang/Object;"⟩, Cond.classLink RX3 28 "[I", Cond.fieldLink RX3 32 "SiloPads$Yard" "settings" "[I", Cond.fieldLink RX3 35 "SiloPads$Yard" "days" "I", Cond.fieldLink RX3 39 "SiloPads$Yard" "dust" "I", Cond.fieldLink RX3 42 "SiloPads$Yard" "brought" "I", Cond.fieldLink RX3 45 "SiloPads$Yard" "gone" "I", Cond.fieldLink RX3 48 "SiloPads$Yard" "shakes" "I", Cond.fieldLink RX3 51 "SiloPads$Yard" "formed" "I", Cond.instantiable RX1 6, Cond.initialized RX1, Cond.instantiable RX0 2, Cond.initialized RX0]
def wsX3_init_r2 : List Cond := [Cond.instanceMethod yX1_init, Cond.code yX1_init cX1_init 1 none, Cond.methodLink RX1 3 objectInit, Cond.arrayClass .int, Cond.fieldLink RX1 9 "SiloPads$Silo" "tonnes" "[I", Cond.fieldLink RX1 15 "SiloPads$Silo" "ages" "[I", Cond.fieldLink RX1 18 "SiloPads$Silo" "layers" "I", Cond.fieldLink RX1 22 "SiloPads$Silo" "padsOn" "I", Cond.fieldLink RX1 25 "SiloPads$Silo" "arch" "I", Cond.fieldLink RX1 28 "SiloPads$Silo" "shakes" "I", Cond.instanceMethod yX0_init, Cond.code yX0_init cX0_init 1 none, Cond.methodLink RX0 3 objectInit, Cond.fieldLink RX0 9 "SiloPads$Ship" "tonnes" "I", Cond.fieldLink RX0 15 "SiloPads$Ship" "hold" "I"]
def wsX3_init : List Cond := .code yX3_init cX3_init 2 none :: ((wsX3_init_r1 ++ wsX3_init_r2) ++ wsX30 ++ wsX10 ++ wsX00)
def wsX3_becomeLike_r1 : List Cond := [Cond.fieldLink RX3 11 "SiloPads$Yard" "silos" "[LSiloPads$Silo;", Cond.fieldLink RX3 19 "SiloPads$Yard" "ships" "[LSiloPads$Ship;", Cond.fieldLink RX3 32 "SiloPads$Yard" "settings" "[I", Cond.fieldLink RX3 35 "SiloPads$Yard" "days" "I", Cond.fieldLink RX3 39 "SiloPads$Yard" "dust" "I", Cond.fieldLink RX3 42 "SiloPads$Yard" "brought" "I", Cond.fieldLink RX3 45 "SiloPads$Yard" "gone" "I", Cond.fieldLink RX3 48 "SiloPads$Yard" "shakes" "I", Cond.fieldLink RX3 51 "SiloPads$Yard" "formed" "I", Cond.methodLink RX3 56 yX1_becomeLike, Cond.instanceMethod yX1_becomeLike, Cond.selects RX1 yX1_becomeLike yX1_becomeLike, Cond.initialized RX1, Cond.code yX1_becomeLike cX1_becomeLike 3 none, Cond.fieldLink RX1 9 "SiloPads$Silo" "tonnes" "[I", Cond.fieldLink RX1 15 "SiloPads$Silo" "ages" "[I", Cond.fieldLink RX1 18 "SiloPads$Silo" "layers" "I", Cond.fieldLink RX1 22 "SiloPads$Silo" "padsOn" "I", Cond.fieldLink RX1 25 "SiloPads$Silo" "arch" "I", Cond.fieldLink RX1 28 "SiloPads$Silo" "shakes" "I", Cond.methodLink RX3 60 yX0_becomeLike, Cond.instanceMethod yX0_becomeLike, Cond.selects RX0 yX0_becomeLike yX0_becomeLike, Cond.initialized RX0]
def wsX3_becomeLike_r2 : List Cond := [Cond.code yX0_becomeLike cX0_becomeLike 2 none, Cond.fieldLink RX0 9 "SiloPads$Ship" "tonnes" "I", Cond.fieldLink RX0 15 "SiloPads$Ship" "hold" "I"]
def wsX3_becomeLike : List Cond := .code yX3_becomeLike cX3_becomeLike 3 none :: ((wsX3_becomeLike_r1 ++ wsX3_becomeLike_r2) ++ wsX30 ++ wsX10 ++ wsX00)
def wsX3_siloTonnes : List Cond := .code yX3_siloTonnes cX3_siloTonnes 3 (some .int) :: ([.fieldLink RX3 11 "SiloPads$Yard" "silos" "[LSiloPads$Silo;", .methodLink RX3 63 yX1_total, .instanceMethod yX1_total, .selects RX1 yX1_total yX1_total, .initialized RX1, .code yX1_total cX1_total 1 (some .int), .methodLink RX1 31 yX1_totalFrom, .instanceMethod yX1_totalFrom, .selects RX1 yX1_totalFrom yX1_totalFrom, .code yX1_totalFrom cX1_totalFrom 4 (some .int), .fieldLink RX1 18 "SiloPads$Silo" "layers" "I", .fieldLink RX1 9 "SiloPads$Silo" "tonnes" "[I"] ++ wsX30 ++ wsX10)
def wsX3_shipTonnes : List Cond := .code yX3_shipTonnes cX3_shipTonnes 3 (some .int) :: ([.fieldLink RX3 19 "SiloPads$Yard" "ships" "[LSiloPads$Ship;", .fieldLink RX3 67 "SiloPads$Ship" "tonnes" "I"] ++ wsX30 ++ wsX00)
def wsX3_padsOn : List Cond := .code yX3_padsOn cX3_padsOn 3 (some .int) :: ([.fieldLink RX3 11 "SiloPads$Yard" "silos" "[LSiloPads$Silo;", .fieldLink RX3 70 "SiloPads$Silo" "padsOn" "I"] ++ wsX30 ++ wsX10)
def wsX3_arches : List Cond := .code yX3_arches cX3_arches 3 (some .int) :: ([.fieldLink RX3 11 "SiloPads$Yard" "silos" "[LSiloPads$Silo;", .fieldLink RX3 73 "SiloPads$Silo" "arch" "I"] ++ wsX30 ++ wsX10)
def wsX4_init_r1 : List Cond := [Cond.methodLink RX4 1 objectInit, Cond.instanceMethod objectInit, Cond.code objectInit ⟨#[0xb1]⟩ 1 none, Cond.classLink RX4 7 RX3, Cond.instantiable RX3 9, Cond.initialized RX3, Cond.fieldLink RX4 10 "SiloPads" "now" "LSiloPads$Yard;", Cond.fieldLink RX4 16 "SiloPads" "saved" "[LSiloPads$Yard;", Cond.fieldLink RX4 20 "SiloPads" "savedStates" "I", Cond.arrayClass .int, Cond.fieldLink RX4 24 "SiloPads" "codes" "[I", Cond.fieldLink RX4 28 "SiloPads" "length" "I", Cond.classLink RX4 31 RX2, Cond.instantiable RX2 5, Cond.initialized RX2, Cond.fieldLink RX4 34 "SiloPads" "reader" "LSiloPads$TextReader;", Cond.classLink RX4 38 RX1, Cond.instantiable RX1 6, Cond.initialized RX1, Cond.fieldLink RX4 41 "SiloPads" "trialSilo" "LSiloPads$Silo;", Cond.classLink RX4 45 RX0, Cond.instantiable RX0 2, Cond.initialized RX0, Cond.fieldLink RX4 48 "SiloPads" "trialShip" "LSiloPads$Ship;"]
def wsX4_init_r2 : List Cond := [Cond.methodLink RX4 9 yX3_init, Cond.instanceMethod yX3_init, Cond.code yX3_init cX3_init 2 none, Cond.methodLink RX3 3 objectInit, Cond.classLink RX3 9 RX1, Cond.fieldLink RX3 11 "SiloPads$Yard" "silos" "[LSiloPads$Silo;", Cond.classLink RX3 17 RX0, Cond.fieldLink RX3 19 "SiloPads$Yard" "ships" "[LSiloPads$Ship;", Cond.methodLink RX3 27 ⟨"[I", "clone", "()Ljava/lang/Object;"⟩, Cond.sameMethod "[I" "java/lang/Object" "clone" "()Ljava/lang/Object;", Cond.native ⟨"java/lang/Object", "clone", "()Ljava/lang/Object;"⟩, Cond.instanceMethod ⟨"java/lang/Object", "clone", "()Ljava/lang/Object;"⟩, Cond.selects "[I" ⟨"[I", "clone", "()Ljava/lang/Object;"⟩ ⟨"java/lang/Object", "clone", "()Ljava/lang/Object;"⟩, Cond.classLink RX3 28 "[I", Cond.fieldLink RX3 32 "SiloPads$Yard" "settings" "[I", Cond.fieldLink RX3 35 "SiloPads$Yard" "days" "I", Cond.fieldLink RX3 39 "SiloPads$Yard" "dust" "I", Cond.fieldLink RX3 42 "SiloPads$Yard" "brought" "I", Cond.fieldLink RX3 45 "SiloPads$Yard" "gone" "I", Cond.fieldLink RX3 48 "SiloPads$Yard" "shakes" "I", Cond.fieldLink RX3 51 "SiloPads$Yard" "formed" "I", Cond.instanceMethod yX1_init, Cond.code yX1_init cX1_init 1 none, Cond.methodLink RX1 3 objectInit]
def wsX4_init_r3 : List Cond := [Cond.fieldLink RX1 9 "SiloPads$Silo" "tonnes" "[I", Cond.fieldLink RX1 15 "SiloPads$Silo" "ages" "[I", Cond.fieldLink RX1 18 "SiloPads$Silo" "layers" "I", Cond.fieldLink RX1 22 "SiloPads$Silo" "padsOn" "I", Cond.fieldLink RX1 25 "SiloPads$Silo" "arch" "I", Cond.fieldLink RX1 28 "SiloPads$Silo" "shakes" "I", Cond.instanceMethod yX0_init, Cond.code yX0_init cX0_init 1 none, Cond.methodLink RX0 3 objectInit, Cond.fieldLink RX0 9 "SiloPads$Ship" "tonnes" "I", Cond.fieldLink RX0 15 "SiloPads$Ship" "hold" "I", Cond.instanceMethod yX2_init, Cond.code yX2_init cX2_init 1 none, Cond.methodLink RX2 3 objectInit, Cond.fieldLink RX2 11 "SiloPads$TextReader" "place" "I", Cond.fieldLink RX2 15 "SiloPads$TextReader" "silo" "I", Cond.fieldLink RX2 18 "SiloPads$TextReader" "ship" "I", Cond.fieldLink RX2 21 "SiloPads$TextReader" "kind" "I", Cond.fieldLink RX2 24 "SiloPads$TextReader" "number" "I"]
def wsX4_init : List Cond := .code yX4_init cX4_init 2 none :: ((wsX4_init_r1 ++ (wsX4_init_r2 ++ wsX4_init_r3)) ++ wsX30 ++ wsX40 ++ wsX20 ++ wsX10 ++ wsX00)
def wsX4_isNoShip : List Cond := .code yX4_isNoShip cX4_isNoShip 1 (some .boolean) :: ([])
def wsX4_saveState_r1 : List Cond := [Cond.fieldLink RX4 20 "SiloPads" "savedStates" "I", Cond.fieldLink RX4 16 "SiloPads" "saved" "[LSiloPads$Yard;", Cond.fieldLink RX4 10 "SiloPads" "now" "LSiloPads$Yard;", Cond.methodLink RX4 186 yX3_becomeLike, Cond.instanceMethod yX3_becomeLike, Cond.selects RX3 yX3_becomeLike yX3_becomeLike, Cond.initialized RX3, Cond.code yX3_becomeLike cX3_becomeLike 3 none, Cond.fieldLink RX3 11 "SiloPads$Yard" "silos" "[LSiloPads$Silo;", Cond.fieldLink RX3 19 "SiloPads$Yard" "ships" "[LSiloPads$Ship;", Cond.fieldLink RX3 32 "SiloPads$Yard" "settings" "[I", Cond.fieldLink RX3 35 "SiloPads$Yard" "days" "I", Cond.fieldLink RX3 39 "SiloPads$Yard" "dust" "I", Cond.fieldLink RX3 42 "SiloPads$Yard" "brought" "I", Cond.fieldLink RX3 45 "SiloPads$Yard" "gone" "I", Cond.fieldLink RX3 48 "SiloPads$Yard" "shakes" "I", Cond.fieldLink RX3 51 "SiloPads$Yard" "formed" "I", Cond.methodLink RX3 56 yX1_becomeLike, Cond.instanceMethod yX1_becomeLike, Cond.selects RX1 yX1_becomeLike yX1_becomeLike, Cond.initialized RX1, Cond.code yX1_becomeLike cX1_becomeLike 3 none, Cond.fieldLink RX1 9 "SiloPads$Silo" "tonnes" "[I", Cond.fieldLink RX1 15 "SiloPads$Silo" "ages" "[I"]
def wsX4_saveState_r2 : List Cond := [Cond.fieldLink RX1 18 "SiloPads$Silo" "layers" "I", Cond.fieldLink RX1 22 "SiloPads$Silo" "padsOn" "I", Cond.fieldLink RX1 25 "SiloPads$Silo" "arch" "I", Cond.fieldLink RX1 28 "SiloPads$Silo" "shakes" "I", Cond.methodLink RX3 60 yX0_becomeLike, Cond.instanceMethod yX0_becomeLike, Cond.selects RX0 yX0_becomeLike yX0_becomeLike, Cond.initialized RX0, Cond.code yX0_becomeLike cX0_becomeLike 2 none, Cond.fieldLink RX0 9 "SiloPads$Ship" "tonnes" "I", Cond.fieldLink RX0 15 "SiloPads$Ship" "hold" "I"]
def wsX4_saveState : List Cond := .code yX4_saveState cX4_saveState 3 none :: ((wsX4_saveState_r1 ++ wsX4_saveState_r2) ++ wsX40 ++ wsX30 ++ wsX10 ++ wsX00)
def wsX4_ship_r1 : List Cond := [Cond.classLink RX4 56 "java/lang/IndexOutOfBoundsException", Cond.initialized "java/lang/IndexOutOfBoundsException", Cond.classLink RX4 63 "java/lang/IllegalArgumentException", Cond.initialized "java/lang/IllegalArgumentException", Cond.fieldLink RX4 10 "SiloPads" "now" "LSiloPads$Yard;", Cond.fieldLink RX4 71 "SiloPads$Yard" "ships" "[LSiloPads$Ship;", Cond.fieldLink RX4 75 "SiloPads$Ship" "tonnes" "I", Cond.fieldLink RX4 78 "SiloPads$Ship" "hold" "I", Cond.fieldLink RX4 81 "SiloPads$Yard" "brought" "I", Cond.fieldLink RX4 84 "SiloPads$Yard" "gone" "I", Cond.methodLink RX4 52 yX4_isNoShip, Cond.static yX4_isNoShip, Cond.initialized RX4, Cond.code yX4_isNoShip cX4_isNoShip 1 (some .boolean), Cond.methodLink RX4 68 yX4_saveState, Cond.instanceMethod yX4_saveState, Cond.selects RX4 yX4_saveState yX4_saveState, Cond.code yX4_saveState cX4_saveState 3 none, Cond.fieldLink RX4 20 "SiloPads" "savedStates" "I", Cond.fieldLink RX4 16 "SiloPads" "saved" "[LSiloPads$Yard;", Cond.methodLink RX4 186 yX3_becomeLike, Cond.instanceMethod yX3_becomeLike, Cond.selects RX3 yX3_becomeLike yX3_becomeLike, Cond.initialized RX3]
def wsX4_ship_r2 : List Cond := [Cond.code yX3_becomeLike cX3_becomeLike 3 none, Cond.fieldLink RX3 11 "SiloPads$Yard" "silos" "[LSiloPads$Silo;", Cond.fieldLink RX3 19 "SiloPads$Yard" "ships" "[LSiloPads$Ship;", Cond.fieldLink RX3 32 "SiloPads$Yard" "settings" "[I", Cond.fieldLink RX3 35 "SiloPads$Yard" "days" "I", Cond.fieldLink RX3 39 "SiloPads$Yard" "dust" "I", Cond.fieldLink RX3 42 "SiloPads$Yard" "brought" "I", Cond.fieldLink RX3 45 "SiloPads$Yard" "gone" "I", Cond.fieldLink RX3 48 "SiloPads$Yard" "shakes" "I", Cond.fieldLink RX3 51 "SiloPads$Yard" "formed" "I", Cond.methodLink RX3 56 yX1_becomeLike, Cond.instanceMethod yX1_becomeLike, Cond.selects RX1 yX1_becomeLike yX1_becomeLike, Cond.initialized RX1, Cond.code yX1_becomeLike cX1_becomeLike 3 none, Cond.fieldLink RX1 9 "SiloPads$Silo" "tonnes" "[I", Cond.fieldLink RX1 15 "SiloPads$Silo" "ages" "[I", Cond.fieldLink RX1 18 "SiloPads$Silo" "layers" "I", Cond.fieldLink RX1 22 "SiloPads$Silo" "padsOn" "I", Cond.fieldLink RX1 25 "SiloPads$Silo" "arch" "I", Cond.fieldLink RX1 28 "SiloPads$Silo" "shakes" "I", Cond.methodLink RX3 60 yX0_becomeLike, Cond.instanceMethod yX0_becomeLike, Cond.selects RX0 yX0_becomeLike yX0_becomeLike]
def wsX4_ship_r3 : List Cond := [Cond.initialized RX0, Cond.code yX0_becomeLike cX0_becomeLike 2 none, Cond.fieldLink RX0 9 "SiloPads$Ship" "tonnes" "I", Cond.fieldLink RX0 15 "SiloPads$Ship" "hold" "I"]
def wsX4_ship : List Cond := .code yX4_ship cX4_ship 6 (some .int) :: ((wsX4_ship_r1 ++ (wsX4_ship_r2 ++ wsX4_ship_r3)) ++ wsX40 ++ wsX30 ++ wsX00 ++ wsX10 ++ (vx_atS RX4 60 "java/lang/IndexOutOfBoundsException" ["java/lang/RuntimeException", "java/lang/Exception"]).filter goodWord ++ (vx_atS RX4 67 "java/lang/IllegalArgumentException" ["java/lang/RuntimeException", "java/lang/Exception"]).filter goodWord)
def wsX4_isNoSilo : List Cond := .code yX4_isNoSilo cX4_isNoSilo 1 (some .boolean) :: ([])
def wsX4_bringIn_r1 : List Cond := [Cond.fieldLink RX4 75 "SiloPads$Ship" "tonnes" "I", Cond.methodLink RX4 257 Lib.Math.min.name, Cond.static Lib.Math.min.name, Cond.initialized "java/lang/Math", Cond.code Lib.Math.min.name Lib.Math.min.code 2 (some .int), Cond.methodLink RX4 294 yX1_place, Cond.instanceMethod yX1_place, Cond.selects RX1 yX1_place yX1_place, Cond.initialized RX1, Cond.code yX1_place cX1_place 2 (some .int), Cond.fieldLink RX1 18 "SiloPads$Silo" "layers" "I", Cond.methodLink RX1 42 Lib.Math.min.name, Cond.methodLink RX1 35 yX1_total, Cond.instanceMethod yX1_total, Cond.selects RX1 yX1_total yX1_total, Cond.code yX1_total cX1_total 1 (some .int), Cond.methodLink RX1 31 yX1_totalFrom, Cond.instanceMethod yX1_totalFrom, Cond.selects RX1 yX1_totalFrom yX1_totalFrom, Cond.code yX1_totalFrom cX1_totalFrom 4 (some .int), Cond.fieldLink RX1 9 "SiloPads$Silo" "tonnes" "[I", Cond.methodLink RX1 39 yX1_placeOnTop, Cond.instanceMethod yX1_placeOnTop, Cond.selects RX1 yX1_placeOnTop yX1_placeOnTop]
def wsX4_bringIn_r2 : List Cond := [Cond.code yX1_placeOnTop cX1_placeOnTop 1 (some .int), Cond.fieldLink RX1 15 "SiloPads$Silo" "ages" "[I", Cond.methodLink RX4 297 yX1_fill, Cond.instanceMethod yX1_fill, Cond.selects RX1 yX1_fill yX1_fill, Cond.code yX1_fill cX1_fill 4 none, Cond.fieldLink RX1 28 "SiloPads$Silo" "shakes" "I"]
def wsX4_bringIn : List Cond := .code yX4_bringIn cX4_bringIn 5 (some .int) :: ((wsX4_bringIn_r1 ++ wsX4_bringIn_r2) ++ wsX00 ++ wsX10)
def wsX4_unload_r1 : List Cond := [Cond.classLink RX4 56 "java/lang/IndexOutOfBoundsException", Cond.initialized "java/lang/IndexOutOfBoundsException", Cond.classLink RX4 63 "java/lang/IllegalArgumentException", Cond.initialized "java/lang/IllegalArgumentException", Cond.fieldLink RX4 10 "SiloPads" "now" "LSiloPads$Yard;", Cond.fieldLink RX4 94 "SiloPads$Yard" "silos" "[LSiloPads$Silo;", Cond.fieldLink RX4 71 "SiloPads$Yard" "ships" "[LSiloPads$Ship;", Cond.methodLink RX4 87 yX4_isNoSilo, Cond.static yX4_isNoSilo, Cond.initialized RX4, Cond.code yX4_isNoSilo cX4_isNoSilo 1 (some .boolean), Cond.methodLink RX4 52 yX4_isNoShip, Cond.static yX4_isNoShip, Cond.code yX4_isNoShip cX4_isNoShip 1 (some .boolean), Cond.methodLink RX4 68 yX4_saveState, Cond.instanceMethod yX4_saveState, Cond.selects RX4 yX4_saveState yX4_saveState, Cond.code yX4_saveState cX4_saveState 3 none, Cond.fieldLink RX4 20 "SiloPads" "savedStates" "I", Cond.fieldLink RX4 16 "SiloPads" "saved" "[LSiloPads$Yard;", Cond.methodLink RX4 186 yX3_becomeLike, Cond.instanceMethod yX3_becomeLike, Cond.selects RX3 yX3_becomeLike yX3_becomeLike, Cond.initialized RX3]
def wsX4_unload_r2 : List Cond := [Cond.code yX3_becomeLike cX3_becomeLike 3 none, Cond.fieldLink RX3 11 "SiloPads$Yard" "silos" "[LSiloPads$Silo;", Cond.fieldLink RX3 19 "SiloPads$Yard" "ships" "[LSiloPads$Ship;", Cond.fieldLink RX3 32 "SiloPads$Yard" "settings" "[I", Cond.fieldLink RX3 35 "SiloPads$Yard" "days" "I", Cond.fieldLink RX3 39 "SiloPads$Yard" "dust" "I", Cond.fieldLink RX3 42 "SiloPads$Yard" "brought" "I", Cond.fieldLink RX3 45 "SiloPads$Yard" "gone" "I", Cond.fieldLink RX3 48 "SiloPads$Yard" "shakes" "I", Cond.fieldLink RX3 51 "SiloPads$Yard" "formed" "I", Cond.methodLink RX3 56 yX1_becomeLike, Cond.instanceMethod yX1_becomeLike, Cond.selects RX1 yX1_becomeLike yX1_becomeLike, Cond.initialized RX1, Cond.code yX1_becomeLike cX1_becomeLike 3 none, Cond.fieldLink RX1 9 "SiloPads$Silo" "tonnes" "[I", Cond.fieldLink RX1 15 "SiloPads$Silo" "ages" "[I", Cond.fieldLink RX1 18 "SiloPads$Silo" "layers" "I", Cond.fieldLink RX1 22 "SiloPads$Silo" "padsOn" "I", Cond.fieldLink RX1 25 "SiloPads$Silo" "arch" "I", Cond.fieldLink RX1 28 "SiloPads$Silo" "shakes" "I", Cond.methodLink RX3 60 yX0_becomeLike, Cond.instanceMethod yX0_becomeLike, Cond.selects RX0 yX0_becomeLike yX0_becomeLike]
def wsX4_unload_r3 : List Cond := [Cond.initialized RX0, Cond.code yX0_becomeLike cX0_becomeLike 2 none, Cond.fieldLink RX0 9 "SiloPads$Ship" "tonnes" "I", Cond.fieldLink RX0 15 "SiloPads$Ship" "hold" "I", Cond.methodLink RX4 98 yX4_bringIn, Cond.instanceMethod yX4_bringIn, Cond.selects RX4 yX4_bringIn yX4_bringIn, Cond.code yX4_bringIn cX4_bringIn 5 (some .int), Cond.fieldLink RX4 75 "SiloPads$Ship" "tonnes" "I", Cond.methodLink RX4 257 Lib.Math.min.name, Cond.static Lib.Math.min.name, Cond.initialized "java/lang/Math", Cond.code Lib.Math.min.name Lib.Math.min.code 2 (some .int), Cond.methodLink RX4 294 yX1_place, Cond.instanceMethod yX1_place, Cond.selects RX1 yX1_place yX1_place, Cond.code yX1_place cX1_place 2 (some .int), Cond.methodLink RX1 42 Lib.Math.min.name, Cond.methodLink RX1 35 yX1_total, Cond.instanceMethod yX1_total, Cond.selects RX1 yX1_total yX1_total, Cond.code yX1_total cX1_total 1 (some .int), Cond.methodLink RX1 31 yX1_totalFrom, Cond.instanceMethod yX1_totalFrom]
def wsX4_unload_r4 : List Cond := [Cond.selects RX1 yX1_totalFrom yX1_totalFrom, Cond.code yX1_totalFrom cX1_totalFrom 4 (some .int), Cond.methodLink RX1 39 yX1_placeOnTop, Cond.instanceMethod yX1_placeOnTop, Cond.selects RX1 yX1_placeOnTop yX1_placeOnTop, Cond.code yX1_placeOnTop cX1_placeOnTop 1 (some .int), Cond.methodLink RX4 297 yX1_fill, Cond.instanceMethod yX1_fill, Cond.selects RX1 yX1_fill yX1_fill, Cond.code yX1_fill cX1_fill 4 none]
def wsX4_unload : List Cond := .code yX4_unload cX4_unload 4 (some .int) :: ((wsX4_unload_r1 ++ (wsX4_unload_r2 ++ (wsX4_unload_r3 ++ wsX4_unload_r4))) ++ wsX40 ++ wsX30 ++ wsX10 ++ wsX00 ++ (vx_atS RX4 60 "java/lang/IndexOutOfBoundsException" ["java/lang/RuntimeException", "java/lang/Exception"]).filter goodWord ++ (vx_atS RX4 67 "java/lang/IllegalArgumentException" ["java/lang/RuntimeException", "java/lang/Exception"]).filter goodWord)
def wsX4_hardnessAt : List Cond := .code yX4_hardnessAt cX4_hardnessAt 3 (some .int) :: ([.fieldLink RX4 10 "SiloPads" "now" "LSiloPads$Yard;", .fieldLink RX4 117 "SiloPads$Yard" "settings" "[I"] ++ wsX40 ++ wsX30)
def wsX4_outInHour : List Cond := .code yX4_outInHour cX4_outInHour 3 (some .int) :: ([.fieldLink RX4 125 "SiloPads$Silo" "layers" "I", .fieldLink RX4 203 "SiloPads$Silo" "ages" "[I", .methodLink RX4 206 yX4_hardnessAt, .instanceMethod yX4_hardnessAt, .selects RX4 yX4_hardnessAt yX4_hardnessAt, .initialized RX4, .code yX4_hardnessAt cX4_hardnessAt 3 (some .int), .fieldLink RX4 10 "SiloPads" "now" "LSiloPads$Yard;", .fieldLink RX4 117 "SiloPads$Yard" "settings" "[I"] ++ wsX10 ++ wsX40 ++ wsX30)
def wsX4_dustOf : List Cond := .code yX4_dustOf cX4_dustOf 3 (some .int) :: ([.fieldLink RX4 10 "SiloPads" "now" "LSiloPads$Yard;", .fieldLink RX4 117 "SiloPads$Yard" "settings" "[I"] ++ wsX40 ++ wsX30)
def wsX4_pourForHour_r1 : List Cond := [Cond.fieldLink RX4 125 "SiloPads$Silo" "layers" "I", Cond.fieldLink RX4 141 "SiloPads$Silo" "arch" "I", Cond.fieldLink RX4 111 "SiloPads$Silo" "padsOn" "I", Cond.fieldLink RX4 201 "SiloPads$Silo" "tonnes" "[I", Cond.methodLink RX4 257 Lib.Math.min.name, Cond.static Lib.Math.min.name, Cond.initialized "java/lang/Math", Cond.code Lib.Math.min.name Lib.Math.min.code 2 (some .int), Cond.fieldLink RX4 75 "SiloPads$Ship" "tonnes" "I", Cond.methodLink RX4 193 yX4_outInHour, Cond.instanceMethod yX4_outInHour, Cond.selects RX4 yX4_outInHour yX4_outInHour, Cond.initialized RX4, Cond.code yX4_outInHour cX4_outInHour 3 (some .int), Cond.fieldLink RX4 203 "SiloPads$Silo" "ages" "[I", Cond.methodLink RX4 206 yX4_hardnessAt, Cond.instanceMethod yX4_hardnessAt, Cond.selects RX4 yX4_hardnessAt yX4_hardnessAt, Cond.code yX4_hardnessAt cX4_hardnessAt 3 (some .int), Cond.fieldLink RX4 10 "SiloPads" "now" "LSiloPads$Yard;", Cond.fieldLink RX4 117 "SiloPads$Yard" "settings" "[I", Cond.methodLink RX4 233 yX0_room, Cond.instanceMethod yX0_room, Cond.selects RX0 yX0_room yX0_room]
def wsX4_pourForHour_r2 : List Cond := [Cond.initialized RX0, Cond.code yX0_room cX0_room 1 (some .int), Cond.fieldLink RX0 15 "SiloPads$Ship" "hold" "I", Cond.fieldLink RX0 9 "SiloPads$Ship" "tonnes" "I", Cond.methodLink RX4 305 yX4_dustOf, Cond.instanceMethod yX4_dustOf, Cond.selects RX4 yX4_dustOf yX4_dustOf, Cond.code yX4_dustOf cX4_dustOf 3 (some .int), Cond.methodLink RX4 308 yX1_takeFromLowest, Cond.instanceMethod yX1_takeFromLowest, Cond.selects RX1 yX1_takeFromLowest yX1_takeFromLowest, Cond.initialized RX1, Cond.code yX1_takeFromLowest cX1_takeFromLowest 3 none, Cond.fieldLink RX1 9 "SiloPads$Silo" "tonnes" "[I", Cond.fieldLink RX1 18 "SiloPads$Silo" "layers" "I", Cond.fieldLink RX1 15 "SiloPads$Silo" "ages" "[I", Cond.fieldLink RX1 25 "SiloPads$Silo" "arch" "I"]
def wsX4_pourForHour : List Cond := .code yX4_pourForHour cX4_pourForHour 5 (some .int) :: ((wsX4_pourForHour_r1 ++ wsX4_pourForHour_r2) ++ wsX10 ++ wsX00 ++ wsX40 ++ wsX30)
def wsX4_pour_r1 : List Cond := [Cond.methodLink RX4 301 yX4_pourForHour, Cond.instanceMethod yX4_pourForHour, Cond.selects RX4 yX4_pourForHour yX4_pourForHour, Cond.initialized RX4, Cond.code yX4_pourForHour cX4_pourForHour 5 (some .int), Cond.fieldLink RX4 125 "SiloPads$Silo" "layers" "I", Cond.fieldLink RX4 141 "SiloPads$Silo" "arch" "I", Cond.fieldLink RX4 111 "SiloPads$Silo" "padsOn" "I", Cond.fieldLink RX4 201 "SiloPads$Silo" "tonnes" "[I", Cond.methodLink RX4 257 Lib.Math.min.name, Cond.static Lib.Math.min.name, Cond.initialized "java/lang/Math", Cond.code Lib.Math.min.name Lib.Math.min.code 2 (some .int), Cond.fieldLink RX4 75 "SiloPads$Ship" "tonnes" "I", Cond.methodLink RX4 193 yX4_outInHour, Cond.instanceMethod yX4_outInHour, Cond.selects RX4 yX4_outInHour yX4_outInHour, Cond.code yX4_outInHour cX4_outInHour 3 (some .int), Cond.fieldLink RX4 203 "SiloPads$Silo" "ages" "[I", Cond.methodLink RX4 206 yX4_hardnessAt, Cond.instanceMethod yX4_hardnessAt, Cond.selects RX4 yX4_hardnessAt yX4_hardnessAt, Cond.code yX4_hardnessAt cX4_hardnessAt 3 (some .int), Cond.fieldLink RX4 10 "SiloPads" "now" "LSiloPads$Yard;"]
def wsX4_pour_r2 : List Cond := [Cond.fieldLink RX4 117 "SiloPads$Yard" "settings" "[I", Cond.methodLink RX4 233 yX0_room, Cond.instanceMethod yX0_room, Cond.selects RX0 yX0_room yX0_room, Cond.initialized RX0, Cond.code yX0_room cX0_room 1 (some .int), Cond.fieldLink RX0 15 "SiloPads$Ship" "hold" "I", Cond.fieldLink RX0 9 "SiloPads$Ship" "tonnes" "I", Cond.methodLink RX4 305 yX4_dustOf, Cond.instanceMethod yX4_dustOf, Cond.selects RX4 yX4_dustOf yX4_dustOf, Cond.code yX4_dustOf cX4_dustOf 3 (some .int), Cond.methodLink RX4 308 yX1_takeFromLowest, Cond.instanceMethod yX1_takeFromLowest, Cond.selects RX1 yX1_takeFromLowest yX1_takeFromLowest, Cond.initialized RX1, Cond.code yX1_takeFromLowest cX1_takeFromLowest 3 none, Cond.fieldLink RX1 9 "SiloPads$Silo" "tonnes" "[I", Cond.fieldLink RX1 18 "SiloPads$Silo" "layers" "I", Cond.fieldLink RX1 15 "SiloPads$Silo" "ages" "[I", Cond.fieldLink RX1 25 "SiloPads$Silo" "arch" "I"]
def wsX4_pour : List Cond := .code yX4_pour cX4_pour 6 (some .int) :: ((wsX4_pour_r1 ++ wsX4_pour_r2) ++ wsX10 ++ wsX00 ++ wsX40 ++ wsX30)
def wsX4_letOut_r1 : List Cond := [Cond.fieldLink RX4 10 "SiloPads" "now" "LSiloPads$Yard;", Cond.fieldLink RX4 222 "SiloPads$Yard" "dust" "I", Cond.methodLink RX4 190 yX1_total, Cond.instanceMethod yX1_total, Cond.selects RX1 yX1_total yX1_total, Cond.initialized RX1, Cond.code yX1_total cX1_total 1 (some .int), Cond.methodLink RX1 31 yX1_totalFrom, Cond.instanceMethod yX1_totalFrom, Cond.selects RX1 yX1_totalFrom yX1_totalFrom, Cond.code yX1_totalFrom cX1_totalFrom 4 (some .int), Cond.fieldLink RX1 18 "SiloPads$Silo" "layers" "I", Cond.fieldLink RX1 9 "SiloPads$Silo" "tonnes" "[I", Cond.methodLink RX4 244 yX4_pour, Cond.instanceMethod yX4_pour, Cond.selects RX4 yX4_pour yX4_pour, Cond.initialized RX4, Cond.code yX4_pour cX4_pour 6 (some .int), Cond.methodLink RX4 301 yX4_pourForHour, Cond.instanceMethod yX4_pourForHour, Cond.selects RX4 yX4_pourForHour yX4_pourForHour, Cond.code yX4_pourForHour cX4_pourForHour 5 (some .int), Cond.fieldLink RX4 125 "SiloPads$Silo" "layers" "I", Cond.fieldLink RX4 141 "SiloPads$Silo" "arch" "I"]
def wsX4_letOut_r2 : List Cond := [Cond.fieldLink RX4 111 "SiloPads$Silo" "padsOn" "I", Cond.fieldLink RX4 201 "SiloPads$Silo" "tonnes" "[I", Cond.methodLink RX4 257 Lib.Math.min.name, Cond.static Lib.Math.min.name, Cond.initialized "java/lang/Math", Cond.code Lib.Math.min.name Lib.Math.min.code 2 (some .int), Cond.fieldLink RX4 75 "SiloPads$Ship" "tonnes" "I", Cond.methodLink RX4 193 yX4_outInHour, Cond.instanceMethod yX4_outInHour, Cond.selects RX4 yX4_outInHour yX4_outInHour, Cond.code yX4_outInHour cX4_outInHour 3 (some .int), Cond.fieldLink RX4 203 "SiloPads$Silo" "ages" "[I", Cond.methodLink RX4 206 yX4_hardnessAt, Cond.instanceMethod yX4_hardnessAt, Cond.selects RX4 yX4_hardnessAt yX4_hardnessAt, Cond.code yX4_hardnessAt cX4_hardnessAt 3 (some .int), Cond.fieldLink RX4 117 "SiloPads$Yard" "settings" "[I", Cond.methodLink RX4 233 yX0_room, Cond.instanceMethod yX0_room, Cond.selects RX0 yX0_room yX0_room, Cond.initialized RX0, Cond.code yX0_room cX0_room 1 (some .int), Cond.fieldLink RX0 15 "SiloPads$Ship" "hold" "I", Cond.fieldLink RX0 9 "SiloPads$Ship" "tonnes" "I"]
def wsX4_letOut_r3 : List Cond := [Cond.methodLink RX4 305 yX4_dustOf, Cond.instanceMethod yX4_dustOf, Cond.selects RX4 yX4_dustOf yX4_dustOf, Cond.code yX4_dustOf cX4_dustOf 3 (some .int), Cond.methodLink RX4 308 yX1_takeFromLowest, Cond.instanceMethod yX1_takeFromLowest, Cond.selects RX1 yX1_takeFromLowest yX1_takeFromLowest, Cond.code yX1_takeFromLowest cX1_takeFromLowest 3 none, Cond.fieldLink RX1 15 "SiloPads$Silo" "ages" "[I", Cond.fieldLink RX1 25 "SiloPads$Silo" "arch" "I"]
def wsX4_letOut : List Cond := .code yX4_letOut cX4_letOut 6 (some .int) :: ((wsX4_letOut_r1 ++ (wsX4_letOut_r2 ++ wsX4_letOut_r3)) ++ wsX40 ++ wsX30 ++ wsX10 ++ wsX00)
def wsX4_flow_r1 : List Cond := [Cond.classLink RX4 56 "java/lang/IndexOutOfBoundsException", Cond.initialized "java/lang/IndexOutOfBoundsException", Cond.classLink RX4 63 "java/lang/IllegalArgumentException", Cond.initialized "java/lang/IllegalArgumentException", Cond.fieldLink RX4 10 "SiloPads" "now" "LSiloPads$Yard;", Cond.fieldLink RX4 94 "SiloPads$Yard" "silos" "[LSiloPads$Silo;", Cond.fieldLink RX4 71 "SiloPads$Yard" "ships" "[LSiloPads$Ship;", Cond.methodLink RX4 87 yX4_isNoSilo, Cond.static yX4_isNoSilo, Cond.initialized RX4, Cond.code yX4_isNoSilo cX4_isNoSilo 1 (some .boolean), Cond.methodLink RX4 52 yX4_isNoShip, Cond.static yX4_isNoShip, Cond.code yX4_isNoShip cX4_isNoShip 1 (some .boolean), Cond.methodLink RX4 68 yX4_saveState, Cond.instanceMethod yX4_saveState, Cond.selects RX4 yX4_saveState yX4_saveState, Cond.code yX4_saveState cX4_saveState 3 none, Cond.fieldLink RX4 20 "SiloPads" "savedStates" "I", Cond.fieldLink RX4 16 "SiloPads" "saved" "[LSiloPads$Yard;", Cond.methodLink RX4 186 yX3_becomeLike, Cond.instanceMethod yX3_becomeLike, Cond.selects RX3 yX3_becomeLike yX3_becomeLike, Cond.initialized RX3]
def wsX4_flow_r2 : List Cond := [Cond.code yX3_becomeLike cX3_becomeLike 3 none, Cond.fieldLink RX3 11 "SiloPads$Yard" "silos" "[LSiloPads$Silo;", Cond.fieldLink RX3 19 "SiloPads$Yard" "ships" "[LSiloPads$Ship;", Cond.fieldLink RX3 32 "SiloPads$Yard" "settings" "[I", Cond.fieldLink RX3 35 "SiloPads$Yard" "days" "I", Cond.fieldLink RX3 39 "SiloPads$Yard" "dust" "I", Cond.fieldLink RX3 42 "SiloPads$Yard" "brought" "I", Cond.fieldLink RX3 45 "SiloPads$Yard" "gone" "I", Cond.fieldLink RX3 48 "SiloPads$Yard" "shakes" "I", Cond.fieldLink RX3 51 "SiloPads$Yard" "formed" "I", Cond.methodLink RX3 56 yX1_becomeLike, Cond.instanceMethod yX1_becomeLike, Cond.selects RX1 yX1_becomeLike yX1_becomeLike, Cond.initialized RX1, Cond.code yX1_becomeLike cX1_becomeLike 3 none, Cond.fieldLink RX1 9 "SiloPads$Silo" "tonnes" "[I", Cond.fieldLink RX1 15 "SiloPads$Silo" "ages" "[I", Cond.fieldLink RX1 18 "SiloPads$Silo" "layers" "I", Cond.fieldLink RX1 22 "SiloPads$Silo" "padsOn" "I", Cond.fieldLink RX1 25 "SiloPads$Silo" "arch" "I", Cond.fieldLink RX1 28 "SiloPads$Silo" "shakes" "I", Cond.methodLink RX3 60 yX0_becomeLike, Cond.instanceMethod yX0_becomeLike, Cond.selects RX0 yX0_becomeLike yX0_becomeLike]
def wsX4_flow_r3 : List Cond := [Cond.initialized RX0, Cond.code yX0_becomeLike cX0_becomeLike 2 none, Cond.fieldLink RX0 9 "SiloPads$Ship" "tonnes" "I", Cond.fieldLink RX0 15 "SiloPads$Ship" "hold" "I", Cond.methodLink RX4 104 yX4_letOut, Cond.instanceMethod yX4_letOut, Cond.selects RX4 yX4_letOut yX4_letOut, Cond.code yX4_letOut cX4_letOut 6 (some .int), Cond.fieldLink RX4 222 "SiloPads$Yard" "dust" "I", Cond.methodLink RX4 190 yX1_total, Cond.instanceMethod yX1_total, Cond.selects RX1 yX1_total yX1_total, Cond.code yX1_total cX1_total 1 (some .int), Cond.methodLink RX1 31 yX1_totalFrom, Cond.instanceMethod yX1_totalFrom, Cond.selects RX1 yX1_totalFrom yX1_totalFrom, Cond.code yX1_totalFrom cX1_totalFrom 4 (some .int), Cond.methodLink RX4 244 yX4_pour, Cond.instanceMethod yX4_pour, Cond.selects RX4 yX4_pour yX4_pour, Cond.code yX4_pour cX4_pour 6 (some .int), Cond.methodLink RX4 301 yX4_pourForHour, Cond.instanceMethod yX4_pourForHour, Cond.selects RX4 yX4_pourForHour yX4_pourForHour]
def wsX4_flow_r4 : List Cond := [Cond.code yX4_pourForHour cX4_pourForHour 5 (some .int), Cond.fieldLink RX4 125 "SiloPads$Silo" "layers" "I", Cond.fieldLink RX4 141 "SiloPads$Silo" "arch" "I", Cond.fieldLink RX4 111 "SiloPads$Silo" "padsOn" "I", Cond.fieldLink RX4 201 "SiloPads$Silo" "tonnes" "[I", Cond.methodLink RX4 257 Lib.Math.min.name, Cond.static Lib.Math.min.name, Cond.initialized "java/lang/Math", Cond.code Lib.Math.min.name Lib.Math.min.code 2 (some .int), Cond.fieldLink RX4 75 "SiloPads$Ship" "tonnes" "I", Cond.methodLink RX4 193 yX4_outInHour, Cond.instanceMethod yX4_outInHour, Cond.selects RX4 yX4_outInHour yX4_outInHour, Cond.code yX4_outInHour cX4_outInHour 3 (some .int), Cond.fieldLink RX4 203 "SiloPads$Silo" "ages" "[I", Cond.methodLink RX4 206 yX4_hardnessAt, Cond.instanceMethod yX4_hardnessAt, Cond.selects RX4 yX4_hardnessAt yX4_hardnessAt, Cond.code yX4_hardnessAt cX4_hardnessAt 3 (some .int), Cond.fieldLink RX4 117 "SiloPads$Yard" "settings" "[I", Cond.methodLink RX4 233 yX0_room, Cond.instanceMethod yX0_room, Cond.selects RX0 yX0_room yX0_room, Cond.code yX0_room cX0_room 1 (some .int)]
def wsX4_flow_r5 : List Cond := [Cond.methodLink RX4 305 yX4_dustOf, Cond.instanceMethod yX4_dustOf, Cond.selects RX4 yX4_dustOf yX4_dustOf, Cond.code yX4_dustOf cX4_dustOf 3 (some .int), Cond.methodLink RX4 308 yX1_takeFromLowest, Cond.instanceMethod yX1_takeFromLowest, Cond.selects RX1 yX1_takeFromLowest yX1_takeFromLowest, Cond.code yX1_takeFromLowest cX1_takeFromLowest 3 none]
def wsX4_flow : List Cond := .code yX4_flow cX4_flow 4 (some .int) :: ((wsX4_flow_r1 ++ (wsX4_flow_r2 ++ (wsX4_flow_r3 ++ (wsX4_flow_r4 ++ wsX4_flow_r5)))) ++ wsX40 ++ wsX30 ++ wsX10 ++ wsX00 ++ (vx_atS RX4 60 "java/lang/IndexOutOfBoundsException" ["java/lang/RuntimeException", "java/lang/Exception"]).filter goodWord ++ (vx_atS RX4 67 "java/lang/IllegalArgumentException" ["java/lang/RuntimeException", "java/lang/Exception"]).filter goodWord)
def wsX4_pads_r1 : List Cond := [Cond.classLink RX4 56 "java/lang/IndexOutOfBoundsException", Cond.initialized "java/lang/IndexOutOfBoundsException", Cond.classLink RX4 63 "java/lang/IllegalArgumentException", Cond.initialized "java/lang/IllegalArgumentException", Cond.classLink RX4 120 "java/lang/IllegalStateException", Cond.initialized "java/lang/IllegalStateException", Cond.fieldLink RX4 10 "SiloPads" "now" "LSiloPads$Yard;", Cond.fieldLink RX4 94 "SiloPads$Yard" "silos" "[LSiloPads$Silo;", Cond.fieldLink RX4 111 "SiloPads$Silo" "padsOn" "I", Cond.fieldLink RX4 117 "SiloPads$Yard" "settings" "[I", Cond.methodLink RX4 87 yX4_isNoSilo, Cond.static yX4_isNoSilo, Cond.initialized RX4, Cond.code yX4_isNoSilo cX4_isNoSilo 1 (some .boolean), Cond.methodLink RX4 114 yX3_padsOn, Cond.instanceMethod yX3_padsOn, Cond.selects RX3 yX3_padsOn yX3_padsOn, Cond.initialized RX3, Cond.code yX3_padsOn cX3_padsOn 3 (some .int), Cond.fieldLink RX3 11 "SiloPads$Yard" "silos" "[LSiloPads$Silo;", Cond.fieldLink RX3 70 "SiloPads$Silo" "padsOn" "I", Cond.methodLink RX4 68 yX4_saveState, Cond.instanceMethod yX4_saveState, Cond.selects RX4 yX4_saveState yX4_saveState]
def wsX4_pads_r2 : List Cond := [Cond.code yX4_saveState cX4_saveState 3 none, Cond.fieldLink RX4 20 "SiloPads" "savedStates" "I", Cond.fieldLink RX4 16 "SiloPads" "saved" "[LSiloPads$Yard;", Cond.methodLink RX4 186 yX3_becomeLike, Cond.instanceMethod yX3_becomeLike, Cond.selects RX3 yX3_becomeLike yX3_becomeLike, Cond.code yX3_becomeLike cX3_becomeLike 3 none, Cond.fieldLink RX3 19 "SiloPads$Yard" "ships" "[LSiloPads$Ship;", Cond.fieldLink RX3 32 "SiloPads$Yard" "settings" "[I", Cond.fieldLink RX3 35 "SiloPads$Yard" "days" "I", Cond.fieldLink RX3 39 "SiloPads$Yard" "dust" "I", Cond.fieldLink RX3 42 "SiloPads$Yard" "brought" "I", Cond.fieldLink RX3 45 "SiloPads$Yard" "gone" "I", Cond.fieldLink RX3 48 "SiloPads$Yard" "shakes" "I", Cond.fieldLink RX3 51 "SiloPads$Yard" "formed" "I", Cond.methodLink RX3 56 yX1_becomeLike, Cond.instanceMethod yX1_becomeLike, Cond.selects RX1 yX1_becomeLike yX1_becomeLike, Cond.initialized RX1, Cond.code yX1_becomeLike cX1_becomeLike 3 none, Cond.fieldLink RX1 9 "SiloPads$Silo" "tonnes" "[I", Cond.fieldLink RX1 15 "SiloPads$Silo" "ages" "[I", Cond.fieldLink RX1 18 "SiloPads$Silo" "layers" "I", Cond.fieldLink RX1 22 "SiloPads$Silo" "padsOn" "I"]
def wsX4_pads_r3 : List Cond := [Cond.fieldLink RX1 25 "SiloPads$Silo" "arch" "I", Cond.fieldLink RX1 28 "SiloPads$Silo" "shakes" "I", Cond.methodLink RX3 60 yX0_becomeLike, Cond.instanceMethod yX0_becomeLike, Cond.selects RX0 yX0_becomeLike yX0_becomeLike, Cond.initialized RX0, Cond.code yX0_becomeLike cX0_becomeLike 2 none, Cond.fieldLink RX0 9 "SiloPads$Ship" "tonnes" "I", Cond.fieldLink RX0 15 "SiloPads$Ship" "hold" "I"]
def wsX4_pads : List Cond := .code yX4_pads cX4_pads 4 (some .int) :: ((wsX4_pads_r1 ++ (wsX4_pads_r2 ++ wsX4_pads_r3)) ++ wsX40 ++ wsX30 ++ wsX10 ++ wsX00 ++ (vx_atS RX4 60 "java/lang/IndexOutOfBoundsException" ["java/lang/RuntimeException", "java/lang/Exception"]).filter goodWord ++ (vx_atS RX4 67 "java/lang/IllegalArgumentException" ["java/lang/RuntimeException", "java/lang/Exception"]).filter goodWord ++ (vx_atS RX4 124 "java/lang/IllegalStateException" ["java/lang/RuntimeException", "java/lang/Exception"]).filter goodWord)
def wsX4_shakesToBreak : List Cond := .code yX4_shakesToBreak cX4_shakesToBreak 2 (some .int) :: ([.fieldLink RX4 141 "SiloPads$Silo" "arch" "I", .fieldLink RX4 10 "SiloPads" "now" "LSiloPads$Yard;", .fieldLink RX4 117 "SiloPads$Yard" "settings" "[I", .fieldLink RX4 134 "SiloPads$Silo" "shakes" "I", .methodLink RX4 317 Lib.Math.max.name, .static Lib.Math.max.name, .initialized "java/lang/Math", .code Lib.Math.max.name Lib.Math.max.code 2 (some .int), .methodLink RX4 320 yX1_tonnesHeld, .instanceMethod yX1_tonnesHeld, .selects RX1 yX1_tonnesHeld yX1_tonnesHeld, .initialized RX1, .code yX1_tonnesHeld cX1_tonnesHeld 1 (some .int), .fieldLink RX1 25 "SiloPads$Silo" "arch" "I", .methodLink RX1 31 yX1_totalFrom, .instanceMethod yX1_totalFrom, .selects RX1 yX1_totalFrom yX1_totalFrom, .code yX1_totalFrom cX1_totalFrom 4 (some .int), .fieldLink RX1 18 "SiloPads$Silo" "layers" "I", .fieldLink RX1 9 "SiloPads$Silo" "tonnes" "[I"] ++ wsX10 ++ wsX40 ++ wsX30)
def wsX4_shake_r1 : List Cond := [Cond.classLink RX4 56 "java/lang/IndexOutOfBoundsException", Cond.initialized "java/lang/IndexOutOfBoundsException", Cond.classLink RX4 120 "java/lang/IllegalStateException", Cond.initialized "java/lang/IllegalStateException", Cond.fieldLink RX4 10 "SiloPads" "now" "LSiloPads$Yard;", Cond.fieldLink RX4 94 "SiloPads$Yard" "silos" "[LSiloPads$Silo;", Cond.fieldLink RX4 125 "SiloPads$Silo" "layers" "I", Cond.fieldLink RX4 134 "SiloPads$Silo" "shakes" "I", Cond.fieldLink RX4 137 "SiloPads$Yard" "shakes" "I", Cond.fieldLink RX4 141 "SiloPads$Silo" "arch" "I", Cond.methodLink RX4 87 yX4_isNoSilo, Cond.static yX4_isNoSilo, Cond.initialized RX4, Cond.code yX4_isNoSilo cX4_isNoSilo 1 (some .boolean), Cond.methodLink RX4 68 yX4_saveState, Cond.instanceMethod yX4_saveState, Cond.selects RX4 yX4_saveState yX4_saveState, Cond.code yX4_saveState cX4_saveState 3 none, Cond.fieldLink RX4 20 "SiloPads" "savedStates" "I", Cond.fieldLink RX4 16 "SiloPads" "saved" "[LSiloPads$Yard;", Cond.methodLink RX4 186 yX3_becomeLike, Cond.instanceMethod yX3_becomeLike, Cond.selects RX3 yX3_becomeLike yX3_becomeLike, Cond.initialized RX3]
def wsX4_shake_r2 : List Cond := [Cond.code yX3_becomeLike cX3_becomeLike 3 none, Cond.fieldLink RX3 11 "SiloPads$Yard" "silos" "[LSiloPads$Silo;", Cond.fieldLink RX3 19 "SiloPads$Yard" "ships" "[LSiloPads$Ship;", Cond.fieldLink RX3 32 "SiloPads$Yard" "settings" "[I", Cond.fieldLink RX3 35 "SiloPads$Yard" "days" "I", Cond.fieldLink RX3 39 "SiloPads$Yard" "dust" "I", Cond.fieldLink RX3 42 "SiloPads$Yard" "brought" "I", Cond.fieldLink RX3 45 "SiloPads$Yard" "gone" "I", Cond.fieldLink RX3 48 "SiloPads$Yard" "shakes" "I", Cond.fieldLink RX3 51 "SiloPads$Yard" "formed" "I", Cond.methodLink RX3 56 yX1_becomeLike, Cond.instanceMethod yX1_becomeLike, Cond.selects RX1 yX1_becomeLike yX1_becomeLike, Cond.initialized RX1, Cond.code yX1_becomeLike cX1_becomeLike 3 none, Cond.fieldLink RX1 9 "SiloPads$Silo" "tonnes" "[I", Cond.fieldLink RX1 15 "SiloPads$Silo" "ages" "[I", Cond.fieldLink RX1 18 "SiloPads$Silo" "layers" "I", Cond.fieldLink RX1 22 "SiloPads$Silo" "padsOn" "I", Cond.fieldLink RX1 25 "SiloPads$Silo" "arch" "I", Cond.fieldLink RX1 28 "SiloPads$Silo" "shakes" "I", Cond.methodLink RX3 60 yX0_becomeLike, Cond.instanceMethod yX0_becomeLike, Cond.selects RX0 yX0_becomeLike yX0_becomeLike]
def wsX4_shake_r3 : List Cond := [Cond.initialized RX0, Cond.code yX0_becomeLike cX0_becomeLike 2 none, Cond.fieldLink RX0 9 "SiloPads$Ship" "tonnes" "I", Cond.fieldLink RX0 15 "SiloPads$Ship" "hold" "I", Cond.methodLink RX4 130 yX4_shakesToBreak, Cond.instanceMethod yX4_shakesToBreak, Cond.selects RX4 yX4_shakesToBreak yX4_shakesToBreak, Cond.code yX4_shakesToBreak cX4_shakesToBreak 2 (some .int), Cond.fieldLink RX4 117 "SiloPads$Yard" "settings" "[I", Cond.methodLink RX4 317 Lib.Math.max.name, Cond.static Lib.Math.max.name, Cond.initialized "java/lang/Math", Cond.code Lib.Math.max.name Lib.Math.max.code 2 (some .int), Cond.methodLink RX4 320 yX1_tonnesHeld, Cond.instanceMethod yX1_tonnesHeld, Cond.selects RX1 yX1_tonnesHeld yX1_tonnesHeld, Cond.code yX1_tonnesHeld cX1_tonnesHeld 1 (some .int), Cond.methodLink RX1 31 yX1_totalFrom, Cond.instanceMethod yX1_totalFrom, Cond.selects RX1 yX1_totalFrom yX1_totalFrom, Cond.code yX1_totalFrom cX1_totalFrom 4 (some .int), Cond.methodLink RX4 138 yX1_makeLowestYounger, Cond.instanceMethod yX1_makeLowestYounger, Cond.selects RX1 yX1_makeLowestYounger yX1_makeLowestYounger]
def wsX4_shake_r4 : List Cond := [Cond.code yX1_makeLowestYounger cX1_makeLowestYounger 1 none, Cond.methodLink RX1 48 Lib.Math.max.name]
def wsX4_shake : List Cond := .code yX4_shake cX4_shake 4 (some .int) :: ((wsX4_shake_r1 ++ (wsX4_shake_r2 ++ (wsX4_shake_r3 ++ wsX4_shake_r4))) ++ wsX40 ++ wsX30 ++ wsX10 ++ wsX00 ++ (vx_atS RX4 60 "java/lang/IndexOutOfBoundsException" ["java/lang/RuntimeException", "java/lang/Exception"]).filter goodWord ++ (vx_atS RX4 124 "java/lang/IllegalStateException" ["java/lang/RuntimeException", "java/lang/Exception"]).filter goodWord)
def wsX4_passDayIn : List Cond := .code yX4_passDayIn cX4_passDayIn 2 (some .int) :: ([.fieldLink RX4 203 "SiloPads$Silo" "ages" "[I", .fieldLink RX4 141 "SiloPads$Silo" "arch" "I", .fieldLink RX4 134 "SiloPads$Silo" "shakes" "I", .methodLink RX4 314 yX1_makeOlder, .instanceMethod yX1_makeOlder, .selects RX1 yX1_makeOlder yX1_makeOlder, .initialized RX1, .code yX1_makeOlder cX1_makeOlder 2 none, .fieldLink RX1 18 "SiloPads$Silo" "layers" "I", .fieldLink RX1 15 "SiloPads$Silo" "ages" "[I", .methodLink RX4 251 yX1_canGetArch, .instanceMethod yX1_canGetArch, .selects RX1 yX1_canGetArch yX1_canGetArch, .code yX1_canGetArch cX1_canGetArch 1 (some .boolean), .fieldLink RX1 25 "SiloPads$Silo" "arch" "I", .methodLink RX4 206 yX4_hardnessAt, .instanceMethod yX4_hardnessAt, .selects RX4 yX4_hardnessAt yX4_hardnessAt, .initialized RX4, .code yX4_hardnessAt cX4_hardnessAt 3 (some .int), .fieldLink RX4 10 "SiloPads" "now" "LSiloPads$Yard;", .fieldLink RX4 117 "SiloPads$Yard" "settings" "[I"] ++ wsX10 ++ wsX40 ++ wsX30)
def wsX4_passDays_r1 : List Cond := [Cond.fieldLink RX4 10 "SiloPads" "now" "LSiloPads$Yard;", Cond.fieldLink RX4 213 "SiloPads$Yard" "days" "I", Cond.fieldLink RX4 94 "SiloPads$Yard" "silos" "[LSiloPads$Silo;", Cond.fieldLink RX4 228 "SiloPads$Yard" "formed" "I", Cond.methodLink RX4 311 yX4_passDayIn, Cond.instanceMethod yX4_passDayIn, Cond.selects RX4 yX4_passDayIn yX4_passDayIn, Cond.initialized RX4, Cond.code yX4_passDayIn cX4_passDayIn 2 (some .int), Cond.fieldLink RX4 203 "SiloPads$Silo" "ages" "[I", Cond.fieldLink RX4 141 "SiloPads$Silo" "arch" "I", Cond.fieldLink RX4 134 "SiloPads$Silo" "shakes" "I", Cond.methodLink RX4 314 yX1_makeOlder, Cond.instanceMethod yX1_makeOlder, Cond.selects RX1 yX1_makeOlder yX1_makeOlder, Cond.initialized RX1, Cond.code yX1_makeOlder cX1_makeOlder 2 none, Cond.fieldLink RX1 18 "SiloPads$Silo" "layers" "I", Cond.fieldLink RX1 15 "SiloPads$Silo" "ages" "[I", Cond.methodLink RX4 251 yX1_canGetArch, Cond.instanceMethod yX1_canGetArch, Cond.selects RX1 yX1_canGetArch yX1_canGetArch, Cond.code yX1_canGetArch cX1_canGetArch 1 (some .boolean), Cond.fieldLink RX1 25 "SiloPads$Silo" "arch" "I"]
def wsX4_passDays_r2 : List Cond := [Cond.methodLink RX4 206 yX4_hardnessAt, Cond.instanceMethod yX4_hardnessAt, Cond.selects RX4 yX4_hardnessAt yX4_hardnessAt, Cond.code yX4_hardnessAt cX4_hardnessAt 3 (some .int), Cond.fieldLink RX4 117 "SiloPads$Yard" "settings" "[I"]
def wsX4_passDays : List Cond := .code yX4_passDays cX4_passDays 5 (some .int) :: ((wsX4_passDays_r1 ++ wsX4_passDays_r2) ++ wsX40 ++ wsX30 ++ wsX10)
def wsX4_pass_r1 : List Cond := [Cond.classLink RX4 63 "java/lang/IllegalArgumentException", Cond.initialized "java/lang/IllegalArgumentException", Cond.methodLink RX4 68 yX4_saveState, Cond.instanceMethod yX4_saveState, Cond.selects RX4 yX4_saveState yX4_saveState, Cond.initialized RX4, Cond.code yX4_saveState cX4_saveState 3 none, Cond.fieldLink RX4 20 "SiloPads" "savedStates" "I", Cond.fieldLink RX4 16 "SiloPads" "saved" "[LSiloPads$Yard;", Cond.fieldLink RX4 10 "SiloPads" "now" "LSiloPads$Yard;", Cond.methodLink RX4 186 yX3_becomeLike, Cond.instanceMethod yX3_becomeLike, Cond.selects RX3 yX3_becomeLike yX3_becomeLike, Cond.initialized RX3, Cond.code yX3_becomeLike cX3_becomeLike 3 none, Cond.fieldLink RX3 11 "SiloPads$Yard" "silos" "[LSiloPads$Silo;", Cond.fieldLink RX3 19 "SiloPads$Yard" "ships" "[LSiloPads$Ship;", Cond.fieldLink RX3 32 "SiloPads$Yard" "settings" "[I", Cond.fieldLink RX3 35 "SiloPads$Yard" "days" "I", Cond.fieldLink RX3 39 "SiloPads$Yard" "dust" "I", Cond.fieldLink RX3 42 "SiloPads$Yard" "brought" "I", Cond.fieldLink RX3 45 "SiloPads$Yard" "gone" "I", Cond.fieldLink RX3 48 "SiloPads$Yard" "shakes" "I", Cond.fieldLink RX3 51 "SiloPads$Yard" "formed" "I"]
def wsX4_pass_r2 : List Cond := [Cond.methodLink RX3 56 yX1_becomeLike, Cond.instanceMethod yX1_becomeLike, Cond.selects RX1 yX1_becomeLike yX1_becomeLike, Cond.initialized RX1, Cond.code yX1_becomeLike cX1_becomeLike 3 none, Cond.fieldLink RX1 9 "SiloPads$Silo" "tonnes" "[I", Cond.fieldLink RX1 15 "SiloPads$Silo" "ages" "[I", Cond.fieldLink RX1 18 "SiloPads$Silo" "layers" "I", Cond.fieldLink RX1 22 "SiloPads$Silo" "padsOn" "I", Cond.fieldLink RX1 25 "SiloPads$Silo" "arch" "I", Cond.fieldLink RX1 28 "SiloPads$Silo" "shakes" "I", Cond.methodLink RX3 60 yX0_becomeLike, Cond.instanceMethod yX0_becomeLike, Cond.selects RX0 yX0_becomeLike yX0_becomeLike, Cond.initialized RX0, Cond.code yX0_becomeLike cX0_becomeLike 2 none, Cond.fieldLink RX0 9 "SiloPads$Ship" "tonnes" "I", Cond.fieldLink RX0 15 "SiloPads$Ship" "hold" "I", Cond.methodLink RX4 146 yX4_passDays, Cond.instanceMethod yX4_passDays, Cond.selects RX4 yX4_passDays yX4_passDays, Cond.code yX4_passDays cX4_passDays 5 (some .int), Cond.fieldLink RX4 213 "SiloPads$Yard" "days" "I", Cond.fieldLink RX4 94 "SiloPads$Yard" "silos" "[LSiloPads$Silo;"]
def wsX4_pass_r3 : List Cond := [Cond.fieldLink RX4 228 "SiloPads$Yard" "formed" "I", Cond.methodLink RX4 311 yX4_passDayIn, Cond.instanceMethod yX4_passDayIn, Cond.selects RX4 yX4_passDayIn yX4_passDayIn, Cond.code yX4_passDayIn cX4_passDayIn 2 (some .int), Cond.fieldLink RX4 203 "SiloPads$Silo" "ages" "[I", Cond.fieldLink RX4 141 "SiloPads$Silo" "arch" "I", Cond.fieldLink RX4 134 "SiloPads$Silo" "shakes" "I", Cond.methodLink RX4 314 yX1_makeOlder, Cond.instanceMethod yX1_makeOlder, Cond.selects RX1 yX1_makeOlder yX1_makeOlder, Cond.code yX1_makeOlder cX1_makeOlder 2 none, Cond.methodLink RX4 251 yX1_canGetArch, Cond.instanceMethod yX1_canGetArch, Cond.selects RX1 yX1_canGetArch yX1_canGetArch, Cond.code yX1_canGetArch cX1_canGetArch 1 (some .boolean), Cond.methodLink RX4 206 yX4_hardnessAt, Cond.instanceMethod yX4_hardnessAt, Cond.selects RX4 yX4_hardnessAt yX4_hardnessAt, Cond.code yX4_hardnessAt cX4_hardnessAt 3 (some .int), Cond.fieldLink RX4 117 "SiloPads$Yard" "settings" "[I"]
def wsX4_pass : List Cond := .code yX4_pass cX4_pass 2 (some .int) :: ((wsX4_pass_r1 ++ (wsX4_pass_r2 ++ wsX4_pass_r3)) ++ wsX40 ++ wsX30 ++ wsX10 ++ wsX00 ++ (vx_atS RX4 67 "java/lang/IllegalArgumentException" ["java/lang/RuntimeException", "java/lang/Exception"]).filter goodWord)
def wsX4_set_r1 : List Cond := [Cond.classLink RX4 56 "java/lang/IndexOutOfBoundsException", Cond.initialized "java/lang/IndexOutOfBoundsException", Cond.classLink RX4 63 "java/lang/IllegalArgumentException", Cond.initialized "java/lang/IllegalArgumentException", Cond.classLink RX4 120 "java/lang/IllegalStateException", Cond.initialized "java/lang/IllegalStateException", Cond.fieldLink RX4 10 "SiloPads" "now" "LSiloPads$Yard;", Cond.fieldLink RX4 117 "SiloPads$Yard" "settings" "[I", Cond.fieldLink RX4 152 "SiloPads" "SETTING_LEAST" "[I", Cond.fieldLink RX4 155 "SiloPads" "SETTING_MOST" "[I", Cond.methodLink RX4 114 yX3_padsOn, Cond.instanceMethod yX3_padsOn, Cond.selects RX3 yX3_padsOn yX3_padsOn, Cond.initialized RX3, Cond.code yX3_padsOn cX3_padsOn 3 (some .int), Cond.fieldLink RX3 11 "SiloPads$Yard" "silos" "[LSiloPads$Silo;", Cond.fieldLink RX3 70 "SiloPads$Silo" "padsOn" "I", Cond.methodLink RX4 68 yX4_saveState, Cond.instanceMethod yX4_saveState, Cond.selects RX4 yX4_saveState yX4_saveState, Cond.initialized RX4, Cond.code yX4_saveState cX4_saveState 3 none, Cond.fieldLink RX4 20 "SiloPads" "savedStates" "I", Cond.fieldLink RX4 16 "SiloPads" "saved" "[LSiloPads$Yard;"]
def wsX4_set_r2 : List Cond := [Cond.methodLink RX4 186 yX3_becomeLike, Cond.instanceMethod yX3_becomeLike, Cond.selects RX3 yX3_becomeLike yX3_becomeLike, Cond.code yX3_becomeLike cX3_becomeLike 3 none, Cond.fieldLink RX3 19 "SiloPads$Yard" "ships" "[LSiloPads$Ship;", Cond.fieldLink RX3 32 "SiloPads$Yard" "settings" "[I", Cond.fieldLink RX3 35 "SiloPads$Yard" "days" "I", Cond.fieldLink RX3 39 "SiloPads$Yard" "dust" "I", Cond.fieldLink RX3 42 "SiloPads$Yard" "brought" "I", Cond.fieldLink RX3 45 "SiloPads$Yard" "gone" "I", Cond.fieldLink RX3 48 "SiloPads$Yard" "shakes" "I", Cond.fieldLink RX3 51 "SiloPads$Yard" "formed" "I", Cond.methodLink RX3 56 yX1_becomeLike, Cond.instanceMethod yX1_becomeLike, Cond.selects RX1 yX1_becomeLike yX1_becomeLike, Cond.initialized RX1, Cond.code yX1_becomeLike cX1_becomeLike 3 none, Cond.fieldLink RX1 9 "SiloPads$Silo" "tonnes" "[I", Cond.fieldLink RX1 15 "SiloPads$Silo" "ages" "[I", Cond.fieldLink RX1 18 "SiloPads$Silo" "layers" "I", Cond.fieldLink RX1 22 "SiloPads$Silo" "padsOn" "I", Cond.fieldLink RX1 25 "SiloPads$Silo" "arch" "I", Cond.fieldLink RX1 28 "SiloPads$Silo" "shakes" "I", Cond.methodLink RX3 60 yX0_becomeLike]
def wsX4_set_r3 : List Cond := [Cond.instanceMethod yX0_becomeLike, Cond.selects RX0 yX0_becomeLike yX0_becomeLike, Cond.initialized RX0, Cond.code yX0_becomeLike cX0_becomeLike 2 none, Cond.fieldLink RX0 9 "SiloPads$Ship" "tonnes" "I", Cond.fieldLink RX0 15 "SiloPads$Ship" "hold" "I"]
def wsX4_set : List Cond := .code yX4_set cX4_set 4 (some .int) :: ((wsX4_set_r1 ++ (wsX4_set_r2 ++ wsX4_set_r3)) ++ wsX40 ++ wsX30 ++ wsX10 ++ wsX00 ++ (vx_atS RX4 60 "java/lang/IndexOutOfBoundsException" ["java/lang/RuntimeException", "java/lang/Exception"]).filter goodWord ++ (vx_atS RX4 67 "java/lang/IllegalArgumentException" ["java/lang/RuntimeException", "java/lang/Exception"]).filter goodWord ++ (vx_atS RX4 124 "java/lang/IllegalStateException" ["java/lang/RuntimeException", "java/lang/Exception"]).filter goodWord)
def wsX4_undo_r1 : List Cond := [Cond.classLink RX4 120 "java/lang/IllegalStateException", Cond.initialized "java/lang/IllegalStateException", Cond.fieldLink RX4 20 "SiloPads" "savedStates" "I", Cond.fieldLink RX4 10 "SiloPads" "now" "LSiloPads$Yard;", Cond.fieldLink RX4 16 "SiloPads" "saved" "[LSiloPads$Yard;", Cond.methodLink RX4 186 yX3_becomeLike, Cond.instanceMethod yX3_becomeLike, Cond.selects RX3 yX3_becomeLike yX3_becomeLike, Cond.initialized RX3, Cond.code yX3_becomeLike cX3_becomeLike 3 none, Cond.fieldLink RX3 11 "SiloPads$Yard" "silos" "[LSiloPads$Silo;", Cond.fieldLink RX3 19 "SiloPads$Yard" "ships" "[LSiloPads$Ship;", Cond.fieldLink RX3 32 "SiloPads$Yard" "settings" "[I", Cond.fieldLink RX3 35 "SiloPads$Yard" "days" "I", Cond.fieldLink RX3 39 "SiloPads$Yard" "dust" "I", Cond.fieldLink RX3 42 "SiloPads$Yard" "brought" "I", Cond.fieldLink RX3 45 "SiloPads$Yard" "gone" "I", Cond.fieldLink RX3 48 "SiloPads$Yard" "shakes" "I", Cond.fieldLink RX3 51 "SiloPads$Yard" "formed" "I", Cond.methodLink RX3 56 yX1_becomeLike, Cond.instanceMethod yX1_becomeLike, Cond.selects RX1 yX1_becomeLike yX1_becomeLike, Cond.initialized RX1, Cond.code yX1_becomeLike cX1_becomeLike 3 none]
def wsX4_undo_r2 : List Cond := [Cond.fieldLink RX1 9 "SiloPads$Silo" "tonnes" "[I", Cond.fieldLink RX1 15 "SiloPads$Silo" "ages" "[I", Cond.fieldLink RX1 18 "SiloPads$Silo" "layers" "I", Cond.fieldLink RX1 22 "SiloPads$Silo" "padsOn" "I", Cond.fieldLink RX1 25 "SiloPads$Silo" "arch" "I", Cond.fieldLink RX1 28 "SiloPads$Silo" "shakes" "I", Cond.methodLink RX3 60 yX0_becomeLike, Cond.instanceMethod yX0_becomeLike, Cond.selects RX0 yX0_becomeLike yX0_becomeLike, Cond.initialized RX0, Cond.code yX0_becomeLike cX0_becomeLike 2 none, Cond.fieldLink RX0 9 "SiloPads$Ship" "tonnes" "I", Cond.fieldLink RX0 15 "SiloPads$Ship" "hold" "I"]
def wsX4_undo : List Cond := .code yX4_undo cX4_undo 1 (some .int) :: ((wsX4_undo_r1 ++ wsX4_undo_r2) ++ wsX40 ++ wsX30 ++ wsX10 ++ wsX00 ++ (vx_atS RX4 124 "java/lang/IllegalStateException" ["java/lang/RuntimeException", "java/lang/Exception"]).filter goodWord)
def wsX4_silo_r1 : List Cond := [Cond.classLink RX4 56 "java/lang/IndexOutOfBoundsException", Cond.initialized "java/lang/IndexOutOfBoundsException", Cond.classLink RX4 63 "java/lang/IllegalArgumentException", Cond.initialized "java/lang/IllegalArgumentException", Cond.fieldLink RX4 10 "SiloPads" "now" "LSiloPads$Yard;", Cond.fieldLink RX4 94 "SiloPads$Yard" "silos" "[LSiloPads$Silo;", Cond.fieldLink RX4 125 "SiloPads$Silo" "layers" "I", Cond.fieldLink RX4 111 "SiloPads$Silo" "padsOn" "I", Cond.fieldLink RX4 141 "SiloPads$Silo" "arch" "I", Cond.fieldLink RX4 134 "SiloPads$Silo" "shakes" "I", Cond.methodLink RX4 87 yX4_isNoSilo, Cond.static yX4_isNoSilo, Cond.initialized RX4, Cond.code yX4_isNoSilo cX4_isNoSilo 1 (some .boolean), Cond.methodLink RX4 190 yX1_total, Cond.instanceMethod yX1_total, Cond.selects RX1 yX1_total yX1_total, Cond.initialized RX1, Cond.code yX1_total cX1_total 1 (some .int), Cond.methodLink RX1 31 yX1_totalFrom, Cond.instanceMethod yX1_totalFrom, Cond.selects RX1 yX1_totalFrom yX1_totalFrom, Cond.code yX1_totalFrom cX1_totalFrom 4 (some .int), Cond.fieldLink RX1 18 "SiloPads$Silo" "layers" "I"]
def wsX4_silo_r2 : List Cond := [Cond.fieldLink RX1 9 "SiloPads$Silo" "tonnes" "[I", Cond.methodLink RX4 193 yX4_outInHour, Cond.instanceMethod yX4_outInHour, Cond.selects RX4 yX4_outInHour yX4_outInHour, Cond.code yX4_outInHour cX4_outInHour 3 (some .int), Cond.fieldLink RX4 203 "SiloPads$Silo" "ages" "[I", Cond.methodLink RX4 206 yX4_hardnessAt, Cond.instanceMethod yX4_hardnessAt, Cond.selects RX4 yX4_hardnessAt yX4_hardnessAt, Cond.code yX4_hardnessAt cX4_hardnessAt 3 (some .int), Cond.fieldLink RX4 117 "SiloPads$Yard" "settings" "[I"]
def wsX4_silo : List Cond := .code yX4_silo cX4_silo 4 (some .int) :: ((wsX4_silo_r1 ++ wsX4_silo_r2) ++ wsX40 ++ wsX30 ++ wsX10 ++ (vx_atS RX4 60 "java/lang/IndexOutOfBoundsException" ["java/lang/RuntimeException", "java/lang/Exception"]).filter goodWord ++ (vx_atS RX4 67 "java/lang/IllegalArgumentException" ["java/lang/RuntimeException", "java/lang/Exception"]).filter goodWord)
def wsX4_layer : List Cond := .code yX4_layer cX4_layer 5 (some .int) :: ([.classLink RX4 56 "java/lang/IndexOutOfBoundsException", .initialized "java/lang/IndexOutOfBoundsException", .classLink RX4 63 "java/lang/IllegalArgumentException", .initialized "java/lang/IllegalArgumentException", .fieldLink RX4 10 "SiloPads" "now" "LSiloPads$Yard;", .fieldLink RX4 94 "SiloPads$Yard" "silos" "[LSiloPads$Silo;", .fieldLink RX4 125 "SiloPads$Silo" "layers" "I", .fieldLink RX4 201 "SiloPads$Silo" "tonnes" "[I", .fieldLink RX4 203 "SiloPads$Silo" "ages" "[I", .methodLink RX4 87 yX4_isNoSilo, .static yX4_isNoSilo, .initialized RX4, .code yX4_isNoSilo cX4_isNoSilo 1 (some .boolean), .methodLink RX4 206 yX4_hardnessAt, .instanceMethod yX4_hardnessAt, .selects RX4 yX4_hardnessAt yX4_hardnessAt, .code yX4_hardnessAt cX4_hardnessAt 3 (some .int), .fieldLink RX4 117 "SiloPads$Yard" "settings" "[I"] ++ wsX40 ++ wsX30 ++ wsX10 ++ (vx_atS RX4 60 "java/lang/IndexOutOfBoundsException" ["java/lang/RuntimeException", "java/lang/Exception"]).filter goodWord ++ (vx_atS RX4 67 "java/lang/IllegalArgumentException" ["java/lang/RuntimeException", "java/lang/Exception"]).filter goodWord)
def wsX4_shipOf : List Cond := .code yX4_shipOf cX4_shipOf 3 (some .int) :: ([.classLink RX4 56 "java/lang/IndexOutOfBoundsException", .initialized "java/lang/IndexOutOfBoundsException", .classLink RX4 63 "java/lang/IllegalArgumentException", .initialized "java/lang/IllegalArgumentException", .fieldLink RX4 10 "SiloPads" "now" "LSiloPads$Yard;", .fieldLink RX4 71 "SiloPads$Yard" "ships" "[LSiloPads$Ship;", .fieldLink RX4 75 "SiloPads$Ship" "tonnes" "I", .fieldLink RX4 78 "SiloPads$Ship" "hold" "I", .methodLink RX4 52 yX4_isNoShip, .static yX4_isNoShip, .initialized RX4, .code yX4_isNoShip cX4_isNoShip 1 (some .boolean)] ++ wsX40 ++ wsX30 ++ wsX00 ++ (vx_atS RX4 60 "java/lang/IndexOutOfBoundsException" ["java/lang/RuntimeException", "java/lang/Exception"]).filter goodWord ++ (vx_atS RX4 67 "java/lang/IllegalArgumentException" ["java/lang/RuntimeException", "java/lang/Exception"]).filter goodWord)
def wsX4_count_r1 : List Cond := [Cond.classLink RX4 63 "java/lang/IllegalArgumentException", Cond.initialized "java/lang/IllegalArgumentException", Cond.fieldLink RX4 10 "SiloPads" "now" "LSiloPads$Yard;", Cond.fieldLink RX4 213 "SiloPads$Yard" "days" "I", Cond.fieldLink RX4 222 "SiloPads$Yard" "dust" "I", Cond.fieldLink RX4 81 "SiloPads$Yard" "brought" "I", Cond.fieldLink RX4 84 "SiloPads$Yard" "gone" "I", Cond.fieldLink RX4 137 "SiloPads$Yard" "shakes" "I", Cond.fieldLink RX4 228 "SiloPads$Yard" "formed" "I", Cond.fieldLink RX4 117 "SiloPads$Yard" "settings" "[I", Cond.fieldLink RX4 20 "SiloPads" "savedStates" "I", Cond.methodLink RX4 216 yX3_siloTonnes, Cond.instanceMethod yX3_siloTonnes, Cond.selects RX3 yX3_siloTonnes yX3_siloTonnes, Cond.initialized RX3, Cond.code yX3_siloTonnes cX3_siloTonnes 3 (some .int), Cond.fieldLink RX3 11 "SiloPads$Yard" "silos" "[LSiloPads$Silo;", Cond.methodLink RX3 63 yX1_total, Cond.instanceMethod yX1_total, Cond.selects RX1 yX1_total yX1_total, Cond.initialized RX1, Cond.code yX1_total cX1_total 1 (some .int), Cond.methodLink RX1 31 yX1_totalFrom, Cond.instanceMethod yX1_totalFrom]
def wsX4_count_r2 : List Cond := [Cond.selects RX1 yX1_totalFrom yX1_totalFrom, Cond.code yX1_totalFrom cX1_totalFrom 4 (some .int), Cond.fieldLink RX1 18 "SiloPads$Silo" "layers" "I", Cond.fieldLink RX1 9 "SiloPads$Silo" "tonnes" "[I", Cond.methodLink RX4 219 yX3_shipTonnes, Cond.instanceMethod yX3_shipTonnes, Cond.selects RX3 yX3_shipTonnes yX3_shipTonnes, Cond.code yX3_shipTonnes cX3_shipTonnes 3 (some .int), Cond.fieldLink RX3 19 "SiloPads$Yard" "ships" "[LSiloPads$Ship;", Cond.fieldLink RX3 67 "SiloPads$Ship" "tonnes" "I", Cond.methodLink RX4 114 yX3_padsOn, Cond.instanceMethod yX3_padsOn, Cond.selects RX3 yX3_padsOn yX3_padsOn, Cond.code yX3_padsOn cX3_padsOn 3 (some .int), Cond.fieldLink RX3 70 "SiloPads$Silo" "padsOn" "I", Cond.methodLink RX4 225 yX3_arches, Cond.instanceMethod yX3_arches, Cond.selects RX3 yX3_arches yX3_arches, Cond.code yX3_arches cX3_arches 3 (some .int), Cond.fieldLink RX3 73 "SiloPads$Silo" "arch" "I"]
def wsX4_count : List Cond := .code yX4_count cX4_count 2 (some .int) :: ((wsX4_count_r1 ++ wsX4_count_r2) ++ wsX40 ++ wsX30 ++ wsX10 ++ wsX00 ++ (vx_atS RX4 67 "java/lang/IllegalArgumentException" ["java/lang/RuntimeException", "java/lang/Exception"]).filter goodWord)
def wsX4_whyNot_r1 : List Cond := [Cond.classLink RX4 56 "java/lang/IndexOutOfBoundsException", Cond.initialized "java/lang/IndexOutOfBoundsException", Cond.fieldLink RX4 10 "SiloPads" "now" "LSiloPads$Yard;", Cond.fieldLink RX4 94 "SiloPads$Yard" "silos" "[LSiloPads$Silo;", Cond.fieldLink RX4 125 "SiloPads$Silo" "layers" "I", Cond.fieldLink RX4 141 "SiloPads$Silo" "arch" "I", Cond.fieldLink RX4 71 "SiloPads$Yard" "ships" "[LSiloPads$Ship;", Cond.fieldLink RX4 111 "SiloPads$Silo" "padsOn" "I", Cond.methodLink RX4 87 yX4_isNoSilo, Cond.static yX4_isNoSilo, Cond.initialized RX4, Cond.code yX4_isNoSilo cX4_isNoSilo 1 (some .boolean), Cond.methodLink RX4 52 yX4_isNoShip, Cond.static yX4_isNoShip, Cond.code yX4_isNoShip cX4_isNoShip 1 (some .boolean), Cond.methodLink RX4 233 yX0_room, Cond.instanceMethod yX0_room, Cond.selects RX0 yX0_room yX0_room, Cond.initialized RX0, Cond.code yX0_room cX0_room 1 (some .int), Cond.fieldLink RX0 15 "SiloPads$Ship" "hold" "I", Cond.fieldLink RX0 9 "SiloPads$Ship" "tonnes" "I", Cond.methodLink RX4 193 yX4_outInHour, Cond.instanceMethod yX4_outInHour]
def wsX4_whyNot_r2 : List Cond := [Cond.selects RX4 yX4_outInHour yX4_outInHour, Cond.code yX4_outInHour cX4_outInHour 3 (some .int), Cond.fieldLink RX4 203 "SiloPads$Silo" "ages" "[I", Cond.methodLink RX4 206 yX4_hardnessAt, Cond.instanceMethod yX4_hardnessAt, Cond.selects RX4 yX4_hardnessAt yX4_hardnessAt, Cond.code yX4_hardnessAt cX4_hardnessAt 3 (some .int), Cond.fieldLink RX4 117 "SiloPads$Yard" "settings" "[I"]
def wsX4_whyNot : List Cond := .code yX4_whyNot cX4_whyNot 4 (some .int) :: ((wsX4_whyNot_r1 ++ wsX4_whyNot_r2) ++ wsX40 ++ wsX30 ++ wsX10 ++ wsX00 ++ (vx_atS RX4 60 "java/lang/IndexOutOfBoundsException" ["java/lang/RuntimeException", "java/lang/Exception"]).filter goodWord)
def wsX4_isMoreUrgent : List Cond := .code yX4_isMoreUrgent cX4_isMoreUrgent 2 (some .boolean) :: ([.fieldLink RX4 203 "SiloPads$Silo" "ages" "[I", .methodLink RX4 190 yX1_total, .instanceMethod yX1_total, .selects RX1 yX1_total yX1_total, .initialized RX1, .code yX1_total cX1_total 1 (some .int), .methodLink RX1 31 yX1_totalFrom, .instanceMethod yX1_totalFrom, .selects RX1 yX1_totalFrom yX1_totalFrom, .code yX1_totalFrom cX1_totalFrom 4 (some .int), .fieldLink RX1 18 "SiloPads$Silo" "layers" "I", .fieldLink RX1 9 "SiloPads$Silo" "tonnes" "[I"] ++ wsX10)
def wsX4_urgent : List Cond := .code yX4_urgent cX4_urgent 3 (some .int) :: ([.fieldLink RX4 10 "SiloPads" "now" "LSiloPads$Yard;", .fieldLink RX4 94 "SiloPads$Yard" "silos" "[LSiloPads$Silo;", .fieldLink RX4 125 "SiloPads$Silo" "layers" "I", .methodLink RX4 247 yX4_isMoreUrgent, .static yX4_isMoreUrgent, .initialized RX4, .code yX4_isMoreUrgent cX4_isMoreUrgent 2 (some .boolean), .fieldLink RX4 203 "SiloPads$Silo" "ages" "[I", .methodLink RX4 190 yX1_total, .instanceMethod yX1_total, .selects RX1 yX1_total yX1_total, .initialized RX1, .code yX1_total cX1_total 1 (some .int), .methodLink RX1 31 yX1_totalFrom, .instanceMethod yX1_totalFrom, .selects RX1 yX1_totalFrom yX1_totalFrom, .code yX1_totalFrom cX1_totalFrom 4 (some .int), .fieldLink RX1 18 "SiloPads$Silo" "layers" "I", .fieldLink RX1 9 "SiloPads$Silo" "tonnes" "[I"] ++ wsX40 ++ wsX30 ++ wsX10)
def wsX4_shakesNeeded_r1 : List Cond := [Cond.classLink RX4 56 "java/lang/IndexOutOfBoundsException", Cond.initialized "java/lang/IndexOutOfBoundsException", Cond.fieldLink RX4 10 "SiloPads" "now" "LSiloPads$Yard;", Cond.fieldLink RX4 94 "SiloPads$Yard" "silos" "[LSiloPads$Silo;", Cond.methodLink RX4 87 yX4_isNoSilo, Cond.static yX4_isNoSilo, Cond.initialized RX4, Cond.code yX4_isNoSilo cX4_isNoSilo 1 (some .boolean), Cond.methodLink RX4 130 yX4_shakesToBreak, Cond.instanceMethod yX4_shakesToBreak, Cond.selects RX4 yX4_shakesToBreak yX4_shakesToBreak, Cond.code yX4_shakesToBreak cX4_shakesToBreak 2 (some .int), Cond.fieldLink RX4 141 "SiloPads$Silo" "arch" "I", Cond.fieldLink RX4 117 "SiloPads$Yard" "settings" "[I", Cond.fieldLink RX4 134 "SiloPads$Silo" "shakes" "I", Cond.methodLink RX4 317 Lib.Math.max.name, Cond.static Lib.Math.max.name, Cond.initialized "java/lang/Math", Cond.code Lib.Math.max.name Lib.Math.max.code 2 (some .int), Cond.methodLink RX4 320 yX1_tonnesHeld, Cond.instanceMethod yX1_tonnesHeld, Cond.selects RX1 yX1_tonnesHeld yX1_tonnesHeld, Cond.initialized RX1, Cond.code yX1_tonnesHeld cX1_tonnesHeld 1 (some .int)]
def wsX4_shakesNeeded_r2 : List Cond := [Cond.fieldLink RX1 25 "SiloPads$Silo" "arch" "I", Cond.methodLink RX1 31 yX1_totalFrom, Cond.instanceMethod yX1_totalFrom, Cond.selects RX1 yX1_totalFrom yX1_totalFrom, Cond.code yX1_totalFrom cX1_totalFrom 4 (some .int), Cond.fieldLink RX1 18 "SiloPads$Silo" "layers" "I", Cond.fieldLink RX1 9 "SiloPads$Silo" "tonnes" "[I"]
def wsX4_shakesNeeded : List Cond := .code yX4_shakesNeeded cX4_shakesNeeded 2 (some .int) :: ((wsX4_shakesNeeded_r1 ++ wsX4_shakesNeeded_r2) ++ wsX40 ++ wsX30 ++ wsX10 ++ (vx_atS RX4 60 "java/lang/IndexOutOfBoundsException" ["java/lang/RuntimeException", "java/lang/Exception"]).filter goodWord)
def wsX4_softTonnes : List Cond := .code yX4_softTonnes cX4_softTonnes 4 (some .int) :: ([.fieldLink RX4 125 "SiloPads$Silo" "layers" "I", .fieldLink RX4 203 "SiloPads$Silo" "ages" "[I", .fieldLink RX4 201 "SiloPads$Silo" "tonnes" "[I", .methodLink RX4 206 yX4_hardnessAt, .instanceMethod yX4_hardnessAt, .selects RX4 yX4_hardnessAt yX4_hardnessAt, .initialized RX4, .code yX4_hardnessAt cX4_hardnessAt 3 (some .int), .fieldLink RX4 10 "SiloPads" "now" "LSiloPads$Yard;", .fieldLink RX4 117 "SiloPads$Yard" "settings" "[I"] ++ wsX10 ++ wsX40 ++ wsX30)
def wsX4_softness_r1 : List Cond := [Cond.fieldLink RX4 10 "SiloPads" "now" "LSiloPads$Yard;", Cond.fieldLink RX4 94 "SiloPads$Yard" "silos" "[LSiloPads$Silo;", Cond.methodLink RX4 216 yX3_siloTonnes, Cond.instanceMethod yX3_siloTonnes, Cond.selects RX3 yX3_siloTonnes yX3_siloTonnes, Cond.initialized RX3, Cond.code yX3_siloTonnes cX3_siloTonnes 3 (some .int), Cond.fieldLink RX3 11 "SiloPads$Yard" "silos" "[LSiloPads$Silo;", Cond.methodLink RX3 63 yX1_total, Cond.instanceMethod yX1_total, Cond.selects RX1 yX1_total yX1_total, Cond.initialized RX1, Cond.code yX1_total cX1_total 1 (some .int), Cond.methodLink RX1 31 yX1_totalFrom, Cond.instanceMethod yX1_totalFrom, Cond.selects RX1 yX1_totalFrom yX1_totalFrom, Cond.code yX1_totalFrom cX1_totalFrom 4 (some .int), Cond.fieldLink RX1 18 "SiloPads$Silo" "layers" "I", Cond.fieldLink RX1 9 "SiloPads$Silo" "tonnes" "[I", Cond.methodLink RX4 263 yX4_softTonnes, Cond.instanceMethod yX4_softTonnes, Cond.selects RX4 yX4_softTonnes yX4_softTonnes, Cond.initialized RX4, Cond.code yX4_softTonnes cX4_softTonnes 4 (some .int)]
def wsX4_softness_r2 : List Cond := [Cond.fieldLink RX4 125 "SiloPads$Silo" "layers" "I", Cond.fieldLink RX4 203 "SiloPads$Silo" "ages" "[I", Cond.fieldLink RX4 201 "SiloPads$Silo" "tonnes" "[I", Cond.methodLink RX4 206 yX4_hardnessAt, Cond.instanceMethod yX4_hardnessAt, Cond.selects RX4 yX4_hardnessAt yX4_hardnessAt, Cond.code yX4_hardnessAt cX4_hardnessAt 3 (some .int), Cond.fieldLink RX4 117 "SiloPads$Yard" "settings" "[I"]
def wsX4_softness : List Cond := .code yX4_softness cX4_softness 4 (some .double) :: ((wsX4_softness_r1 ++ wsX4_softness_r2) ++ wsX40 ++ wsX30 ++ wsX10)
def wsJ9_max_7cf53 : List Cond := .code yJ9_max_7cf53 cJ9_max_7cf53 2 (some .int) :: ([])
def wsJ9_min_7cf53 : List Cond := .code yJ9_min_7cf53 cJ9_min_7cf53 2 (some .int) :: ([])
def wsL_cell : List Cond := .code yL_cell cL_cell 2 (some .int) :: ([])
def wsL_low : List Cond := .code yL_low cL_low 2 (some .int) :: ([.constant RL 7 (2147483647)])
def wsL_told_r1 : List Cond := [Cond.constantLong RL 8 (3), Cond.constantLong RL 10 (31), Cond.methodLink RL 12 yX4_count, Cond.instanceMethod yX4_count, Cond.selects RX4 yX4_count yX4_count, Cond.initialized RX4, Cond.code yX4_count cX4_count 2 (some .int), Cond.classLink RX4 63 "java/lang/IllegalArgumentException", Cond.initialized "java/lang/IllegalArgumentException", Cond.fieldLink RX4 10 "SiloPads" "now" "LSiloPads$Yard;", Cond.fieldLink RX4 213 "SiloPads$Yard" "days" "I", Cond.fieldLink RX4 222 "SiloPads$Yard" "dust" "I", Cond.fieldLink RX4 81 "SiloPads$Yard" "brought" "I", Cond.fieldLink RX4 84 "SiloPads$Yard" "gone" "I", Cond.fieldLink RX4 137 "SiloPads$Yard" "shakes" "I", Cond.fieldLink RX4 228 "SiloPads$Yard" "formed" "I", Cond.fieldLink RX4 117 "SiloPads$Yard" "settings" "[I", Cond.fieldLink RX4 20 "SiloPads" "savedStates" "I", Cond.methodLink RX4 216 yX3_siloTonnes, Cond.instanceMethod yX3_siloTonnes, Cond.selects RX3 yX3_siloTonnes yX3_siloTonnes, Cond.initialized RX3, Cond.code yX3_siloTonnes cX3_siloTonnes 3 (some .int), Cond.fieldLink RX3 11 "SiloPads$Yard" "silos" "[LSiloPads$Silo;"]
def wsL_told_r2 : List Cond := [Cond.methodLink RX3 63 yX1_total, Cond.instanceMethod yX1_total, Cond.selects RX1 yX1_total yX1_total, Cond.initialized RX1, Cond.code yX1_total cX1_total 1 (some .int), Cond.methodLink RX1 31 yX1_totalFrom, Cond.instanceMethod yX1_totalFrom, Cond.selects RX1 yX1_totalFrom yX1_totalFrom, Cond.code yX1_totalFrom cX1_totalFrom 4 (some .int), Cond.fieldLink RX1 18 "SiloPads$Silo" "layers" "I", Cond.fieldLink RX1 9 "SiloPads$Silo" "tonnes" "[I", Cond.methodLink RX4 219 yX3_shipTonnes, Cond.instanceMethod yX3_shipTonnes, Cond.selects RX3 yX3_shipTonnes yX3_shipTonnes, Cond.code yX3_shipTonnes cX3_shipTonnes 3 (some .int), Cond.fieldLink RX3 19 "SiloPads$Yard" "ships" "[LSiloPads$Ship;", Cond.fieldLink RX3 67 "SiloPads$Ship" "tonnes" "I", Cond.methodLink RX4 114 yX3_padsOn, Cond.instanceMethod yX3_padsOn, Cond.selects RX3 yX3_padsOn yX3_padsOn, Cond.code yX3_padsOn cX3_padsOn 3 (some .int), Cond.fieldLink RX3 70 "SiloPads$Silo" "padsOn" "I", Cond.methodLink RX4 225 yX3_arches, Cond.instanceMethod yX3_arches]
def wsL_told_r3 : List Cond := [Cond.selects RX3 yX3_arches yX3_arches, Cond.code yX3_arches cX3_arches 3 (some .int), Cond.fieldLink RX3 73 "SiloPads$Silo" "arch" "I", Cond.methodLink RL 18 yX4_silo, Cond.instanceMethod yX4_silo, Cond.selects RX4 yX4_silo yX4_silo, Cond.code yX4_silo cX4_silo 4 (some .int), Cond.classLink RX4 56 "java/lang/IndexOutOfBoundsException", Cond.initialized "java/lang/IndexOutOfBoundsException", Cond.fieldLink RX4 94 "SiloPads$Yard" "silos" "[LSiloPads$Silo;", Cond.fieldLink RX4 125 "SiloPads$Silo" "layers" "I", Cond.fieldLink RX4 111 "SiloPads$Silo" "padsOn" "I", Cond.fieldLink RX4 141 "SiloPads$Silo" "arch" "I", Cond.fieldLink RX4 134 "SiloPads$Silo" "shakes" "I", Cond.methodLink RX4 87 yX4_isNoSilo, Cond.static yX4_isNoSilo, Cond.code yX4_isNoSilo cX4_isNoSilo 1 (some .boolean), Cond.methodLink RX4 190 yX1_total, Cond.methodLink RX4 193 yX4_outInHour, Cond.instanceMethod yX4_outInHour, Cond.selects RX4 yX4_outInHour yX4_outInHour, Cond.code yX4_outInHour cX4_outInHour 3 (some .int), Cond.fieldLink RX4 203 "SiloPads$Silo" "ages" "[I", Cond.methodLink RX4 206 yX4_hardnessAt]
def wsL_told_r4 : List Cond := [Cond.instanceMethod yX4_hardnessAt, Cond.selects RX4 yX4_hardnessAt yX4_hardnessAt, Cond.code yX4_hardnessAt cX4_hardnessAt 3 (some .int), Cond.methodLink RL 22 yX4_layer, Cond.instanceMethod yX4_layer, Cond.selects RX4 yX4_layer yX4_layer, Cond.code yX4_layer cX4_layer 5 (some .int), Cond.fieldLink RX4 201 "SiloPads$Silo" "tonnes" "[I", Cond.methodLink RL 26 yX4_shipOf, Cond.instanceMethod yX4_shipOf, Cond.selects RX4 yX4_shipOf yX4_shipOf, Cond.code yX4_shipOf cX4_shipOf 3 (some .int), Cond.fieldLink RX4 71 "SiloPads$Yard" "ships" "[LSiloPads$Ship;", Cond.fieldLink RX4 75 "SiloPads$Ship" "tonnes" "I", Cond.fieldLink RX4 78 "SiloPads$Ship" "hold" "I", Cond.methodLink RX4 52 yX4_isNoShip, Cond.static yX4_isNoShip, Cond.code yX4_isNoShip cX4_isNoShip 1 (some .boolean)]
def wsL_told : List Cond := .code yL_told cL_told 5 (some .long) :: ((wsL_told_r1 ++ (wsL_told_r2 ++ (wsL_told_r3 ++ wsL_told_r4))) ++ wsX40 ++ wsX30 ++ wsX10 ++ wsX00 ++ (vx_atS RX4 67 "java/lang/IllegalArgumentException" ["java/lang/RuntimeException", "java/lang/Exception"]).filter goodWord ++ (vx_atS RX4 60 "java/lang/IndexOutOfBoundsException" ["java/lang/RuntimeException", "java/lang/Exception"]).filter goodWord)
def wsL_act_r1 : List Cond := [Cond.methodLink RL 29 yL_low, Cond.static yL_low, Cond.initialized RL, Cond.code yL_low cL_low 2 (some .int), Cond.constant RL 7 (2147483647), Cond.methodLink RL 34 yX4_ship, Cond.instanceMethod yX4_ship, Cond.selects RX4 yX4_ship yX4_ship, Cond.initialized RX4, Cond.code yX4_ship cX4_ship 6 (some .int), Cond.classLink RX4 56 "java/lang/IndexOutOfBoundsException", Cond.initialized "java/lang/IndexOutOfBoundsException", Cond.classLink RX4 63 "java/lang/IllegalArgumentException", Cond.initialized "java/lang/IllegalArgumentException", Cond.fieldLink RX4 10 "SiloPads" "now" "LSiloPads$Yard;", Cond.fieldLink RX4 71 "SiloPads$Yard" "ships" "[LSiloPads$Ship;", Cond.fieldLink RX4 75 "SiloPads$Ship" "tonnes" "I", Cond.fieldLink RX4 78 "SiloPads$Ship" "hold" "I", Cond.fieldLink RX4 81 "SiloPads$Yard" "brought" "I", Cond.fieldLink RX4 84 "SiloPads$Yard" "gone" "I", Cond.methodLink RX4 52 yX4_isNoShip, Cond.static yX4_isNoShip, Cond.code yX4_isNoShip cX4_isNoShip 1 (some .boolean), Cond.methodLink RX4 68 yX4_saveState]
def wsL_act_r2 : List Cond := [Cond.instanceMethod yX4_saveState, Cond.selects RX4 yX4_saveState yX4_saveState, Cond.code yX4_saveState cX4_saveState 3 none, Cond.fieldLink RX4 20 "SiloPads" "savedStates" "I", Cond.fieldLink RX4 16 "SiloPads" "saved" "[LSiloPads$Yard;", Cond.methodLink RX4 186 yX3_becomeLike, Cond.instanceMethod yX3_becomeLike, Cond.selects RX3 yX3_becomeLike yX3_becomeLike, Cond.initialized RX3, Cond.code yX3_becomeLike cX3_becomeLike 3 none, Cond.fieldLink RX3 11 "SiloPads$Yard" "silos" "[LSiloPads$Silo;", Cond.fieldLink RX3 19 "SiloPads$Yard" "ships" "[LSiloPads$Ship;", Cond.fieldLink RX3 32 "SiloPads$Yard" "settings" "[I", Cond.fieldLink RX3 35 "SiloPads$Yard" "days" "I", Cond.fieldLink RX3 39 "SiloPads$Yard" "dust" "I", Cond.fieldLink RX3 42 "SiloPads$Yard" "brought" "I", Cond.fieldLink RX3 45 "SiloPads$Yard" "gone" "I", Cond.fieldLink RX3 48 "SiloPads$Yard" "shakes" "I", Cond.fieldLink RX3 51 "SiloPads$Yard" "formed" "I", Cond.methodLink RX3 56 yX1_becomeLike, Cond.instanceMethod yX1_becomeLike, Cond.selects RX1 yX1_becomeLike yX1_becomeLike, Cond.initialized RX1, Cond.code yX1_becomeLike cX1_becomeLike 3 none]
def wsL_act_r3 : List Cond := [Cond.fieldLink RX1 9 "SiloPads$Silo" "tonnes" "[I", Cond.fieldLink RX1 15 "SiloPads$Silo" "ages" "[I", Cond.fieldLink RX1 18 "SiloPads$Silo" "layers" "I", Cond.fieldLink RX1 22 "SiloPads$Silo" "padsOn" "I", Cond.fieldLink RX1 25 "SiloPads$Silo" "arch" "I", Cond.fieldLink RX1 28 "SiloPads$Silo" "shakes" "I", Cond.methodLink RX3 60 yX0_becomeLike, Cond.instanceMethod yX0_becomeLike, Cond.selects RX0 yX0_becomeLike yX0_becomeLike, Cond.initialized RX0, Cond.code yX0_becomeLike cX0_becomeLike 2 none, Cond.fieldLink RX0 9 "SiloPads$Ship" "tonnes" "I", Cond.fieldLink RX0 15 "SiloPads$Ship" "hold" "I", Cond.methodLink RL 37 yX4_unload, Cond.instanceMethod yX4_unload, Cond.selects RX4 yX4_unload yX4_unload, Cond.code yX4_unload cX4_unload 4 (some .int), Cond.fieldLink RX4 94 "SiloPads$Yard" "silos" "[LSiloPads$Silo;", Cond.methodLink RX4 87 yX4_isNoSilo, Cond.static yX4_isNoSilo, Cond.code yX4_isNoSilo cX4_isNoSilo 1 (some .boolean), Cond.methodLink RX4 98 yX4_bringIn, Cond.instanceMethod yX4_bringIn, Cond.selects RX4 yX4_bringIn yX4_bringIn]
def wsL_act_r4 : List Cond := [Cond.code yX4_bringIn cX4_bringIn 5 (some .int), Cond.methodLink RX4 257 Lib.Math.min.name, Cond.static Lib.Math.min.name, Cond.initialized "java/lang/Math", Cond.code Lib.Math.min.name Lib.Math.min.code 2 (some .int), Cond.methodLink RX4 294 yX1_place, Cond.instanceMethod yX1_place, Cond.selects RX1 yX1_place yX1_place, Cond.code yX1_place cX1_place 2 (some .int), Cond.methodLink RX1 42 Lib.Math.min.name, Cond.methodLink RX1 35 yX1_total, Cond.instanceMethod yX1_total, Cond.selects RX1 yX1_total yX1_total, Cond.code yX1_total cX1_total 1 (some .int), Cond.methodLink RX1 31 yX1_totalFrom, Cond.instanceMethod yX1_totalFrom, Cond.selects RX1 yX1_totalFrom yX1_totalFrom, Cond.code yX1_totalFrom cX1_totalFrom 4 (some .int), Cond.methodLink RX1 39 yX1_placeOnTop, Cond.instanceMethod yX1_placeOnTop, Cond.selects RX1 yX1_placeOnTop yX1_placeOnTop, Cond.code yX1_placeOnTop cX1_placeOnTop 1 (some .int), Cond.methodLink RX4 297 yX1_fill, Cond.instanceMethod yX1_fill]
def wsL_act_r5 : List Cond := [Cond.selects RX1 yX1_fill yX1_fill, Cond.code yX1_fill cX1_fill 4 none, Cond.methodLink RL 40 yX4_flow, Cond.instanceMethod yX4_flow, Cond.selects RX4 yX4_flow yX4_flow, Cond.code yX4_flow cX4_flow 4 (some .int), Cond.methodLink RX4 104 yX4_letOut, Cond.instanceMethod yX4_letOut, Cond.selects RX4 yX4_letOut yX4_letOut, Cond.code yX4_letOut cX4_letOut 6 (some .int), Cond.fieldLink RX4 222 "SiloPads$Yard" "dust" "I", Cond.methodLink RX4 190 yX1_total, Cond.methodLink RX4 244 yX4_pour, Cond.instanceMethod yX4_pour, Cond.selects RX4 yX4_pour yX4_pour, Cond.code yX4_pour cX4_pour 6 (some .int), Cond.methodLink RX4 301 yX4_pourForHour, Cond.instanceMethod yX4_pourForHour, Cond.selects RX4 yX4_pourForHour yX4_pourForHour, Cond.code yX4_pourForHour cX4_pourForHour 5 (some .int), Cond.fieldLink RX4 125 "SiloPads$Silo" "layers" "I", Cond.fieldLink RX4 141 "SiloPads$Silo" "arch" "I", Cond.fieldLink RX4 111 "SiloPads$Silo" "padsOn" "I", Cond.fieldLink RX4 201 "SiloPads$Silo" "tonnes" "[I"]
def wsL_act_r6 : List Cond := [Cond.methodLink RX4 193 yX4_outInHour, Cond.instanceMethod yX4_outInHour, Cond.selects RX4 yX4_outInHour yX4_outInHour, Cond.code yX4_outInHour cX4_outInHour 3 (some .int), Cond.fieldLink RX4 203 "SiloPads$Silo" "ages" "[I", Cond.methodLink RX4 206 yX4_hardnessAt, Cond.instanceMethod yX4_hardnessAt, Cond.selects RX4 yX4_hardnessAt yX4_hardnessAt, Cond.code yX4_hardnessAt cX4_hardnessAt 3 (some .int), Cond.fieldLink RX4 117 "SiloPads$Yard" "settings" "[I", Cond.methodLink RX4 233 yX0_room, Cond.instanceMethod yX0_room, Cond.selects RX0 yX0_room yX0_room, Cond.code yX0_room cX0_room 1 (some .int), Cond.methodLink RX4 305 yX4_dustOf, Cond.instanceMethod yX4_dustOf, Cond.selects RX4 yX4_dustOf yX4_dustOf, Cond.code yX4_dustOf cX4_dustOf 3 (some .int), Cond.methodLink RX4 308 yX1_takeFromLowest, Cond.instanceMethod yX1_takeFromLowest, Cond.selects RX1 yX1_takeFromLowest yX1_takeFromLowest, Cond.code yX1_takeFromLowest cX1_takeFromLowest 3 none, Cond.methodLink RL 12 yX4_count, Cond.instanceMethod yX4_count]
def wsL_act_r7 : List Cond := [Cond.selects RX4 yX4_count yX4_count, Cond.code yX4_count cX4_count 2 (some .int), Cond.fieldLink RX4 213 "SiloPads$Yard" "days" "I", Cond.fieldLink RX4 137 "SiloPads$Yard" "shakes" "I", Cond.fieldLink RX4 228 "SiloPads$Yard" "formed" "I", Cond.methodLink RX4 216 yX3_siloTonnes, Cond.instanceMethod yX3_siloTonnes, Cond.selects RX3 yX3_siloTonnes yX3_siloTonnes, Cond.code yX3_siloTonnes cX3_siloTonnes 3 (some .int), Cond.methodLink RX3 63 yX1_total, Cond.methodLink RX4 219 yX3_shipTonnes, Cond.instanceMethod yX3_shipTonnes, Cond.selects RX3 yX3_shipTonnes yX3_shipTonnes, Cond.code yX3_shipTonnes cX3_shipTonnes 3 (some .int), Cond.fieldLink RX3 67 "SiloPads$Ship" "tonnes" "I", Cond.methodLink RX4 114 yX3_padsOn, Cond.instanceMethod yX3_padsOn, Cond.selects RX3 yX3_padsOn yX3_padsOn, Cond.code yX3_padsOn cX3_padsOn 3 (some .int), Cond.fieldLink RX3 70 "SiloPads$Silo" "padsOn" "I", Cond.methodLink RX4 225 yX3_arches, Cond.instanceMethod yX3_arches, Cond.selects RX3 yX3_arches yX3_arches, Cond.code yX3_arches cX3_arches 3 (some .int)]
def wsL_act_r8 : List Cond := [Cond.fieldLink RX3 73 "SiloPads$Silo" "arch" "I", Cond.methodLink RL 18 yX4_silo, Cond.instanceMethod yX4_silo, Cond.selects RX4 yX4_silo yX4_silo, Cond.code yX4_silo cX4_silo 4 (some .int), Cond.fieldLink RX4 134 "SiloPads$Silo" "shakes" "I", Cond.methodLink RL 43 yX4_pads, Cond.instanceMethod yX4_pads, Cond.selects RX4 yX4_pads yX4_pads, Cond.code yX4_pads cX4_pads 4 (some .int), Cond.classLink RX4 120 "java/lang/IllegalStateException", Cond.initialized "java/lang/IllegalStateException", Cond.methodLink RL 46 yX4_shake, Cond.instanceMethod yX4_shake, Cond.selects RX4 yX4_shake yX4_shake, Cond.code yX4_shake cX4_shake 4 (some .int), Cond.methodLink RX4 130 yX4_shakesToBreak, Cond.instanceMethod yX4_shakesToBreak, Cond.selects RX4 yX4_shakesToBreak yX4_shakesToBreak, Cond.code yX4_shakesToBreak cX4_shakesToBreak 2 (some .int), Cond.methodLink RX4 317 Lib.Math.max.name, Cond.static Lib.Math.max.name, Cond.code Lib.Math.max.name Lib.Math.max.code 2 (some .int), Cond.methodLink RX4 320 yX1_tonnesHeld]
def wsL_act_r9 : List Cond := [Cond.instanceMethod yX1_tonnesHeld, Cond.selects RX1 yX1_tonnesHeld yX1_tonnesHeld, Cond.code yX1_tonnesHeld cX1_tonnesHeld 1 (some .int), Cond.methodLink RX4 138 yX1_makeLowestYounger, Cond.instanceMethod yX1_makeLowestYounger, Cond.selects RX1 yX1_makeLowestYounger yX1_makeLowestYounger, Cond.code yX1_makeLowestYounger cX1_makeLowestYounger 1 none, Cond.methodLink RX1 48 Lib.Math.max.name, Cond.methodLink RL 49 yX4_set, Cond.instanceMethod yX4_set, Cond.selects RX4 yX4_set yX4_set, Cond.code yX4_set cX4_set 4 (some .int), Cond.fieldLink RX4 152 "SiloPads" "SETTING_LEAST" "[I", Cond.fieldLink RX4 155 "SiloPads" "SETTING_MOST" "[I", Cond.methodLink RL 52 yX4_pass, Cond.instanceMethod yX4_pass, Cond.selects RX4 yX4_pass yX4_pass, Cond.code yX4_pass cX4_pass 2 (some .int), Cond.methodLink RX4 146 yX4_passDays, Cond.instanceMethod yX4_passDays, Cond.selects RX4 yX4_passDays yX4_passDays, Cond.code yX4_passDays cX4_passDays 5 (some .int), Cond.methodLink RX4 311 yX4_passDayIn, Cond.instanceMethod yX4_passDayIn]
def wsL_act_r10 : List Cond := [Cond.selects RX4 yX4_passDayIn yX4_passDayIn, Cond.code yX4_passDayIn cX4_passDayIn 2 (some .int), Cond.methodLink RX4 314 yX1_makeOlder, Cond.instanceMethod yX1_makeOlder, Cond.selects RX1 yX1_makeOlder yX1_makeOlder, Cond.code yX1_makeOlder cX1_makeOlder 2 none, Cond.methodLink RX4 251 yX1_canGetArch, Cond.instanceMethod yX1_canGetArch, Cond.selects RX1 yX1_canGetArch yX1_canGetArch, Cond.code yX1_canGetArch cX1_canGetArch 1 (some .boolean)]
def wsL_act : List Cond := .code yL_act cL_act 7 (some .int) :: ((wsL_act_r1 ++ (wsL_act_r2 ++ (wsL_act_r3 ++ (wsL_act_r4 ++ (wsL_act_r5 ++ (wsL_act_r6 ++ (wsL_act_r7 ++ (wsL_act_r8 ++ (wsL_act_r9 ++ wsL_act_r10))))))))) ++ wsX40 ++ wsX30 ++ wsX00 ++ wsX10 ++ (vx_atS RX4 60 "java/lang/IndexOutOfBoundsException" ["java/lang/RuntimeException", "java/lang/Exception"]).filter goodWord ++ (vx_atS RX4 67 "java/lang/IllegalArgumentException" ["java/lang/RuntimeException", "java/lang/Exception"]).filter goodWord ++ (vx_atS RX4 124 "java/lang/IllegalStateException" ["java/lang/RuntimeException", "java/lang/Exception"]).filter goodWord)
def wsL_holds_r1 : List Cond := [Cond.methodLink RL 18 yX4_silo, Cond.instanceMethod yX4_silo, Cond.selects RX4 yX4_silo yX4_silo, Cond.initialized RX4, Cond.code yX4_silo cX4_silo 4 (some .int), Cond.classLink RX4 56 "java/lang/IndexOutOfBoundsException", Cond.initialized "java/lang/IndexOutOfBoundsException", Cond.classLink RX4 63 "java/lang/IllegalArgumentException", Cond.initialized "java/lang/IllegalArgumentException", Cond.fieldLink RX4 10 "SiloPads" "now" "LSiloPads$Yard;", Cond.fieldLink RX4 94 "SiloPads$Yard" "silos" "[LSiloPads$Silo;", Cond.fieldLink RX4 125 "SiloPads$Silo" "layers" "I", Cond.fieldLink RX4 111 "SiloPads$Silo" "padsOn" "I", Cond.fieldLink RX4 141 "SiloPads$Silo" "arch" "I", Cond.fieldLink RX4 134 "SiloPads$Silo" "shakes" "I", Cond.methodLink RX4 87 yX4_isNoSilo, Cond.static yX4_isNoSilo, Cond.code yX4_isNoSilo cX4_isNoSilo 1 (some .boolean), Cond.methodLink RX4 190 yX1_total, Cond.instanceMethod yX1_total, Cond.selects RX1 yX1_total yX1_total, Cond.initialized RX1, Cond.code yX1_total cX1_total 1 (some .int), Cond.methodLink RX1 31 yX1_totalFrom]
def wsL_holds_r2 : List Cond := [Cond.instanceMethod yX1_totalFrom, Cond.selects RX1 yX1_totalFrom yX1_totalFrom, Cond.code yX1_totalFrom cX1_totalFrom 4 (some .int), Cond.fieldLink RX1 18 "SiloPads$Silo" "layers" "I", Cond.fieldLink RX1 9 "SiloPads$Silo" "tonnes" "[I", Cond.methodLink RX4 193 yX4_outInHour, Cond.instanceMethod yX4_outInHour, Cond.selects RX4 yX4_outInHour yX4_outInHour, Cond.code yX4_outInHour cX4_outInHour 3 (some .int), Cond.fieldLink RX4 203 "SiloPads$Silo" "ages" "[I", Cond.methodLink RX4 206 yX4_hardnessAt, Cond.instanceMethod yX4_hardnessAt, Cond.selects RX4 yX4_hardnessAt yX4_hardnessAt, Cond.code yX4_hardnessAt cX4_hardnessAt 3 (some .int), Cond.fieldLink RX4 117 "SiloPads$Yard" "settings" "[I", Cond.methodLink RL 22 yX4_layer, Cond.instanceMethod yX4_layer, Cond.selects RX4 yX4_layer yX4_layer, Cond.code yX4_layer cX4_layer 5 (some .int), Cond.fieldLink RX4 201 "SiloPads$Silo" "tonnes" "[I", Cond.methodLink RL 12 yX4_count, Cond.instanceMethod yX4_count, Cond.selects RX4 yX4_count yX4_count, Cond.code yX4_count cX4_count 2 (some .int)]
def wsL_holds_r3 : List Cond := [Cond.fieldLink RX4 213 "SiloPads$Yard" "days" "I", Cond.fieldLink RX4 222 "SiloPads$Yard" "dust" "I", Cond.fieldLink RX4 81 "SiloPads$Yard" "brought" "I", Cond.fieldLink RX4 84 "SiloPads$Yard" "gone" "I", Cond.fieldLink RX4 137 "SiloPads$Yard" "shakes" "I", Cond.fieldLink RX4 228 "SiloPads$Yard" "formed" "I", Cond.fieldLink RX4 20 "SiloPads" "savedStates" "I", Cond.methodLink RX4 216 yX3_siloTonnes, Cond.instanceMethod yX3_siloTonnes, Cond.selects RX3 yX3_siloTonnes yX3_siloTonnes, Cond.initialized RX3, Cond.code yX3_siloTonnes cX3_siloTonnes 3 (some .int), Cond.fieldLink RX3 11 "SiloPads$Yard" "silos" "[LSiloPads$Silo;", Cond.methodLink RX3 63 yX1_total, Cond.methodLink RX4 219 yX3_shipTonnes, Cond.instanceMethod yX3_shipTonnes, Cond.selects RX3 yX3_shipTonnes yX3_shipTonnes, Cond.code yX3_shipTonnes cX3_shipTonnes 3 (some .int), Cond.fieldLink RX3 19 "SiloPads$Yard" "ships" "[LSiloPads$Ship;", Cond.fieldLink RX3 67 "SiloPads$Ship" "tonnes" "I", Cond.methodLink RX4 114 yX3_padsOn, Cond.instanceMethod yX3_padsOn, Cond.selects RX3 yX3_padsOn yX3_padsOn, Cond.code yX3_padsOn cX3_padsOn 3 (some .int)]
def wsL_holds_r4 : List Cond := [Cond.fieldLink RX3 70 "SiloPads$Silo" "padsOn" "I", Cond.methodLink RX4 225 yX3_arches, Cond.instanceMethod yX3_arches, Cond.selects RX3 yX3_arches yX3_arches, Cond.code yX3_arches cX3_arches 3 (some .int), Cond.fieldLink RX3 73 "SiloPads$Silo" "arch" "I", Cond.methodLink RL 55 yX4_shakesNeeded, Cond.instanceMethod yX4_shakesNeeded, Cond.selects RX4 yX4_shakesNeeded yX4_shakesNeeded, Cond.code yX4_shakesNeeded cX4_shakesNeeded 2 (some .int), Cond.methodLink RX4 130 yX4_shakesToBreak, Cond.instanceMethod yX4_shakesToBreak, Cond.selects RX4 yX4_shakesToBreak yX4_shakesToBreak, Cond.code yX4_shakesToBreak cX4_shakesToBreak 2 (some .int), Cond.methodLink RX4 317 Lib.Math.max.name, Cond.static Lib.Math.max.name, Cond.initialized "java/lang/Math", Cond.code Lib.Math.max.name Lib.Math.max.code 2 (some .int), Cond.methodLink RX4 320 yX1_tonnesHeld, Cond.instanceMethod yX1_tonnesHeld, Cond.selects RX1 yX1_tonnesHeld yX1_tonnesHeld, Cond.code yX1_tonnesHeld cX1_tonnesHeld 1 (some .int), Cond.fieldLink RX1 25 "SiloPads$Silo" "arch" "I", Cond.methodLink RL 58 yX4_whyNot]
def wsL_holds_r5 : List Cond := [Cond.instanceMethod yX4_whyNot, Cond.selects RX4 yX4_whyNot yX4_whyNot, Cond.code yX4_whyNot cX4_whyNot 4 (some .int), Cond.fieldLink RX4 71 "SiloPads$Yard" "ships" "[LSiloPads$Ship;", Cond.methodLink RX4 52 yX4_isNoShip, Cond.static yX4_isNoShip, Cond.code yX4_isNoShip cX4_isNoShip 1 (some .boolean), Cond.methodLink RX4 233 yX0_room, Cond.instanceMethod yX0_room, Cond.selects RX0 yX0_room yX0_room, Cond.initialized RX0, Cond.code yX0_room cX0_room 1 (some .int), Cond.fieldLink RX0 15 "SiloPads$Ship" "hold" "I", Cond.fieldLink RX0 9 "SiloPads$Ship" "tonnes" "I", Cond.methodLink RL 26 yX4_shipOf, Cond.instanceMethod yX4_shipOf, Cond.selects RX4 yX4_shipOf yX4_shipOf, Cond.code yX4_shipOf cX4_shipOf 3 (some .int), Cond.fieldLink RX4 75 "SiloPads$Ship" "tonnes" "I", Cond.fieldLink RX4 78 "SiloPads$Ship" "hold" "I", Cond.methodLink RL 61 yX4_urgent, Cond.instanceMethod yX4_urgent, Cond.selects RX4 yX4_urgent yX4_urgent, Cond.code yX4_urgent cX4_urgent 3 (some .int)]
def wsL_holds_r6 : List Cond := [Cond.methodLink RX4 247 yX4_isMoreUrgent, Cond.static yX4_isMoreUrgent, Cond.code yX4_isMoreUrgent cX4_isMoreUrgent 2 (some .boolean), Cond.methodLink RL 65 yX4_softness, Cond.instanceMethod yX4_softness, Cond.selects RX4 yX4_softness yX4_softness, Cond.code yX4_softness cX4_softness 4 (some .double), Cond.methodLink RX4 263 yX4_softTonnes, Cond.instanceMethod yX4_softTonnes, Cond.selects RX4 yX4_softTonnes yX4_softTonnes, Cond.code yX4_softTonnes cX4_softTonnes 4 (some .int)]
def wsL_holds : List Cond := .code yL_holds cL_holds 11 (some .boolean) :: ((wsL_holds_r1 ++ (wsL_holds_r2 ++ (wsL_holds_r3 ++ (wsL_holds_r4 ++ (wsL_holds_r5 ++ wsL_holds_r6))))) ++ wsX40 ++ wsX30 ++ wsX10 ++ wsX00 ++ (vx_atS RX4 60 "java/lang/IndexOutOfBoundsException" ["java/lang/RuntimeException", "java/lang/Exception"]).filter goodWord ++ (vx_atS RX4 67 "java/lang/IllegalArgumentException" ["java/lang/RuntimeException", "java/lang/Exception"]).filter goodWord)
def wsL_law0_r1 : List Cond := [Cond.classLink RL 13 RX4, Cond.instantiable RX4 8, Cond.initialized RX4, Cond.methodLink RL 69 yX4_init, Cond.instanceMethod yX4_init, Cond.code yX4_init cX4_init 2 none, Cond.methodLink RX4 1 objectInit, Cond.instanceMethod objectInit, Cond.code objectInit ⟨#[0xb1]⟩ 1 none, Cond.classLink RX4 7 RX3, Cond.instantiable RX3 9, Cond.initialized RX3, Cond.fieldLink RX4 10 "SiloPads" "now" "LSiloPads$Yard;", Cond.fieldLink RX4 16 "SiloPads" "saved" "[LSiloPads$Yard;", Cond.fieldLink RX4 20 "SiloPads" "savedStates" "I", Cond.arrayClass .int, Cond.fieldLink RX4 24 "SiloPads" "codes" "[I", Cond.fieldLink RX4 28 "SiloPads" "length" "I", Cond.classLink RX4 31 RX2, Cond.instantiable RX2 5, Cond.initialized RX2, Cond.fieldLink RX4 34 "SiloPads" "reader" "LSiloPads$TextReader;", Cond.classLink RX4 38 RX1, Cond.instantiable RX1 6]
def wsL_law0_r2 : List Cond := [Cond.initialized RX1, Cond.fieldLink RX4 41 "SiloPads" "trialSilo" "LSiloPads$Silo;", Cond.classLink RX4 45 RX0, Cond.instantiable RX0 2, Cond.initialized RX0, Cond.fieldLink RX4 48 "SiloPads" "trialShip" "LSiloPads$Ship;", Cond.methodLink RX4 9 yX3_init, Cond.instanceMethod yX3_init, Cond.code yX3_init cX3_init 2 none, Cond.methodLink RX3 3 objectInit, Cond.classLink RX3 9 RX1, Cond.fieldLink RX3 11 "SiloPads$Yard" "silos" "[LSiloPads$Silo;", Cond.classLink RX3 17 RX0, Cond.fieldLink RX3 19 "SiloPads$Yard" "ships" "[LSiloPads$Ship;", Cond.methodLink RX3 27 ⟨"[I", "clone", "()Ljava/lang/Object;"⟩, Cond.sameMethod "[I" "java/lang/Object" "clone" "()Ljava/lang/Object;", Cond.native ⟨"java/lang/Object", "clone", "()Ljava/lang/Object;"⟩, Cond.instanceMethod ⟨"java/lang/Object", "clone", "()Ljava/lang/Object;"⟩, Cond.selects "[I" ⟨"[I", "clone", "()Ljava/lang/Object;"⟩ ⟨"java/lang/Object", "clone", "()Ljava/lang/Object;"⟩, Cond.classLink RX3 28 "[I", Cond.fieldLink RX3 32 "SiloPads$Yard" "settings" "[I", Cond.fieldLink RX3 35 "SiloPads$Yard" "days" "I", Cond.fieldLink RX3 39 "SiloPads$Yard" "dust" "I", Cond.fieldLink RX3 42 "SiloPads$Yard" "brought" "I"]
def wsL_law0_r3 : List Cond := [Cond.fieldLink RX3 45 "SiloPads$Yard" "gone" "I", Cond.fieldLink RX3 48 "SiloPads$Yard" "shakes" "I", Cond.fieldLink RX3 51 "SiloPads$Yard" "formed" "I", Cond.instanceMethod yX1_init, Cond.code yX1_init cX1_init 1 none, Cond.methodLink RX1 3 objectInit, Cond.fieldLink RX1 9 "SiloPads$Silo" "tonnes" "[I", Cond.fieldLink RX1 15 "SiloPads$Silo" "ages" "[I", Cond.fieldLink RX1 18 "SiloPads$Silo" "layers" "I", Cond.fieldLink RX1 22 "SiloPads$Silo" "padsOn" "I", Cond.fieldLink RX1 25 "SiloPads$Silo" "arch" "I", Cond.fieldLink RX1 28 "SiloPads$Silo" "shakes" "I", Cond.instanceMethod yX0_init, Cond.code yX0_init cX0_init 1 none, Cond.methodLink RX0 3 objectInit, Cond.fieldLink RX0 9 "SiloPads$Ship" "tonnes" "I", Cond.fieldLink RX0 15 "SiloPads$Ship" "hold" "I", Cond.instanceMethod yX2_init, Cond.code yX2_init cX2_init 1 none, Cond.methodLink RX2 3 objectInit, Cond.fieldLink RX2 11 "SiloPads$TextReader" "place" "I", Cond.fieldLink RX2 15 "SiloPads$TextReader" "silo" "I", Cond.fieldLink RX2 18 "SiloPads$TextReader" "ship" "I", Cond.fieldLink RX2 21 "SiloPads$TextReader" "kind" "I"]
def wsL_law0_r4 : List Cond := [Cond.fieldLink RX2 24 "SiloPads$TextReader" "number" "I", Cond.methodLink RL 70 yL_cell, Cond.static yL_cell, Cond.initialized RL, Cond.code yL_cell cL_cell 2 (some .int), Cond.methodLink RL 12 yX4_count, Cond.instanceMethod yX4_count, Cond.selects RX4 yX4_count yX4_count, Cond.code yX4_count cX4_count 2 (some .int), Cond.classLink RX4 63 "java/lang/IllegalArgumentException", Cond.initialized "java/lang/IllegalArgumentException", Cond.fieldLink RX4 213 "SiloPads$Yard" "days" "I", Cond.fieldLink RX4 222 "SiloPads$Yard" "dust" "I", Cond.fieldLink RX4 81 "SiloPads$Yard" "brought" "I", Cond.fieldLink RX4 84 "SiloPads$Yard" "gone" "I", Cond.fieldLink RX4 137 "SiloPads$Yard" "shakes" "I", Cond.fieldLink RX4 228 "SiloPads$Yard" "formed" "I", Cond.fieldLink RX4 117 "SiloPads$Yard" "settings" "[I", Cond.methodLink RX4 216 yX3_siloTonnes, Cond.instanceMethod yX3_siloTonnes, Cond.selects RX3 yX3_siloTonnes yX3_siloTonnes, Cond.code yX3_siloTonnes cX3_siloTonnes 3 (some .int), Cond.methodLink RX3 63 yX1_total, Cond.instanceMethod yX1_total]
def wsL_law0_r5 : List Cond := [Cond.selects RX1 yX1_total yX1_total, Cond.code yX1_total cX1_total 1 (some .int), Cond.methodLink RX1 31 yX1_totalFrom, Cond.instanceMethod yX1_totalFrom, Cond.selects RX1 yX1_totalFrom yX1_totalFrom, Cond.code yX1_totalFrom cX1_totalFrom 4 (some .int), Cond.methodLink RX4 219 yX3_shipTonnes, Cond.instanceMethod yX3_shipTonnes, Cond.selects RX3 yX3_shipTonnes yX3_shipTonnes, Cond.code yX3_shipTonnes cX3_shipTonnes 3 (some .int), Cond.fieldLink RX3 67 "SiloPads$Ship" "tonnes" "I", Cond.methodLink RX4 114 yX3_padsOn, Cond.instanceMethod yX3_padsOn, Cond.selects RX3 yX3_padsOn yX3_padsOn, Cond.code yX3_padsOn cX3_padsOn 3 (some .int), Cond.fieldLink RX3 70 "SiloPads$Silo" "padsOn" "I", Cond.methodLink RX4 225 yX3_arches, Cond.instanceMethod yX3_arches, Cond.selects RX3 yX3_arches yX3_arches, Cond.code yX3_arches cX3_arches 3 (some .int), Cond.fieldLink RX3 73 "SiloPads$Silo" "arch" "I", Cond.methodLink RL 74 yX4_undo, Cond.instanceMethod yX4_undo, Cond.selects RX4 yX4_undo yX4_undo]
def wsL_law0_r6 : List Cond := [Cond.code yX4_undo cX4_undo 1 (some .int), Cond.classLink RX4 120 "java/lang/IllegalStateException", Cond.initialized "java/lang/IllegalStateException", Cond.methodLink RX4 186 yX3_becomeLike, Cond.instanceMethod yX3_becomeLike, Cond.selects RX3 yX3_becomeLike yX3_becomeLike, Cond.code yX3_becomeLike cX3_becomeLike 3 none, Cond.methodLink RX3 56 yX1_becomeLike, Cond.instanceMethod yX1_becomeLike, Cond.selects RX1 yX1_becomeLike yX1_becomeLike, Cond.code yX1_becomeLike cX1_becomeLike 3 none, Cond.methodLink RX3 60 yX0_becomeLike, Cond.instanceMethod yX0_becomeLike, Cond.selects RX0 yX0_becomeLike yX0_becomeLike, Cond.code yX0_becomeLike cX0_becomeLike 2 none, Cond.methodLink RL 77 yL_told, Cond.static yL_told, Cond.code yL_told cL_told 5 (some .long), Cond.constantLong RL 8 (3), Cond.constantLong RL 10 (31), Cond.methodLink RL 18 yX4_silo, Cond.instanceMethod yX4_silo, Cond.selects RX4 yX4_silo yX4_silo, Cond.code yX4_silo cX4_silo 4 (some .int)]
def wsL_law0_r7 : List Cond := [Cond.classLink RX4 56 "java/lang/IndexOutOfBoundsException", Cond.initialized "java/lang/IndexOutOfBoundsException", Cond.fieldLink RX4 94 "SiloPads$Yard" "silos" "[LSiloPads$Silo;", Cond.fieldLink RX4 125 "SiloPads$Silo" "layers" "I", Cond.fieldLink RX4 111 "SiloPads$Silo" "padsOn" "I", Cond.fieldLink RX4 141 "SiloPads$Silo" "arch" "I", Cond.fieldLink RX4 134 "SiloPads$Silo" "shakes" "I", Cond.methodLink RX4 87 yX4_isNoSilo, Cond.static yX4_isNoSilo, Cond.code yX4_isNoSilo cX4_isNoSilo 1 (some .boolean), Cond.methodLink RX4 190 yX1_total, Cond.methodLink RX4 193 yX4_outInHour, Cond.instanceMethod yX4_outInHour, Cond.selects RX4 yX4_outInHour yX4_outInHour, Cond.code yX4_outInHour cX4_outInHour 3 (some .int), Cond.fieldLink RX4 203 "SiloPads$Silo" "ages" "[I", Cond.methodLink RX4 206 yX4_hardnessAt, Cond.instanceMethod yX4_hardnessAt, Cond.selects RX4 yX4_hardnessAt yX4_hardnessAt, Cond.code yX4_hardnessAt cX4_hardnessAt 3 (some .int), Cond.methodLink RL 22 yX4_layer, Cond.instanceMethod yX4_layer, Cond.selects RX4 yX4_layer yX4_layer, Cond.code yX4_layer cX4_layer 5 (some .int)]
def wsL_law0_r8 : List Cond := [Cond.fieldLink RX4 201 "SiloPads$Silo" "tonnes" "[I", Cond.methodLink RL 26 yX4_shipOf, Cond.instanceMethod yX4_shipOf, Cond.selects RX4 yX4_shipOf yX4_shipOf, Cond.code yX4_shipOf cX4_shipOf 3 (some .int), Cond.fieldLink RX4 71 "SiloPads$Yard" "ships" "[LSiloPads$Ship;", Cond.fieldLink RX4 75 "SiloPads$Ship" "tonnes" "I", Cond.fieldLink RX4 78 "SiloPads$Ship" "hold" "I", Cond.methodLink RX4 52 yX4_isNoShip, Cond.static yX4_isNoShip, Cond.code yX4_isNoShip cX4_isNoShip 1 (some .boolean), Cond.methodLink RL 81 yL_act, Cond.static yL_act, Cond.code yL_act cL_act 7 (some .int), Cond.methodLink RL 29 yL_low, Cond.static yL_low, Cond.code yL_low cL_low 2 (some .int), Cond.constant RL 7 (2147483647), Cond.methodLink RL 34 yX4_ship, Cond.instanceMethod yX4_ship, Cond.selects RX4 yX4_ship yX4_ship, Cond.code yX4_ship cX4_ship 6 (some .int), Cond.methodLink RX4 68 yX4_saveState, Cond.instanceMethod yX4_saveState]
def wsL_law0_r9 : List Cond := [Cond.selects RX4 yX4_saveState yX4_saveState, Cond.code yX4_saveState cX4_saveState 3 none, Cond.methodLink RL 37 yX4_unload, Cond.instanceMethod yX4_unload, Cond.selects RX4 yX4_unload yX4_unload, Cond.code yX4_unload cX4_unload 4 (some .int), Cond.methodLink RX4 98 yX4_bringIn, Cond.instanceMethod yX4_bringIn, Cond.selects RX4 yX4_bringIn yX4_bringIn, Cond.code yX4_bringIn cX4_bringIn 5 (some .int), Cond.methodLink RX4 257 Lib.Math.min.name, Cond.static Lib.Math.min.name, Cond.initialized "java/lang/Math", Cond.code Lib.Math.min.name Lib.Math.min.code 2 (some .int), Cond.methodLink RX4 294 yX1_place, Cond.instanceMethod yX1_place, Cond.selects RX1 yX1_place yX1_place, Cond.code yX1_place cX1_place 2 (some .int), Cond.methodLink RX1 42 Lib.Math.min.name, Cond.methodLink RX1 35 yX1_total, Cond.methodLink RX1 39 yX1_placeOnTop, Cond.instanceMethod yX1_placeOnTop, Cond.selects RX1 yX1_placeOnTop yX1_placeOnTop, Cond.code yX1_placeOnTop cX1_placeOnTop 1 (some .int)]
def wsL_law0_r10 : List Cond := [Cond.methodLink RX4 297 yX1_fill, Cond.instanceMethod yX1_fill, Cond.selects RX1 yX1_fill yX1_fill, Cond.code yX1_fill cX1_fill 4 none, Cond.methodLink RL 40 yX4_flow, Cond.instanceMethod yX4_flow, Cond.selects RX4 yX4_flow yX4_flow, Cond.code yX4_flow cX4_flow 4 (some .int), Cond.methodLink RX4 104 yX4_letOut, Cond.instanceMethod yX4_letOut, Cond.selects RX4 yX4_letOut yX4_letOut, Cond.code yX4_letOut cX4_letOut 6 (some .int), Cond.methodLink RX4 244 yX4_pour, Cond.instanceMethod yX4_pour, Cond.selects RX4 yX4_pour yX4_pour, Cond.code yX4_pour cX4_pour 6 (some .int), Cond.methodLink RX4 301 yX4_pourForHour, Cond.instanceMethod yX4_pourForHour, Cond.selects RX4 yX4_pourForHour yX4_pourForHour, Cond.code yX4_pourForHour cX4_pourForHour 5 (some .int), Cond.methodLink RX4 233 yX0_room, Cond.instanceMethod yX0_room, Cond.selects RX0 yX0_room yX0_room, Cond.code yX0_room cX0_room 1 (some .int)]
def wsL_law0_r11 : List Cond := [Cond.methodLink RX4 305 yX4_dustOf, Cond.instanceMethod yX4_dustOf, Cond.selects RX4 yX4_dustOf yX4_dustOf, Cond.code yX4_dustOf cX4_dustOf 3 (some .int), Cond.methodLink RX4 308 yX1_takeFromLowest, Cond.instanceMethod yX1_takeFromLowest, Cond.selects RX1 yX1_takeFromLowest yX1_takeFromLowest, Cond.code yX1_takeFromLowest cX1_takeFromLowest 3 none, Cond.methodLink RL 43 yX4_pads, Cond.instanceMethod yX4_pads, Cond.selects RX4 yX4_pads yX4_pads, Cond.code yX4_pads cX4_pads 4 (some .int), Cond.methodLink RL 46 yX4_shake, Cond.instanceMethod yX4_shake, Cond.selects RX4 yX4_shake yX4_shake, Cond.code yX4_shake cX4_shake 4 (some .int), Cond.methodLink RX4 130 yX4_shakesToBreak, Cond.instanceMethod yX4_shakesToBreak, Cond.selects RX4 yX4_shakesToBreak yX4_shakesToBreak, Cond.code yX4_shakesToBreak cX4_shakesToBreak 2 (some .int), Cond.methodLink RX4 317 Lib.Math.max.name, Cond.static Lib.Math.max.name, Cond.code Lib.Math.max.name Lib.Math.max.code 2 (some .int), Cond.methodLink RX4 320 yX1_tonnesHeld]
def wsL_law0_r12 : List Cond := [Cond.instanceMethod yX1_tonnesHeld, Cond.selects RX1 yX1_tonnesHeld yX1_tonnesHeld, Cond.code yX1_tonnesHeld cX1_tonnesHeld 1 (some .int), Cond.methodLink RX4 138 yX1_makeLowestYounger, Cond.instanceMethod yX1_makeLowestYounger, Cond.selects RX1 yX1_makeLowestYounger yX1_makeLowestYounger, Cond.code yX1_makeLowestYounger cX1_makeLowestYounger 1 none, Cond.methodLink RX1 48 Lib.Math.max.name, Cond.methodLink RL 49 yX4_set, Cond.instanceMethod yX4_set, Cond.selects RX4 yX4_set yX4_set, Cond.code yX4_set cX4_set 4 (some .int), Cond.fieldLink RX4 152 "SiloPads" "SETTING_LEAST" "[I", Cond.fieldLink RX4 155 "SiloPads" "SETTING_MOST" "[I", Cond.methodLink RL 52 yX4_pass, Cond.instanceMethod yX4_pass, Cond.selects RX4 yX4_pass yX4_pass, Cond.code yX4_pass cX4_pass 2 (some .int), Cond.methodLink RX4 146 yX4_passDays, Cond.instanceMethod yX4_passDays, Cond.selects RX4 yX4_passDays yX4_passDays, Cond.code yX4_passDays cX4_passDays 5 (some .int), Cond.methodLink RX4 311 yX4_passDayIn, Cond.instanceMethod yX4_passDayIn]
def wsL_law0_r13 : List Cond := [Cond.selects RX4 yX4_passDayIn yX4_passDayIn, Cond.code yX4_passDayIn cX4_passDayIn 2 (some .int), Cond.methodLink RX4 314 yX1_makeOlder, Cond.instanceMethod yX1_makeOlder, Cond.selects RX1 yX1_makeOlder yX1_makeOlder, Cond.code yX1_makeOlder cX1_makeOlder 2 none, Cond.methodLink RX4 251 yX1_canGetArch, Cond.instanceMethod yX1_canGetArch, Cond.selects RX1 yX1_canGetArch yX1_canGetArch, Cond.code yX1_canGetArch cX1_canGetArch 1 (some .boolean), Cond.methodLink RL 85 yL_holds, Cond.static yL_holds, Cond.code yL_holds cL_holds 11 (some .boolean), Cond.methodLink RL 55 yX4_shakesNeeded, Cond.instanceMethod yX4_shakesNeeded, Cond.selects RX4 yX4_shakesNeeded yX4_shakesNeeded, Cond.code yX4_shakesNeeded cX4_shakesNeeded 2 (some .int), Cond.methodLink RL 58 yX4_whyNot, Cond.instanceMethod yX4_whyNot, Cond.selects RX4 yX4_whyNot yX4_whyNot, Cond.code yX4_whyNot cX4_whyNot 4 (some .int), Cond.methodLink RL 61 yX4_urgent, Cond.instanceMethod yX4_urgent, Cond.selects RX4 yX4_urgent yX4_urgent]
def wsL_law0_r14 : List Cond := [Cond.code yX4_urgent cX4_urgent 3 (some .int), Cond.methodLink RX4 247 yX4_isMoreUrgent, Cond.static yX4_isMoreUrgent, Cond.code yX4_isMoreUrgent cX4_isMoreUrgent 2 (some .boolean), Cond.methodLink RL 65 yX4_softness, Cond.instanceMethod yX4_softness, Cond.selects RX4 yX4_softness yX4_softness, Cond.code yX4_softness cX4_softness 4 (some .double), Cond.methodLink RX4 263 yX4_softTonnes, Cond.instanceMethod yX4_softTonnes, Cond.selects RX4 yX4_softTonnes yX4_softTonnes, Cond.code yX4_softTonnes cX4_softTonnes 4 (some .int)]
def wsL_law0 : List Cond := (wsL_law0_r1 ++ (wsL_law0_r2 ++ (wsL_law0_r3 ++ (wsL_law0_r4 ++ (wsL_law0_r5 ++ (wsL_law0_r6 ++ (wsL_law0_r7 ++ (wsL_law0_r8 ++ (wsL_law0_r9 ++ (wsL_law0_r10 ++ (wsL_law0_r11 ++ (wsL_law0_r12 ++ (wsL_law0_r13 ++ wsL_law0_r14))))))))))))) ++ wsX40 ++ wsX30 ++ wsX20 ++ wsX10 ++ wsX00 ++ ([] : List Cond)
def wsL_law : List Cond := wsL_law0 ++ (vx_atS RX4 67 "java/lang/IllegalArgumentException" ["java/lang/RuntimeException", "java/lang/Exception"]).filter goodWord ++ (vx_atS RX4 124 "java/lang/IllegalStateException" ["java/lang/RuntimeException", "java/lang/Exception"]).filter goodWord ++ (vx_atS RX4 60 "java/lang/IndexOutOfBoundsException" ["java/lang/RuntimeException", "java/lang/Exception"]).filter goodWord
abbrev vwCl : List vw_C := [(RX0, TX0, 2), (RX1, TX1, 6), (RX2, TX2, 5), (RX3, TX3, 9), (RX4, TX4, 8)]
end
section
theorem dX0_init_0 : decode cX0_init 0 = .ok (.aload_n 0, 1) := by decide +kernel
theorem dX0_init_1 : decode cX0_init 1 = .ok (.invokespecial 3, 3) := by decide +kernel
theorem dX0_init_4 : decode cX0_init 4 = .ok (.aload_n 0, 1) := by decide +kernel
theorem dX0_init_5 : decode cX0_init 5 = .ok (.iconst 0, 1) := by decide +kernel
theorem dX0_init_6 : decode cX0_init 6 = .ok (.putfield 9, 3) := by decide +kernel
theorem dX0_init_9 : decode cX0_init 9 = .ok (.aload_n 0, 1) := by decide +kernel
theorem dX0_init_10 : decode cX0_init 10 = .ok (.sipush 500, 3) := by decide +kernel
theorem dX0_init_13 : decode cX0_init 13 = .ok (.putfield 15, 3) := by decide +kernel
theorem dX0_init_16 : decode cX0_init 16 = .ok (.return_, 1) := by decide +kernel
theorem dX0_becomeLike_0 : decode cX0_becomeLike 0 = .ok (.aload_n 0, 1) := by decide +kernel
theorem dX0_becomeLike_1 : decode cX0_becomeLike 1 = .ok (.aload_n 1, 1) := by decide +kernel
theorem dX0_becomeLike_2 : decode cX0_becomeLike 2 = .ok (.getfield 9, 3) := by decide +kernel
theorem dX0_becomeLike_5 : decode cX0_becomeLike 5 = .ok (.putfield 9, 3) := by decide +kernel
theorem dX0_becomeLike_8 : decode cX0_becomeLike 8 = .ok (.aload_n 0, 1) := by decide +kernel
theorem dX0_becomeLike_9 : decode cX0_becomeLike 9 = .ok (.aload_n 1, 1) := by decide +kernel
theorem dX0_becomeLike_10 : decode cX0_becomeLike 10 = .ok (.getfield 15, 3) := by decide +kernel
theorem dX0_becomeLike_13 : decode cX0_becomeLike 13 = .ok (.putfield 15, 3) := by decide +kernel
theorem dX0_becomeLike_16 : decode cX0_becomeLike 16 = .ok (.return_, 1) := by decide +kernel
theorem dX0_room_0 : decode cX0_room 0 = .ok (.aload_n 0, 1) := by decide +kernel
theorem dX0_room_1 : decode cX0_room 1 = .ok (.getfield 15, 3) := by decide +kernel
theorem dX0_room_4 : decode cX0_room 4 = .ok (.aload_n 0, 1) := by decide +kernel
theorem dX0_room_5 : decode cX0_room 5 = .ok (.getfield 9, 3) := by decide +kernel
theorem dX0_room_8 : decode cX0_room 8 = .ok (.isub, 1) := by decide +kernel
theorem dX0_room_9 : decode cX0_room 9 = .ok (.ireturn, 1) := by decide +kernel
theorem dX1_init_0 : decode cX1_init 0 = .ok (.aload_n 0, 1) := by decide +kernel
theorem dX1_init_1 : decode cX1_init 1 = .ok (.invokespecial 3, 3) := by decide +kernel
theorem dX1_init_4 : decode cX1_init 4 = .ok (.aload_n 0, 1) := by decide +kernel
theorem dX1_init_5 : decode cX1_init 5 = .ok (.bipush 10, 2) := by decide +kernel
theorem dX1_init_7 : decode cX1_init 7 = .ok (.newarray .int, 2) := by decide +kernel
theorem dX1_init_9 : decode cX1_init 9 = .ok (.putfield 9, 3) := by decide +kernel
theorem dX1_init_12 : decode cX1_init 12 = .ok (.aload_n 0, 1) := by decide +kernel
theorem dX1_init_13 : decode cX1_init 13 = .ok (.bipush 10, 2) := by decide +kernel
theorem dX1_init_15 : decode cX1_init 15 = .ok (.newarray .int, 2) := by decide +kernel
theorem dX1_init_17 : decode cX1_init 17 = .ok (.putfield 15, 3) := by decide +kernel
theorem dX1_init_20 : decode cX1_init 20 = .ok (.aload_n 0, 1) := by decide +kernel
theorem dX1_init_21 : decode cX1_init 21 = .ok (.iconst 0, 1) := by decide +kernel
theorem dX1_init_22 : decode cX1_init 22 = .ok (.putfield 18, 3) := by decide +kernel
theorem dX1_init_25 : decode cX1_init 25 = .ok (.aload_n 0, 1) := by decide +kernel
theorem dX1_init_26 : decode cX1_init 26 = .ok (.iconst 0, 1) := by decide +kernel
theorem dX1_init_27 : decode cX1_init 27 = .ok (.putfield 22, 3) := by decide +kernel
theorem dX1_init_30 : decode cX1_init 30 = .ok (.aload_n 0, 1) := by decide +kernel
theorem dX1_init_31 : decode cX1_init 31 = .ok (.iconst 0, 1) := by decide +kernel
theorem dX1_init_32 : decode cX1_init 32 = .ok (.putfield 25, 3) := by decide +kernel
theorem dX1_init_35 : decode cX1_init 35 = .ok (.aload_n 0, 1) := by decide +kernel
theorem dX1_init_36 : decode cX1_init 36 = .ok (.iconst 0, 1) := by decide +kernel
theorem dX1_init_37 : decode cX1_init 37 = .ok (.putfield 28, 3) := by decide +kernel
theorem dX1_init_40 : decode cX1_init 40 = .ok (.return_, 1) := by decide +kernel
theorem dX1_becomeLike_0 : decode cX1_becomeLike 0 = .ok (.iconst 0, 1) := by decide +kernel
theorem dX1_becomeLike_1 : decode cX1_becomeLike 1 = .ok (.istore_n 2, 1) := by decide +kernel
theorem dX1_becomeLike_2 : decode cX1_becomeLike 2 = .ok (.iload_n 2, 1) := by decide +kernel
theorem dX1_becomeLike_3 : decode cX1_becomeLike 3 = .ok (.bipush 10, 2) := by decide +kernel
theorem dX1_becomeLike_5 : decode cX1_becomeLike 5 = .ok (.if_icmp .ge 33, 3) := by decide +kernel
theorem dX1_becomeLike_8 : decode cX1_becomeLike 8 = .ok (.aload_n 0, 1) := by decide +kernel
theorem dX1_becomeLike_9 : decode cX1_becomeLike 9 = .ok (.getfield 9, 3) := by decide +kernel
theorem dX1_becomeLike_12 : decode cX1_becomeLike 12 = .ok (.iload_n 2, 1) := by decide +kernel
theorem dX1_becomeLike_13 : decode cX1_becomeLike 13 = .ok (.aload_n 1, 1) := by decide +kernel
theorem dX1_becomeLike_14 : decode cX1_becomeLike 14 = .ok (.getfield 9, 3) := by decide +kernel
theorem dX1_becomeLike_17 : decode cX1_becomeLike 17 = .ok (.iload_n 2, 1) := by decide +kernel
theorem dX1_becomeLike_18 : decode cX1_becomeLike 18 = .ok (.iaload, 1) := by decide +kernel
theorem dX1_becomeLike_19 : decode cX1_becomeLike 19 = .ok (.iastore, 1) := by decide +kernel
theorem dX1_becomeLike_20 : decode cX1_becomeLike 20 = .ok (.aload_n 0, 1) := by decide +kernel
theorem dX1_becomeLike_21 : decode cX1_becomeLike 21 = .ok (.getfield 15, 3) := by decide +kernel
theorem dX1_becomeLike_24 : decode cX1_becomeLike 24 = .ok (.iload_n 2, 1) := by decide +kernel
theorem dX1_becomeLike_25 : decode cX1_becomeLike 25 = .ok (.aload_n 1, 1) := by decide +kernel
theorem dX1_becomeLike_26 : decode cX1_becomeLike 26 = .ok (.getfield 15, 3) := by decide +kernel
theorem dX1_becomeLike_29 : decode cX1_becomeLike 29 = .ok (.iload_n 2, 1) := by decide +kernel
theorem dX1_becomeLike_30 : decode cX1_becomeLike 30 = .ok (.iaload, 1) := by decide +kernel
theorem dX1_becomeLike_31 : decode cX1_becomeLike 31 = .ok (.iastore, 1) := by decide +kernel
theorem dX1_becomeLike_32 : decode cX1_becomeLike 32 = .ok (.iinc 2 1, 3) := by decide +kernel
theorem dX1_becomeLike_35 : decode cX1_becomeLike 35 = .ok (.goto (-33), 3) := by decide +kernel
theorem dX1_becomeLike_38 : decode cX1_becomeLike 38 = .ok (.aload_n 0, 1) := by decide +kernel
theorem dX1_becomeLike_39 : decode cX1_becomeLike 39 = .ok (.aload_n 1, 1) := by decide +kernel
theorem dX1_becomeLike_40 : decode cX1_becomeLike 40 = .ok (.getfield 18, 3) := by decide +kernel
theorem dX1_becomeLike_43 : decode cX1_becomeLike 43 = .ok (.putfield 18, 3) := by decide +kernel
theorem dX1_becomeLike_46 : decode cX1_becomeLike 46 = .ok (.aload_n 0, 1) := by decide +kernel
theorem dX1_becomeLike_47 : decode cX1_becomeLike 47 = .ok (.aload_n 1, 1) := by decide +kernel
theorem dX1_becomeLike_48 : decode cX1_becomeLike 48 = .ok (.getfield 22, 3) := by decide +kernel
theorem dX1_becomeLike_51 : decode cX1_becomeLike 51 = .ok (.putfield 22, 3) := by decide +kernel
theorem dX1_becomeLike_54 : decode cX1_becomeLike 54 = .ok (.aload_n 0, 1) := by decide +kernel
theorem dX1_becomeLike_55 : decode cX1_becomeLike 55 = .ok (.aload_n 1, 1) := by decide +kernel
theorem dX1_becomeLike_56 : decode cX1_becomeLike 56 = .ok (.getfield 25, 3) := by decide +kernel
theorem dX1_becomeLike_59 : decode cX1_becomeLike 59 = .ok (.putfield 25, 3) := by decide +kernel
theorem dX1_becomeLike_62 : decode cX1_becomeLike 62 = .ok (.aload_n 0, 1) := by decide +kernel
theorem dX1_becomeLike_63 : decode cX1_becomeLike 63 = .ok (.aload_n 1, 1) := by decide +kernel
theorem dX1_becomeLike_64 : decode cX1_becomeLike 64 = .ok (.getfield 28, 3) := by decide +kernel
theorem dX1_becomeLike_67 : decode cX1_becomeLike 67 = .ok (.putfield 28, 3) := by decide +kernel
theorem dX1_becomeLike_70 : decode cX1_becomeLike 70 = .ok (.return_, 1) := by decide +kernel
set_option maxRecDepth 20000 in
theorem ggX1_total_X1_totalFrom : GoodIn wsX1_total wsX1_totalFrom := goodIn_r _ [5, 6, 7, 8, 9, 10, 11, 12, 13] (by decide +kernel) (by decide +kernel)
set_option maxRecDepth 20000 in
theorem gX1_total_X1_totalFrom : GoodIn wsX1_total (wsV RX1 31 RX1 yX1_totalFrom wsX1_totalFrom) := goodIn_app (goodIn_of _ (by decide +kernel)) ggX1_total_X1_totalFrom
theorem dX1_total_0 : decode cX1_total 0 = .ok (.aload_n 0, 1) := by decide +kernel
theorem dX1_total_1 : decode cX1_total 1 = .ok (.iconst 0, 1) := by decide +kernel
theorem dX1_total_2 : decode cX1_total 2 = .ok (.invokevirtual 31, 3) := by decide +kernel
theorem dX1_total_5 : decode cX1_total 5 = .ok (.ireturn, 1) := by decide +kernel
theorem dX1_totalFrom_0 : decode cX1_totalFrom 0 = .ok (.iconst 0, 1) := by decide +kernel
theorem dX1_totalFrom_1 : decode cX1_totalFrom 1 = .ok (.istore_n 2, 1) := by decide +kernel
theorem dX1_totalFrom_2 : decode cX1_totalFrom 2 = .ok (.iload_n 1, 1) := by decide +kernel
theorem dX1_totalFrom_3 : decode cX1_totalFrom 3 = .ok (.istore_n 3, 1) := by decide +kernel
theorem dX1_totalFrom_4 : decode cX1_totalFrom 4 = .ok (.iload_n 3, 1) := by decide +kernel
theorem dX1_totalFrom_5 : decode cX1_totalFrom 5 = .ok (.aload_n 0, 1) := by decide +kernel
theorem dX1_totalFrom_6 : decode cX1_totalFrom 6 = .ok (.getfield 18, 3) := by decide +kernel
theorem dX1_totalFrom_9 : decode cX1_totalFrom 9 = .ok (.if_icmp .ge 18, 3) := by decide +kernel
theorem dX1_totalFrom_12 : decode cX1_totalFrom 12 = .ok (.iload_n 2, 1) := by decide +kernel
theorem dX1_totalFrom_13 : decode cX1_totalFrom 13 = .ok (.aload_n 0, 1) := by decide +kernel
theorem dX1_totalFrom_14 : decode cX1_totalFrom 14 = .ok (.getfield 9, 3) := by decide +kernel
theorem dX1_totalFrom_17 : decode cX1_totalFrom 17 = .ok (.iload_n 3, 1) := by decide +kernel
theorem dX1_totalFrom_18 : decode cX1_totalFrom 18 = .ok (.iaload, 1) := by decide +kernel
theorem dX1_totalFrom_19 : decode cX1_totalFrom 19 = .ok (.iadd, 1) := by decide +kernel
theorem dX1_totalFrom_20 : decode cX1_totalFrom 20 = .ok (.istore_n 2, 1) := by decide +kernel
theorem dX1_totalFrom_21 : decode cX1_totalFrom 21 = .ok (.iinc 3 1, 3) := by decide +kernel
theorem dX1_totalFrom_24 : decode cX1_totalFrom 24 = .ok (.goto (-20), 3) := by decide +kernel
theorem dX1_totalFrom_27 : decode cX1_totalFrom 27 = .ok (.iload_n 2, 1) := by decide +kernel
theorem dX1_totalFrom_28 : decode cX1_totalFrom 28 = .ok (.ireturn, 1) := by decide +kernel
set_option maxRecDepth 20000 in
theorem ggX1_tonnesHeld_X1_totalFrom : GoodIn wsX1_tonnesHeld wsX1_totalFrom := goodIn_r _ [6, 7, 8, 9, 10, 11, 12, 13, 14] (by decide +kernel) (by decide +kernel)
set_option maxRecDepth 20000 in
theorem gX1_tonnesHeld_X1_totalFrom : GoodIn wsX1_tonnesHeld (wsV RX1 31 RX1 yX1_totalFrom wsX1_totalFrom) := goodIn_app (goodIn_of _ (by decide +kernel)) ggX1_tonnesHeld_X1_totalFrom
theorem dX1_tonnesHeld_0 : decode cX1_tonnesHeld 0 = .ok (.aload_n 0, 1) := by decide +kernel
theorem dX1_tonnesHeld_1 : decode cX1_tonnesHeld 1 = .ok (.aload_n 0, 1) := by decide +kernel
theorem dX1_tonnesHeld_2 : decode cX1_tonnesHeld 2 = .ok (.getfield 25, 3) := by decide +kernel
theorem dX1_tonnesHeld_5 : decode cX1_tonnesHeld 5 = .ok (.iconst 2, 1) := by decide +kernel
theorem dX1_tonnesHeld_6 : decode cX1_tonnesHeld 6 = .ok (.if_icmp .ne 7, 3) := by decide +kernel
theorem dX1_tonnesHeld_9 : decode cX1_tonnesHeld 9 = .ok (.iconst 0, 1) := by decide +kernel
theorem dX1_tonnesHeld_10 : decode cX1_tonnesHeld 10 = .ok (.goto 4, 3) := by decide +kernel
theorem dX1_tonnesHeld_13 : decode cX1_tonnesHeld 13 = .ok (.iconst 1, 1) := by decide +kernel
theorem dX1_tonnesHeld_14 : decode cX1_tonnesHeld 14 = .ok (.invokevirtual 31, 3) := by decide +kernel
theorem dX1_tonnesHeld_17 : decode cX1_tonnesHeld 17 = .ok (.ireturn, 1) := by decide +kernel
theorem dX1_canGetArch_0 : decode cX1_canGetArch 0 = .ok (.aload_n 0, 1) := by decide +kernel
theorem dX1_canGetArch_1 : decode cX1_canGetArch 1 = .ok (.getfield 18, 3) := by decide +kernel
theorem dX1_canGetArch_4 : decode cX1_canGetArch 4 = .ok (.iconst 2, 1) := by decide +kernel
theorem dX1_canGetArch_5 : decode cX1_canGetArch 5 = .ok (.if_icmp .lt 14, 3) := by decide +kernel
theorem dX1_canGetArch_8 : decode cX1_canGetArch 8 = .ok (.aload_n 0, 1) := by decide +kernel
theorem dX1_canGetArch_9 : decode cX1_canGetArch 9 = .ok (.getfield 25, 3) := by decide +kernel
theorem dX1_canGetArch_12 : decode cX1_canGetArch 12 = .ok (.ifCond .ne 7, 3) := by decide +kernel
theorem dX1_canGetArch_15 : decode cX1_canGetArch 15 = .ok (.iconst 1, 1) := by decide +kernel
theorem dX1_canGetArch_16 : decode cX1_canGetArch 16 = .ok (.goto 4, 3) := by decide +kernel
theorem dX1_canGetArch_19 : decode cX1_canGetArch 19 = .ok (.iconst 0, 1) := by decide +kernel
theorem dX1_canGetArch_20 : decode cX1_canGetArch 20 = .ok (.ireturn, 1) := by decide +kernel
theorem dX1_placeOnTop_0 : decode cX1_placeOnTop 0 = .ok (.aload_n 0, 1) := by decide +kernel
theorem dX1_placeOnTop_1 : decode cX1_placeOnTop 1 = .ok (.getfield 18, 3) := by decide +kernel
theorem dX1_placeOnTop_4 : decode cX1_placeOnTop 4 = .ok (.ifCond .eq 17, 3) := by decide +kernel
theorem dX1_placeOnTop_7 : decode cX1_placeOnTop 7 = .ok (.aload_n 0, 1) := by decide +kernel
theorem dX1_placeOnTop_8 : decode cX1_placeOnTop 8 = .ok (.getfield 15, 3) := by decide +kernel
theorem dX1_placeOnTop_11 : decode cX1_placeOnTop 11 = .ok (.aload_n 0, 1) := by decide +kernel
theorem dX1_placeOnTop_12 : decode cX1_placeOnTop 12 = .ok (.getfield 18, 3) := by decide +kernel
theorem dX1_placeOnTop_15 : decode cX1_placeOnTop 15 = .ok (.iconst 1, 1) := by decide +kernel
theorem dX1_placeOnTop_16 : decode cX1_placeOnTop 16 = .ok (.isub, 1) := by decide +kernel
theorem dX1_placeOnTop_17 : decode cX1_placeOnTop 17 = .ok (.iaload, 1) := by decide +kernel
theorem dX1_placeOnTop_18 : decode cX1_placeOnTop 18 = .ok (.ifCond .eq 5, 3) := by decide +kernel
theorem dX1_placeOnTop_21 : decode cX1_placeOnTop 21 = .ok (.iconst 0, 1) := by decide +kernel
theorem dX1_placeOnTop_22 : decode cX1_placeOnTop 22 = .ok (.ireturn, 1) := by decide +kernel
theorem dX1_placeOnTop_23 : decode cX1_placeOnTop 23 = .ok (.sipush 500, 3) := by decide +kernel
theorem dX1_placeOnTop_26 : decode cX1_placeOnTop 26 = .ok (.aload_n 0, 1) := by decide +kernel
theorem dX1_placeOnTop_27 : decode cX1_placeOnTop 27 = .ok (.getfield 9, 3) := by decide +kernel
theorem dX1_placeOnTop_30 : decode cX1_placeOnTop 30 = .ok (.aload_n 0, 1) := by decide +kernel
theorem dX1_placeOnTop_31 : decode cX1_placeOnTop 31 = .ok (.getfield 18, 3) := by decide +kernel
theorem dX1_placeOnTop_34 : decode cX1_placeOnTop 34 = .ok (.iconst 1, 1) := by decide +kernel
theorem dX1_placeOnTop_35 : decode cX1_placeOnTop 35 = .ok (.isub, 1) := by decide +kernel
theorem dX1_placeOnTop_36 : decode cX1_placeOnTop 36 = .ok (.iaload, 1) := by decide +kernel
theorem dX1_placeOnTop_37 : decode cX1_placeOnTop 37 = .ok (.isub, 1) := by decide +kernel
theorem dX1_placeOnTop_38 : decode cX1_placeOnTop 38 = .ok (.ireturn, 1) := by decide +kernel
set_option maxRecDepth 20000 in
theorem ggX1_place_X1_total : GoodIn wsX1_place wsX1_total := goodIn_r _ [10, 11, 12, 13, 9, 14, 1, 15, 21, 22, 23, 24, 25, 26] (by decide +kernel) (by decide +kernel)
set_option maxRecDepth 20000 in
theorem gX1_place_X1_total : GoodIn wsX1_place (wsV RX1 35 RX1 yX1_total wsX1_total) := goodIn_app (goodIn_of _ (by decide +kernel)) ggX1_place_X1_total
set_option maxRecDepth 20000 in
theorem ggX1_place_X1_placeOnTop : GoodIn wsX1_place wsX1_placeOnTop := goodIn_r _ [19, 1, 20, 15, 21, 22, 23, 24, 25, 26] (by decide +kernel) (by decide +kernel)
set_option maxRecDepth 20000 in
theorem gX1_place_X1_placeOnTop : GoodIn wsX1_place (wsV RX1 39 RX1 yX1_placeOnTop wsX1_placeOnTop) := goodIn_app (goodIn_of _ (by decide +kernel)) ggX1_place_X1_placeOnTop
theorem dX1_place_0 : decode cX1_place 0 = .ok (.aload_n 0, 1) := by decide +kernel
theorem dX1_place_1 : decode cX1_place 1 = .ok (.getfield 18, 3) := by decide +kernel
theorem dX1_place_4 : decode cX1_place 4 = .ok (.bipush 10, 2) := by decide +kernel
theorem dX1_place_6 : decode cX1_place 6 = .ok (.if_icmp .ge 9, 3) := by decide +kernel
theorem dX1_place_9 : decode cX1_place 9 = .ok (.sipush 500, 3) := by decide +kernel
theorem dX1_place_12 : decode cX1_place 12 = .ok (.goto 4, 3) := by decide +kernel
theorem dX1_place_15 : decode cX1_place 15 = .ok (.iconst 0, 1) := by decide +kernel
theorem dX1_place_16 : decode cX1_place 16 = .ok (.istore_n 1, 1) := by decide +kernel
theorem dX1_place_17 : decode cX1_place 17 = .ok (.sipush 1200, 3) := by decide +kernel
theorem dX1_place_20 : decode cX1_place 20 = .ok (.aload_n 0, 1) := by decide +kernel
theorem dX1_place_21 : decode cX1_place 21 = .ok (.invokevirtual 35, 3) := by decide +kernel
theorem dX1_place_24 : decode cX1_place 24 = .ok (.isub, 1) := by decide +kernel
theorem dX1_place_25 : decode cX1_place 25 = .ok (.aload_n 0, 1) := by decide +kernel
theorem dX1_place_26 : decode cX1_place 26 = .ok (.invokevirtual 39, 3) := by decide +kernel
theorem dX1_place_29 : decode cX1_place 29 = .ok (.iload_n 1, 1) := by decide +kernel
theorem dX1_place_30 : decode cX1_place 30 = .ok (.iadd, 1) := by decide +kernel
theorem dX1_place_31 : decode cX1_place 31 = .ok (.invokestatic 42, 3) := by decide +kernel
theorem dX1_place_34 : decode cX1_place 34 = .ok (.ireturn, 1) := by decide +kernel
set_option maxRecDepth 20000 in
theorem ggX1_fill_X1_placeOnTop : GoodIn wsX1_fill wsX1_placeOnTop := goodIn_r _ [13, 5, 7, 6, 14, 15, 16, 17, 18, 19] (by decide +kernel) (by decide +kernel)
set_option maxRecDepth 20000 in
theorem gX1_fill_X1_placeOnTop : GoodIn wsX1_fill (wsV RX1 39 RX1 yX1_placeOnTop wsX1_placeOnTop) := goodIn_app (goodIn_of _ (by decide +kernel)) ggX1_fill_X1_placeOnTop
theorem dX1_fill_0 : decode cX1_fill 0 = .ok (.iload_n 1, 1) := by decide +kernel
theorem dX1_fill_1 : decode cX1_fill 1 = .ok (.aload_n 0, 1) := by decide +kernel
theorem dX1_fill_2 : decode cX1_fill 2 = .ok (.invokevirtual 39, 3) := by decide +kernel
theorem dX1_fill_5 : decode cX1_fill 5 = .ok (.invokestatic 42, 3) := by decide +kernel
theorem dX1_fill_8 : decode cX1_fill 8 = .ok (.istore_n 2, 1) := by decide +kernel
theorem dX1_fill_9 : decode cX1_fill 9 = .ok (.iload_n 2, 1) := by decide +kernel
theorem dX1_fill_10 : decode cX1_fill 10 = .ok (.ifCond .le 25, 3) := by decide +kernel
theorem dX1_fill_13 : decode cX1_fill 13 = .ok (.aload_n 0, 1) := by decide +kernel
theorem dX1_fill_14 : decode cX1_fill 14 = .ok (.getfield 18, 3) := by decide +kernel
theorem dX1_fill_17 : decode cX1_fill 17 = .ok (.ifCond .le 18, 3) := by decide +kernel
theorem dX1_fill_20 : decode cX1_fill 20 = .ok (.aload_n 0, 1) := by decide +kernel
theorem dX1_fill_21 : decode cX1_fill 21 = .ok (.getfield 9, 3) := by decide +kernel
theorem dX1_fill_24 : decode cX1_fill 24 = .ok (.aload_n 0, 1) := by decide +kernel
theorem dX1_fill_25 : decode cX1_fill 25 = .ok (.getfield 18, 3) := by decide +kernel
theorem dX1_fill_28 : decode cX1_fill 28 = .ok (.iconst 1, 1) := by decide +kernel
theorem dX1_fill_29 : decode cX1_fill 29 = .ok (.isub, 1) := by decide +kernel
theorem dX1_fill_30 : decode cX1_fill 30 = .ok (.dup2, 1) := by decide +kernel
theorem dX1_fill_31 : decode cX1_fill 31 = .ok (.iaload, 1) := by decide +kernel
theorem dX1_fill_32 : decode cX1_fill 32 = .ok (.iload_n 2, 1) := by decide +kernel
theorem dX1_fill_33 : decode cX1_fill 33 = .ok (.iadd, 1) := by decide +kernel
theorem dX1_fill_34 : decode cX1_fill 34 = .ok (.iastore, 1) := by decide +kernel
theorem dX1_fill_35 : decode cX1_fill 35 = .ok (.iload_n 1, 1) := by decide +kernel
theorem dX1_fill_36 : decode cX1_fill 36 = .ok (.iload_n 2, 1) := by decide +kernel
theorem dX1_fill_37 : decode cX1_fill 37 = .ok (.isub, 1) := by decide +kernel
theorem dX1_fill_38 : decode cX1_fill 38 = .ok (.istore_n 3, 1) := by decide +kernel
theorem dX1_fill_39 : decode cX1_fill 39 = .ok (.iload_n 3, 1) := by decide +kernel
theorem dX1_fill_40 : decode cX1_fill 40 = .ok (.ifCond .le 47, 3) := by decide +kernel
theorem dX1_fill_43 : decode cX1_fill 43 = .ok (.aload_n 0, 1) := by decide +kernel
theorem dX1_fill_44 : decode cX1_fill 44 = .ok (.getfield 18, 3) := by decide +kernel
theorem dX1_fill_47 : decode cX1_fill 47 = .ok (.bipush 10, 2) := by decide +kernel
theorem dX1_fill_49 : decode cX1_fill 49 = .ok (.if_icmp .ge 38, 3) := by decide +kernel
theorem dX1_fill_52 : decode cX1_fill 52 = .ok (.aload_n 0, 1) := by decide +kernel
theorem dX1_fill_53 : decode cX1_fill 53 = .ok (.getfield 9, 3) := by decide +kernel
theorem dX1_fill_56 : decode cX1_fill 56 = .ok (.aload_n 0, 1) := by decide +kernel
theorem dX1_fill_57 : decode cX1_fill 57 = .ok (.getfield 18, 3) := by decide +kernel
theorem dX1_fill_60 : decode cX1_fill 60 = .ok (.iload_n 3, 1) := by decide +kernel
theorem dX1_fill_61 : decode cX1_fill 61 = .ok (.iastore, 1) := by decide +kernel
theorem dX1_fill_62 : decode cX1_fill 62 = .ok (.aload_n 0, 1) := by decide +kernel
theorem dX1_fill_63 : decode cX1_fill 63 = .ok (.getfield 15, 3) := by decide +kernel
theorem dX1_fill_66 : decode cX1_fill 66 = .ok (.aload_n 0, 1) := by decide +kernel
theorem dX1_fill_67 : decode cX1_fill 67 = .ok (.getfield 18, 3) := by decide +kernel
theorem dX1_fill_70 : decode cX1_fill 70 = .ok (.iconst 0, 1) := by decide +kernel
theorem dX1_fill_71 : decode cX1_fill 71 = .ok (.iastore, 1) := by decide +kernel
theorem dX1_fill_72 : decode cX1_fill 72 = .ok (.aload_n 0, 1) := by decide +kernel
theorem dX1_fill_73 : decode cX1_fill 73 = .ok (.dup, 1) := by decide +kernel
theorem dX1_fill_74 : decode cX1_fill 74 = .ok (.getfield 18, 3) := by decide +kernel
theorem dX1_fill_77 : decode cX1_fill 77 = .ok (.iconst 1, 1) := by decide +kernel
theorem dX1_fill_78 : decode cX1_fill 78 = .ok (.iadd, 1) := by decide +kernel
theorem dX1_fill_79 : decode cX1_fill 79 = .ok (.putfield 18, 3) := by decide +kernel
theorem dX1_fill_82 : decode cX1_fill 82 = .ok (.aload_n 0, 1) := by decide +kernel
theorem dX1_fill_83 : decode cX1_fill 83 = .ok (.iconst 0, 1) := by decide +kernel
theorem dX1_fill_84 : decode cX1_fill 84 = .ok (.putfield 28, 3) := by decide +kernel
theorem dX1_fill_87 : decode cX1_fill 87 = .ok (.return_, 1) := by decide +kernel
theorem dX1_takeFromLowest_0 : decode cX1_takeFromLowest 0 = .ok (.aload_n 0, 1) := by decide +kernel
theorem dX1_takeFromLowest_1 : decode cX1_takeFromLowest 1 = .ok (.getfield 9, 3) := by decide +kernel
theorem dX1_takeFromLowest_4 : decode cX1_takeFromLowest 4 = .ok (.iconst 0, 1) := by decide +kernel
theorem dX1_takeFromLowest_5 : decode cX1_takeFromLowest 5 = .ok (.dup2, 1) := by decide +kernel
theorem dX1_takeFromLowest_6 : decode cX1_takeFromLowest 6 = .ok (.iaload, 1) := by decide +kernel
theorem dX1_takeFromLowest_7 : decode cX1_takeFromLowest 7 = .ok (.iload_n 1, 1) := by decide +kernel
theorem dX1_takeFromLowest_8 : decode cX1_takeFromLowest 8 = .ok (.isub, 1) := by decide +kernel
theorem dX1_takeFromLowest_9 : decode cX1_takeFromLowest 9 = .ok (.iastore, 1) := by decide +kernel
theorem dX1_takeFromLowest_10 : decode cX1_takeFromLowest 10 = .ok (.aload_n 0, 1) := by decide +kernel
theorem dX1_takeFromLowest_11 : decode cX1_takeFromLowest 11 = .ok (.getfield 9, 3) := by decide +kernel
theorem dX1_takeFromLowest_14 : decode cX1_takeFromLowest 14 = .ok (.iconst 0, 1) := by decide +kernel
theorem dX1_takeFromLowest_15 : decode cX1_takeFromLowest 15 = .ok (.iaload, 1) := by decide +kernel
theorem dX1_takeFromLowest_16 : decode cX1_takeFromLowest 16 = .ok (.ifCond .le 4, 3) := by decide +kernel
theorem dX1_takeFromLowest_19 : decode cX1_takeFromLowest 19 = .ok (.return_, 1) := by decide +kernel
theorem dX1_takeFromLowest_20 : decode cX1_takeFromLowest 20 = .ok (.iconst 1, 1) := by decide +kernel
theorem dX1_takeFromLowest_21 : decode cX1_takeFromLowest 21 = .ok (.istore_n 2, 1) := by decide +kernel
theorem dX1_takeFromLowest_22 : decode cX1_takeFromLowest 22 = .ok (.iload_n 2, 1) := by decide +kernel
theorem dX1_takeFromLowest_23 : decode cX1_takeFromLowest 23 = .ok (.aload_n 0, 1) := by decide +kernel
theorem dX1_takeFromLowest_24 : decode cX1_takeFromLowest 24 = .ok (.getfield 18, 3) := by decide +kernel
theorem dX1_takeFromLowest_27 : decode cX1_takeFromLowest 27 = .ok (.if_icmp .ge 37, 3) := by decide +kernel
theorem dX1_takeFromLowest_30 : decode cX1_takeFromLowest 30 = .ok (.aload_n 0, 1) := by decide +kernel
theorem dX1_takeFromLowest_31 : decode cX1_takeFromLowest 31 = .ok (.getfield 9, 3) := by decide +kernel
theorem dX1_takeFromLowest_34 : decode cX1_takeFromLowest 34 = .ok (.iload_n 2, 1) := by decide +kernel
theorem dX1_takeFromLowest_35 : decode cX1_takeFromLowest 35 = .ok (.iconst 1, 1) := by decide +kernel
theorem dX1_takeFromLowest_36 : decode cX1_takeFromLowest 36 = .ok (.isub, 1) := by decide +kernel
theorem dX1_takeFromLowest_37 : decode cX1_takeFromLowest 37 = .ok (.aload_n 0, 1) := by decide +kernel
theorem dX1_takeFromLowest_38 : decode cX1_takeFromLowest 38 = .ok (.getfield 9, 3) := by decide +kernel
theorem dX1_takeFromLowest_41 : decode cX1_takeFromLowest 41 = .ok (.iload_n 2, 1) := by decide +kernel
theorem dX1_takeFromLowest_42 : decode cX1_takeFromLowest 42 = .ok (.iaload, 1) := by decide +kernel
theorem dX1_takeFromLowest_43 : decode cX1_takeFromLowest 43 = .ok (.iastore, 1) := by decide +kernel
theorem dX1_takeFromLowest_44 : decode cX1_takeFromLowest 44 = .ok (.aload_n 0, 1) := by decide +kernel
theorem dX1_takeFromLowest_45 : decode cX1_takeFromLowest 45 = .ok (.getfield 15, 3) := by decide +kernel
theorem dX1_takeFromLowest_48 : decode cX1_takeFromLowest 48 = .ok (.iload_n 2, 1) := by decide +kernel
theorem dX1_takeFromLowest_49 : decode cX1_takeFromLowest 49 = .ok (.iconst 1, 1) := by decide +kernel
theorem dX1_takeFromLowest_50 : decode cX1_takeFromLowest 50 = .ok (.isub, 1) := by decide +kernel
theorem dX1_takeFromLowest_51 : decode cX1_takeFromLowest 51 = .ok (.aload_n 0, 1) := by decide +kernel
theorem dX1_takeFromLowest_52 : decode cX1_takeFromLowest 52 = .ok (.getfield 15, 3) := by decide +kernel
theorem dX1_takeFromLowest_55 : decode cX1_takeFromLowest 55 = .ok (.iload_n 2, 1) := by decide +kernel
theorem dX1_takeFromLowest_56 : decode cX1_takeFromLowest 56 = .ok (.iaload, 1) := by decide +kernel
theorem dX1_takeFromLowest_57 : decode cX1_takeFromLowest 57 = .ok (.iastore, 1) := by decide +kernel
theorem dX1_takeFromLowest_58 : decode cX1_takeFromLowest 58 = .ok (.iinc 2 1, 3) := by decide +kernel
theorem dX1_takeFromLowest_61 : decode cX1_takeFromLowest 61 = .ok (.goto (-39), 3) := by decide +kernel
theorem dX1_takeFromLowest_64 : decode cX1_takeFromLowest 64 = .ok (.aload_n 0, 1) := by decide +kernel
theorem dX1_takeFromLowest_65 : decode cX1_takeFromLowest 65 = .ok (.dup, 1) := by decide +kernel
theorem dX1_takeFromLowest_66 : decode cX1_takeFromLowest 66 = .ok (.getfield 18, 3) := by decide +kernel
theorem dX1_takeFromLowest_69 : decode cX1_takeFromLowest 69 = .ok (.iconst 1, 1) := by decide +kernel
theorem dX1_takeFromLowest_70 : decode cX1_takeFromLowest 70 = .ok (.isub, 1) := by decide +kernel
theorem dX1_takeFromLowest_71 : decode cX1_takeFromLowest 71 = .ok (.putfield 18, 3) := by decide +kernel
theorem dX1_takeFromLowest_74 : decode cX1_takeFromLowest 74 = .ok (.aload_n 0, 1) := by decide +kernel
theorem dX1_takeFromLowest_75 : decode cX1_takeFromLowest 75 = .ok (.getfield 25, 3) := by decide +kernel
theorem dX1_takeFromLowest_78 : decode cX1_takeFromLowest 78 = .ok (.iconst 1, 1) := by decide +kernel
theorem dX1_takeFromLowest_79 : decode cX1_takeFromLowest 79 = .ok (.if_icmp .ne 8, 3) := by decide +kernel
theorem dX1_takeFromLowest_82 : decode cX1_takeFromLowest 82 = .ok (.aload_n 0, 1) := by decide +kernel
theorem dX1_takeFromLowest_83 : decode cX1_takeFromLowest 83 = .ok (.iconst 2, 1) := by decide +kernel
theorem dX1_takeFromLowest_84 : decode cX1_takeFromLowest 84 = .ok (.putfield 25, 3) := by decide +kernel
theorem dX1_takeFromLowest_87 : decode cX1_takeFromLowest 87 = .ok (.return_, 1) := by decide +kernel
theorem dX1_makeOlder_0 : decode cX1_makeOlder 0 = .ok (.iconst 0, 1) := by decide +kernel
theorem dX1_makeOlder_1 : decode cX1_makeOlder 1 = .ok (.istore_n 1, 1) := by decide +kernel
theorem dX1_makeOlder_2 : decode cX1_makeOlder 2 = .ok (.iload_n 1, 1) := by decide +kernel
theorem dX1_makeOlder_3 : decode cX1_makeOlder 3 = .ok (.aload_n 0, 1) := by decide +kernel
theorem dX1_makeOlder_4 : decode cX1_makeOlder 4 = .ok (.getfield 18, 3) := by decide +kernel
theorem dX1_makeOlder_7 : decode cX1_makeOlder 7 = .ok (.if_icmp .ge 19, 3) := by decide +kernel
theorem dX1_makeOlder_10 : decode cX1_makeOlder 10 = .ok (.aload_n 0, 1) := by decide +kernel
theorem dX1_makeOlder_11 : decode cX1_makeOlder 11 = .ok (.getfield 15, 3) := by decide +kernel
theorem dX1_makeOlder_14 : decode cX1_makeOlder 14 = .ok (.iload_n 1, 1) := by decide +kernel
theorem dX1_makeOlder_15 : decode cX1_makeOlder 15 = .ok (.dup2, 1) := by decide +kernel
theorem dX1_makeOlder_16 : decode cX1_makeOlder 16 = .ok (.iaload, 1) := by decide +kernel
theorem dX1_makeOlder_17 : decode cX1_makeOlder 17 = .ok (.iconst 1, 1) := by decide +kernel
theorem dX1_makeOlder_18 : decode cX1_makeOlder 18 = .ok (.iadd, 1) := by decide +kernel
theorem dX1_makeOlder_19 : decode cX1_makeOlder 19 = .ok (.iastore, 1) := by decide +kernel
theorem dX1_makeOlder_20 : decode cX1_makeOlder 20 = .ok (.iinc 1 1, 3) := by decide +kernel
theorem dX1_makeOlder_23 : decode cX1_makeOlder 23 = .ok (.goto (-21), 3) := by decide +kernel
theorem dX1_makeOlder_26 : decode cX1_makeOlder 26 = .ok (.return_, 1) := by decide +kernel
theorem dX1_makeLowestYounger_0 : decode cX1_makeLowestYounger 0 = .ok (.aload_n 0, 1) := by decide +kernel
theorem dX1_makeLowestYounger_1 : decode cX1_makeLowestYounger 1 = .ok (.getfield 15, 3) := by decide +kernel
theorem dX1_makeLowestYounger_4 : decode cX1_makeLowestYounger 4 = .ok (.iconst 0, 1) := by decide +kernel
theorem dX1_makeLowestYounger_5 : decode cX1_makeLowestYounger 5 = .ok (.iconst 0, 1) := by decide +kernel
theorem dX1_makeLowestYounger_6 : decode cX1_makeLowestYounger 6 = .ok (.aload_n 0, 1) := by decide +kernel
theorem dX1_makeLowestYounger_7 : decode cX1_makeLowestYounger 7 = .ok (.getfield 15, 3) := by decide +kernel
theorem dX1_makeLowestYounger_10 : decode cX1_makeLowestYounger 10 = .ok (.iconst 0, 1) := by decide +kernel
theorem dX1_makeLowestYounger_11 : decode cX1_makeLowestYounger 11 = .ok (.iaload, 1) := by decide +kernel
theorem dX1_makeLowestYounger_12 : decode cX1_makeLowestYounger 12 = .ok (.iconst 1, 1) := by decide +kernel
theorem dX1_makeLowestYounger_13 : decode cX1_makeLowestYounger 13 = .ok (.isub, 1) := by decide +kernel
theorem dX1_makeLowestYounger_14 : decode cX1_makeLowestYounger 14 = .ok (.invokestatic 48, 3) := by decide +kernel
theorem dX1_makeLowestYounger_17 : decode cX1_makeLowestYounger 17 = .ok (.iastore, 1) := by decide +kernel
theorem dX1_makeLowestYounger_18 : decode cX1_makeLowestYounger 18 = .ok (.return_, 1) := by decide +kernel
theorem dX2_init_0 : decode cX2_init 0 = .ok (.aload_n 0, 1) := by decide +kernel
theorem dX2_init_1 : decode cX2_init 1 = .ok (.invokespecial 3, 3) := by decide +kernel
theorem dX2_init_4 : decode cX2_init 4 = .ok (.aload_n 0, 1) := by decide +kernel
theorem dX2_init_5 : decode cX2_init 5 = .ok (.iconst 0, 1) := by decide +kernel
theorem dX2_init_6 : decode cX2_init 6 = .ok (.putfield 11, 3) := by decide +kernel
theorem dX2_init_9 : decode cX2_init 9 = .ok (.aload_n 0, 1) := by decide +kernel
theorem dX2_init_10 : decode cX2_init 10 = .ok (.iconst 0, 1) := by decide +kernel
theorem dX2_init_11 : decode cX2_init 11 = .ok (.putfield 15, 3) := by decide +kernel
theorem dX2_init_14 : decode cX2_init 14 = .ok (.aload_n 0, 1) := by decide +kernel
theorem dX2_init_15 : decode cX2_init 15 = .ok (.iconst 0, 1) := by decide +kernel
theorem dX2_init_16 : decode cX2_init 16 = .ok (.putfield 18, 3) := by decide +kernel
theorem dX2_init_19 : decode cX2_init 19 = .ok (.aload_n 0, 1) := by decide +kernel
theorem dX2_init_20 : decode cX2_init 20 = .ok (.bipush 43, 2) := by decide +kernel
theorem dX2_init_22 : decode cX2_init 22 = .ok (.putfield 21, 3) := by decide +kernel
theorem dX2_init_25 : decode cX2_init 25 = .ok (.aload_n 0, 1) := by decide +kernel
theorem dX2_init_26 : decode cX2_init 26 = .ok (.iconst 1, 1) := by decide +kernel
theorem dX2_init_27 : decode cX2_init 27 = .ok (.putfield 24, 3) := by decide +kernel
theorem dX2_init_30 : decode cX2_init 30 = .ok (.return_, 1) := by decide +kernel
set_option maxRecDepth 20000 in
theorem ggX3_init_X1_init : GoodIn wsX3_init wsX1_init := goodIn_r _ [26, 27, 2, 3, 28, 29, 30, 31, 32, 33, 34, 49, 50, 51, 52, 53, 54] (by decide +kernel) (by decide +kernel)
set_option maxRecDepth 20000 in
theorem gX3_init_X1_init_n54 : GoodIn wsX3_init (wsX1_init) := ggX3_init_X1_init
set_option maxRecDepth 20000 in
theorem ggX3_init_X0_init : GoodIn wsX3_init wsX0_init := goodIn_r _ [36, 37, 2, 3, 38, 39, 55, 56] (by decide +kernel) (by decide +kernel)
set_option maxRecDepth 20000 in
theorem gX3_init_X0_init_n55 : GoodIn wsX3_init (wsX0_init) := ggX3_init_X0_init
theorem dX3_init_0 : decode cX3_init 0 = .ok (.aload_n 0, 1) := by decide +kernel
theorem dX3_init_1 : decode cX3_init 1 = .ok (.invokespecial 3, 3) := by decide +kernel
theorem dX3_init_4 : decode cX3_init 4 = .ok (.aload_n 0, 1) := by decide +kernel
theorem dX3_init_5 : decode cX3_init 5 = .ok (.iconst 4, 1) := by decide +kernel
theorem dX3_init_6 : decode cX3_init 6 = .ok (.anewarray 9, 3) := by decide +kernel
theorem dX3_init_9 : decode cX3_init 9 = .ok (.putfield 11, 3) := by decide +kernel
theorem dX3_init_12 : decode cX3_init 12 = .ok (.aload_n 0, 1) := by decide +kernel
theorem dX3_init_13 : decode cX3_init 13 = .ok (.bipush 6, 2) := by decide +kernel
theorem dX3_init_15 : decode cX3_init 15 = .ok (.anewarray 17, 3) := by decide +kernel
theorem dX3_init_18 : decode cX3_init 18 = .ok (.putfield 19, 3) := by decide +kernel
theorem dX3_init_21 : decode cX3_init 21 = .ok (.aload_n 0, 1) := by decide +kernel
theorem dX3_init_22 : decode cX3_init 22 = .ok (.getstatic 23, 3) := by decide +kernel
theorem dX3_init_25 : decode cX3_init 25 = .ok (.invokevirtual 27, 3) := by decide +kernel
theorem dX3_init_28 : decode cX3_init 28 = .ok (.checkcast 28, 3) := by decide +kernel
theorem dX3_init_31 : decode cX3_init 31 = .ok (.putfield 32, 3) := by decide +kernel
theorem dX3_init_34 : decode cX3_init 34 = .ok (.aload_n 0, 1) := by decide +kernel
theorem dX3_init_35 : decode cX3_init 35 = .ok (.iconst 0, 1) := by decide +kernel
theorem dX3_init_36 : decode cX3_init 36 = .ok (.putfield 35, 3) := by decide +kernel
theorem dX3_init_39 : decode cX3_init 39 = .ok (.aload_n 0, 1) := by decide +kernel
theorem dX3_init_40 : decode cX3_init 40 = .ok (.iconst 0, 1) := by decide +kernel
theorem dX3_init_41 : decode cX3_init 41 = .ok (.putfield 39, 3) := by decide +kernel
theorem dX3_init_44 : decode cX3_init 44 = .ok (.aload_n 0, 1) := by decide +kernel
theorem dX3_init_45 : decode cX3_init 45 = .ok (.iconst 0, 1) := by decide +kernel
theorem dX3_init_46 : decode cX3_init 46 = .ok (.putfield 42, 3) := by decide +kernel
theorem dX3_init_49 : decode cX3_init 49 = .ok (.aload_n 0, 1) := by decide +kernel
theorem dX3_init_50 : decode cX3_init 50 = .ok (.iconst 0, 1) := by decide +kernel
theorem dX3_init_51 : decode cX3_init 51 = .ok (.putfield 45, 3) := by decide +kernel
theorem dX3_init_54 : decode cX3_init 54 = .ok (.aload_n 0, 1) := by decide +kernel
theorem dX3_init_55 : decode cX3_init 55 = .ok (.iconst 0, 1) := by decide +kernel
theorem dX3_init_56 : decode cX3_init 56 = .ok (.putfield 48, 3) := by decide +kernel
theorem dX3_init_59 : decode cX3_init 59 = .ok (.aload_n 0, 1) := by decide +kernel
theorem dX3_init_60 : decode cX3_init 60 = .ok (.iconst 0, 1) := by decide +kernel
theorem dX3_init_61 : decode cX3_init 61 = .ok (.putfield 51, 3) := by decide +kernel
theorem dX3_init_64 : decode cX3_init 64 = .ok (.iconst 0, 1) := by decide +kernel
theorem dX3_init_65 : decode cX3_init 65 = .ok (.istore_n 1, 1) := by decide +kernel
theorem dX3_init_66 : decode cX3_init 66 = .ok (.iload_n 1, 1) := by decide +kernel
theorem dX3_init_67 : decode cX3_init 67 = .ok (.aload_n 0, 1) := by decide +kernel
theorem dX3_init_68 : decode cX3_init 68 = .ok (.getfield 11, 3) := by decide +kernel
theorem dX3_init_71 : decode cX3_init 71 = .ok (.arraylength, 1) := by decide +kernel
theorem dX3_init_72 : decode cX3_init 72 = .ok (.if_icmp .ge 22, 3) := by decide +kernel
theorem dX3_init_75 : decode cX3_init 75 = .ok (.aload_n 0, 1) := by decide +kernel
theorem dX3_init_76 : decode cX3_init 76 = .ok (.getfield 11, 3) := by decide +kernel
theorem dX3_init_79 : decode cX3_init 79 = .ok (.iload_n 1, 1) := by decide +kernel
theorem dX3_init_80 : decode cX3_init 80 = .ok (.new 9, 3) := by decide +kernel
theorem dX3_init_83 : decode cX3_init 83 = .ok (.dup, 1) := by decide +kernel
theorem dX3_init_84 : decode cX3_init 84 = .ok (.invokespecial 54, 3) := by decide +kernel
theorem dX3_init_87 : decode cX3_init 87 = .ok (.aastore, 1) := by decide +kernel
theorem dX3_init_88 : decode cX3_init 88 = .ok (.iinc 1 1, 3) := by decide +kernel
theorem dX3_init_91 : decode cX3_init 91 = .ok (.goto (-25), 3) := by decide +kernel
theorem dX3_init_94 : decode cX3_init 94 = .ok (.iconst 0, 1) := by decide +kernel
theorem dX3_init_95 : decode cX3_init 95 = .ok (.istore_n 1, 1) := by decide +kernel
theorem dX3_init_96 : decode cX3_init 96 = .ok (.iload_n 1, 1) := by decide +kernel
theorem dX3_init_97 : decode cX3_init 97 = .ok (.aload_n 0, 1) := by decide +kernel
theorem dX3_init_98 : decode cX3_init 98 = .ok (.getfield 19, 3) := by decide +kernel
theorem dX3_init_101 : decode cX3_init 101 = .ok (.arraylength, 1) := by decide +kernel
theorem dX3_init_102 : decode cX3_init 102 = .ok (.if_icmp .ge 22, 3) := by decide +kernel
theorem dX3_init_105 : decode cX3_init 105 = .ok (.aload_n 0, 1) := by decide +kernel
theorem dX3_init_106 : decode cX3_init 106 = .ok (.getfield 19, 3) := by decide +kernel
theorem dX3_init_109 : decode cX3_init 109 = .ok (.iload_n 1, 1) := by decide +kernel
theorem dX3_init_110 : decode cX3_init 110 = .ok (.new 17, 3) := by decide +kernel
theorem dX3_init_113 : decode cX3_init 113 = .ok (.dup, 1) := by decide +kernel
theorem dX3_init_114 : decode cX3_init 114 = .ok (.invokespecial 55, 3) := by decide +kernel
theorem dX3_init_117 : decode cX3_init 117 = .ok (.aastore, 1) := by decide +kernel
theorem dX3_init_118 : decode cX3_init 118 = .ok (.iinc 1 1, 3) := by decide +kernel
theorem dX3_init_121 : decode cX3_init 121 = .ok (.goto (-25), 3) := by decide +kernel
theorem dX3_init_124 : decode cX3_init 124 = .ok (.return_, 1) := by decide +kernel
set_option maxRecDepth 20000 in
theorem ggX3_becomeLike_X1_becomeLike : GoodIn wsX3_becomeLike wsX1_becomeLike := goodIn_r _ [14, 15, 16, 17, 18, 19, 20, 37, 38, 39, 40, 41, 42] (by decide +kernel) (by decide +kernel)
set_option maxRecDepth 20000 in
theorem gX3_becomeLike_X1_becomeLike : GoodIn wsX3_becomeLike (wsV RX3 56 RX1 yX1_becomeLike wsX1_becomeLike) := goodIn_app (goodIn_of _ (by decide +kernel)) ggX3_becomeLike_X1_becomeLike
set_option maxRecDepth 20000 in
theorem ggX3_becomeLike_X0_becomeLike : GoodIn wsX3_becomeLike wsX0_becomeLike := goodIn_r _ [25, 26, 27, 43, 44] (by decide +kernel) (by decide +kernel)
set_option maxRecDepth 20000 in
theorem gX3_becomeLike_X0_becomeLike : GoodIn wsX3_becomeLike (wsV RX3 60 RX0 yX0_becomeLike wsX0_becomeLike) := goodIn_app (goodIn_of _ (by decide +kernel)) ggX3_becomeLike_X0_becomeLike
theorem dX3_becomeLike_0 : decode cX3_becomeLike 0 = .ok (.iconst 0, 1) := by decide +kernel
theorem dX3_becomeLike_1 : decode cX3_becomeLike 1 = .ok (.istore_n 2, 1) := by decide +kernel
theorem dX3_becomeLike_2 : decode cX3_becomeLike 2 = .ok (.iload_n 2, 1) := by decide +kernel
theorem dX3_becomeLike_3 : decode cX3_becomeLike 3 = .ok (.iconst 4, 1) := by decide +kernel
theorem dX3_becomeLike_4 : decode cX3_becomeLike 4 = .ok (.if_icmp .ge 24, 3) := by decide +kernel
theorem dX3_becomeLike_7 : decode cX3_becomeLike 7 = .ok (.aload_n 0, 1) := by decide +kernel
theorem dX3_becomeLike_8 : decode cX3_becomeLike 8 = .ok (.getfield 11, 3) := by decide +kernel
theorem dX3_becomeLike_11 : decode cX3_becomeLike 11 = .ok (.iload_n 2, 1) := by decide +kernel
theorem dX3_becomeLike_12 : decode cX3_becomeLike 12 = .ok (.aaload, 1) := by decide +kernel
theorem dX3_becomeLike_13 : decode cX3_becomeLike 13 = .ok (.aload_n 1, 1) := by decide +kernel
theorem dX3_becomeLike_14 : decode cX3_becomeLike 14 = .ok (.getfield 11, 3) := by decide +kernel
theorem dX3_becomeLike_17 : decode cX3_becomeLike 17 = .ok (.iload_n 2, 1) := by decide +kernel
theorem dX3_becomeLike_18 : decode cX3_becomeLike 18 = .ok (.aaload, 1) := by decide +kernel
theorem dX3_becomeLike_19 : decode cX3_becomeLike 19 = .ok (.invokevirtual 56, 3) := by decide +kernel
theorem dX3_becomeLike_22 : decode cX3_becomeLike 22 = .ok (.iinc 2 1, 3) := by decide +kernel
theorem dX3_becomeLike_25 : decode cX3_becomeLike 25 = .ok (.goto (-23), 3) := by decide +kernel
theorem dX3_becomeLike_28 : decode cX3_becomeLike 28 = .ok (.iconst 0, 1) := by decide +kernel
theorem dX3_becomeLike_29 : decode cX3_becomeLike 29 = .ok (.istore_n 2, 1) := by decide +kernel
theorem dX3_becomeLike_30 : decode cX3_becomeLike 30 = .ok (.iload_n 2, 1) := by decide +kernel
theorem dX3_becomeLike_31 : decode cX3_becomeLike 31 = .ok (.bipush 6, 2) := by decide +kernel
theorem dX3_becomeLike_33 : decode cX3_becomeLike 33 = .ok (.if_icmp .ge 24, 3) := by decide +kernel
theorem dX3_becomeLike_36 : decode cX3_becomeLike 36 = .ok (.aload_n 0, 1) := by decide +kernel
theorem dX3_becomeLike_37 : decode cX3_becomeLike 37 = .ok (.getfield 19, 3) := by decide +kernel
theorem dX3_becomeLike_40 : decode cX3_becomeLike 40 = .ok (.iload_n 2, 1) := by decide +kernel
theorem dX3_becomeLike_41 : decode cX3_becomeLike 41 = .ok (.aaload, 1) := by decide +kernel
theorem dX3_becomeLike_42 : decode cX3_becomeLike 42 = .ok (.aload_n 1, 1) := by decide +kernel
theorem dX3_becomeLike_43 : decode cX3_becomeLike 43 = .ok (.getfield 19, 3) := by decide +kernel
theorem dX3_becomeLike_46 : decode cX3_becomeLike 46 = .ok (.iload_n 2, 1) := by decide +kernel
theorem dX3_becomeLike_47 : decode cX3_becomeLike 47 = .ok (.aaload, 1) := by decide +kernel
theorem dX3_becomeLike_48 : decode cX3_becomeLike 48 = .ok (.invokevirtual 60, 3) := by decide +kernel
theorem dX3_becomeLike_51 : decode cX3_becomeLike 51 = .ok (.iinc 2 1, 3) := by decide +kernel
theorem dX3_becomeLike_54 : decode cX3_becomeLike 54 = .ok (.goto (-24), 3) := by decide +kernel
theorem dX3_becomeLike_57 : decode cX3_becomeLike 57 = .ok (.iconst 0, 1) := by decide +kernel
theorem dX3_becomeLike_58 : decode cX3_becomeLike 58 = .ok (.istore_n 2, 1) := by decide +kernel
theorem dX3_becomeLike_59 : decode cX3_becomeLike 59 = .ok (.iload_n 2, 1) := by decide +kernel
theorem dX3_becomeLike_60 : decode cX3_becomeLike 60 = .ok (.aload_n 0, 1) := by decide +kernel
theorem dX3_becomeLike_61 : decode cX3_becomeLike 61 = .ok (.getfield 32, 3) := by decide +kernel
theorem dX3_becomeLike_64 : decode cX3_becomeLike 64 = .ok (.arraylength, 1) := by decide +kernel
theorem dX3_becomeLike_65 : decode cX3_becomeLike 65 = .ok (.if_icmp .ge 30, 3) := by decide +kernel
theorem dX3_becomeLike_68 : decode cX3_becomeLike 68 = .ok (.iload_n 2, 1) := by decide +kernel
theorem dX3_becomeLike_69 : decode cX3_becomeLike 69 = .ok (.aload_n 1, 1) := by decide +kernel
theorem dX3_becomeLike_70 : decode cX3_becomeLike 70 = .ok (.getfield 32, 3) := by decide +kernel
theorem dX3_becomeLike_73 : decode cX3_becomeLike 73 = .ok (.arraylength, 1) := by decide +kernel
theorem dX3_becomeLike_74 : decode cX3_becomeLike 74 = .ok (.if_icmp .ge 21, 3) := by decide +kernel
theorem dX3_becomeLike_77 : decode cX3_becomeLike 77 = .ok (.aload_n 0, 1) := by decide +kernel
theorem dX3_becomeLike_78 : decode cX3_becomeLike 78 = .ok (.getfield 32, 3) := by decide +kernel
theorem dX3_becomeLike_81 : decode cX3_becomeLike 81 = .ok (.iload_n 2, 1) := by decide +kernel
theorem dX3_becomeLike_82 : decode cX3_becomeLike 82 = .ok (.aload_n 1, 1) := by decide +kernel
theorem dX3_becomeLike_83 : decode cX3_becomeLike 83 = .ok (.getfield 32, 3) := by decide +kernel
theorem dX3_becomeLike_86 : decode cX3_becomeLike 86 = .ok (.iload_n 2, 1) := by decide +kernel
theorem dX3_becomeLike_87 : decode cX3_becomeLike 87 = .ok (.iaload, 1) := by decide +kernel
theorem dX3_becomeLike_88 : decode cX3_becomeLike 88 = .ok (.iastore, 1) := by decide +kernel
theorem dX3_becomeLike_89 : decode cX3_becomeLike 89 = .ok (.iinc 2 1, 3) := by decide +kernel
theorem dX3_becomeLike_92 : decode cX3_becomeLike 92 = .ok (.goto (-33), 3) := by decide +kernel
theorem dX3_becomeLike_95 : decode cX3_becomeLike 95 = .ok (.aload_n 0, 1) := by decide +kernel
theorem dX3_becomeLike_96 : decode cX3_becomeLike 96 = .ok (.aload_n 1, 1) := by decide +kernel
theorem dX3_becomeLike_97 : decode cX3_becomeLike 97 = .ok (.getfield 35, 3) := by decide +kernel
theorem dX3_becomeLike_100 : decode cX3_becomeLike 100 = .ok (.putfield 35, 3) := by decide +kernel
theorem dX3_becomeLike_103 : decode cX3_becomeLike 103 = .ok (.aload_n 0, 1) := by decide +kernel
theorem dX3_becomeLike_104 : decode cX3_becomeLike 104 = .ok (.aload_n 1, 1) := by decide +kernel
theorem dX3_becomeLike_105 : decode cX3_becomeLike 105 = .ok (.getfield 39, 3) := by decide +kernel
theorem dX3_becomeLike_108 : decode cX3_becomeLike 108 = .ok (.putfield 39, 3) := by decide +kernel
theorem dX3_becomeLike_111 : decode cX3_becomeLike 111 = .ok (.aload_n 0, 1) := by decide +kernel
theorem dX3_becomeLike_112 : decode cX3_becomeLike 112 = .ok (.aload_n 1, 1) := by decide +kernel
theorem dX3_becomeLike_113 : decode cX3_becomeLike 113 = .ok (.getfield 42, 3) := by decide +kernel
theorem dX3_becomeLike_116 : decode cX3_becomeLike 116 = .ok (.putfield 42, 3) := by decide +kernel
theorem dX3_becomeLike_119 : decode cX3_becomeLike 119 = .ok (.aload_n 0, 1) := by decide +kernel
theorem dX3_becomeLike_120 : decode cX3_becomeLike 120 = .ok (.aload_n 1, 1) := by decide +kernel
theorem dX3_becomeLike_121 : decode cX3_becomeLike 121 = .ok (.getfield 45, 3) := by decide +kernel
theorem dX3_becomeLike_124 : decode cX3_becomeLike 124 = .ok (.putfield 45, 3) := by decide +kernel
theorem dX3_becomeLike_127 : decode cX3_becomeLike 127 = .ok (.aload_n 0, 1) := by decide +kernel
theorem dX3_becomeLike_128 : decode cX3_becomeLike 128 = .ok (.aload_n 1, 1) := by decide +kernel
theorem dX3_becomeLike_129 : decode cX3_becomeLike 129 = .ok (.getfield 48, 3) := by decide +kernel
theorem dX3_becomeLike_132 : decode cX3_becomeLike 132 = .ok (.putfield 48, 3) := by decide +kernel
theorem dX3_becomeLike_135 : decode cX3_becomeLike 135 = .ok (.aload_n 0, 1) := by decide +kernel
theorem dX3_becomeLike_136 : decode cX3_becomeLike 136 = .ok (.aload_n 1, 1) := by decide +kernel
theorem dX3_becomeLike_137 : decode cX3_becomeLike 137 = .ok (.getfield 51, 3) := by decide +kernel
theorem dX3_becomeLike_140 : decode cX3_becomeLike 140 = .ok (.putfield 51, 3) := by decide +kernel
theorem dX3_becomeLike_143 : decode cX3_becomeLike 143 = .ok (.return_, 1) := by decide +kernel
set_option maxRecDepth 20000 in
theorem ggX3_siloTonnes_X1_total : GoodIn wsX3_siloTonnes wsX1_total := goodIn_r _ [6, 7, 8, 9, 5, 10, 11, 12, 22, 23, 24, 25, 26, 27] (by decide +kernel) (by decide +kernel)
set_option maxRecDepth 20000 in
theorem gX3_siloTonnes_X1_total : GoodIn wsX3_siloTonnes (wsV RX3 63 RX1 yX1_total wsX1_total) := goodIn_app (goodIn_of _ (by decide +kernel)) ggX3_siloTonnes_X1_total
theorem dX3_siloTonnes_0 : decode cX3_siloTonnes 0 = .ok (.iconst 0, 1) := by decide +kernel
theorem dX3_siloTonnes_1 : decode cX3_siloTonnes 1 = .ok (.istore_n 1, 1) := by decide +kernel
theorem dX3_siloTonnes_2 : decode cX3_siloTonnes 2 = .ok (.iconst 0, 1) := by decide +kernel
theorem dX3_siloTonnes_3 : decode cX3_siloTonnes 3 = .ok (.istore_n 2, 1) := by decide +kernel
theorem dX3_siloTonnes_4 : decode cX3_siloTonnes 4 = .ok (.iload_n 2, 1) := by decide +kernel
theorem dX3_siloTonnes_5 : decode cX3_siloTonnes 5 = .ok (.iconst 4, 1) := by decide +kernel
theorem dX3_siloTonnes_6 : decode cX3_siloTonnes 6 = .ok (.if_icmp .ge 21, 3) := by decide +kernel
theorem dX3_siloTonnes_9 : decode cX3_siloTonnes 9 = .ok (.iload_n 1, 1) := by decide +kernel
theorem dX3_siloTonnes_10 : decode cX3_siloTonnes 10 = .ok (.aload_n 0, 1) := by decide +kernel
theorem dX3_siloTonnes_11 : decode cX3_siloTonnes 11 = .ok (.getfield 11, 3) := by decide +kernel
theorem dX3_siloTonnes_14 : decode cX3_siloTonnes 14 = .ok (.iload_n 2, 1) := by decide +kernel
theorem dX3_siloTonnes_15 : decode cX3_siloTonnes 15 = .ok (.aaload, 1) := by decide +kernel
theorem dX3_siloTonnes_16 : decode cX3_siloTonnes 16 = .ok (.invokevirtual 63, 3) := by decide +kernel
theorem dX3_siloTonnes_19 : decode cX3_siloTonnes 19 = .ok (.iadd, 1) := by decide +kernel
theorem dX3_siloTonnes_20 : decode cX3_siloTonnes 20 = .ok (.istore_n 1, 1) := by decide +kernel
theorem dX3_siloTonnes_21 : decode cX3_siloTonnes 21 = .ok (.iinc 2 1, 3) := by decide +kernel
theorem dX3_siloTonnes_24 : decode cX3_siloTonnes 24 = .ok (.goto (-20), 3) := by decide +kernel
theorem dX3_siloTonnes_27 : decode cX3_siloTonnes 27 = .ok (.iload_n 1, 1) := by decide +kernel
theorem dX3_siloTonnes_28 : decode cX3_siloTonnes 28 = .ok (.ireturn, 1) := by decide +kernel
theorem dX3_shipTonnes_0 : decode cX3_shipTonnes 0 = .ok (.iconst 0, 1) := by decide +kernel
theorem dX3_shipTonnes_1 : decode cX3_shipTonnes 1 = .ok (.istore_n 1, 1) := by decide +kernel
theorem dX3_shipTonnes_2 : decode cX3_shipTonnes 2 = .ok (.iconst 0, 1) := by decide +kernel
theorem dX3_shipTonnes_3 : decode cX3_shipTonnes 3 = .ok (.istore_n 2, 1) := by decide +kernel
theorem dX3_shipTonnes_4 : decode cX3_shipTonnes 4 = .ok (.iload_n 2, 1) := by decide +kernel
theorem dX3_shipTonnes_5 : decode cX3_shipTonnes 5 = .ok (.bipush 6, 2) := by decide +kernel
theorem dX3_shipTonnes_7 : decode cX3_shipTonnes 7 = .ok (.if_icmp .ge 21, 3) := by decide +kernel
theorem dX3_shipTonnes_10 : decode cX3_shipTonnes 10 = .ok (.iload_n 1, 1) := by decide +kernel
theorem dX3_shipTonnes_11 : decode cX3_shipTonnes 11 = .ok (.aload_n 0, 1) := by decide +kernel
theorem dX3_shipTonnes_12 : decode cX3_shipTonnes 12 = .ok (.getfield 19, 3) := by decide +kernel
theorem dX3_shipTonnes_15 : decode cX3_shipTonnes 15 = .ok (.iload_n 2, 1) := by decide +kernel
theorem dX3_shipTonnes_16 : decode cX3_shipTonnes 16 = .ok (.aaload, 1) := by decide +kernel
theorem dX3_shipTonnes_17 : decode cX3_shipTonnes 17 = .ok (.getfield 67, 3) := by decide +kernel
theorem dX3_shipTonnes_20 : decode cX3_shipTonnes 20 = .ok (.iadd, 1) := by decide +kernel
theorem dX3_shipTonnes_21 : decode cX3_shipTonnes 21 = .ok (.istore_n 1, 1) := by decide +kernel
theorem dX3_shipTonnes_22 : decode cX3_shipTonnes 22 = .ok (.iinc 2 1, 3) := by decide +kernel
theorem dX3_shipTonnes_25 : decode cX3_shipTonnes 25 = .ok (.goto (-21), 3) := by decide +kernel
theorem dX3_shipTonnes_28 : decode cX3_shipTonnes 28 = .ok (.iload_n 1, 1) := by decide +kernel
theorem dX3_shipTonnes_29 : decode cX3_shipTonnes 29 = .ok (.ireturn, 1) := by decide +kernel
theorem dX3_padsOn_0 : decode cX3_padsOn 0 = .ok (.iconst 0, 1) := by decide +kernel
theorem dX3_padsOn_1 : decode cX3_padsOn 1 = .ok (.istore_n 1, 1) := by decide +kernel
theorem dX3_padsOn_2 : decode cX3_padsOn 2 = .ok (.iconst 0, 1) := by decide +kernel
theorem dX3_padsOn_3 : decode cX3_padsOn 3 = .ok (.istore_n 2, 1) := by decide +kernel
theorem dX3_padsOn_4 : decode cX3_padsOn 4 = .ok (.iload_n 2, 1) := by decide +kernel
theorem dX3_padsOn_5 : decode cX3_padsOn 5 = .ok (.iconst 4, 1) := by decide +kernel
theorem dX3_padsOn_6 : decode cX3_padsOn 6 = .ok (.if_icmp .ge 21, 3) := by decide +kernel
theorem dX3_padsOn_9 : decode cX3_padsOn 9 = .ok (.iload_n 1, 1) := by decide +kernel
theorem dX3_padsOn_10 : decode cX3_padsOn 10 = .ok (.aload_n 0, 1) := by decide +kernel
theorem dX3_padsOn_11 : decode cX3_padsOn 11 = .ok (.getfield 11, 3) := by decide +kernel
theorem dX3_padsOn_14 : decode cX3_padsOn 14 = .ok (.iload_n 2, 1) := by decide +kernel
theorem dX3_padsOn_15 : decode cX3_padsOn 15 = .ok (.aaload, 1) := by decide +kernel
theorem dX3_padsOn_16 : decode cX3_padsOn 16 = .ok (.getfield 70, 3) := by decide +kernel
theorem dX3_padsOn_19 : decode cX3_padsOn 19 = .ok (.iadd, 1) := by decide +kernel
theorem dX3_padsOn_20 : decode cX3_padsOn 20 = .ok (.istore_n 1, 1) := by decide +kernel
theorem dX3_padsOn_21 : decode cX3_padsOn 21 = .ok (.iinc 2 1, 3) := by decide +kernel
theorem dX3_padsOn_24 : decode cX3_padsOn 24 = .ok (.goto (-20), 3) := by decide +kernel
theorem dX3_padsOn_27 : decode cX3_padsOn 27 = .ok (.iload_n 1, 1) := by decide +kernel
theorem dX3_padsOn_28 : decode cX3_padsOn 28 = .ok (.ireturn, 1) := by decide +kernel
theorem dX3_arches_0 : decode cX3_arches 0 = .ok (.iconst 0, 1) := by decide +kernel
theorem dX3_arches_1 : decode cX3_arches 1 = .ok (.istore_n 1, 1) := by decide +kernel
theorem dX3_arches_2 : decode cX3_arches 2 = .ok (.iconst 0, 1) := by decide +kernel
theorem dX3_arches_3 : decode cX3_arches 3 = .ok (.istore_n 2, 1) := by decide +kernel
theorem dX3_arches_4 : decode cX3_arches 4 = .ok (.iload_n 2, 1) := by decide +kernel
theorem dX3_arches_5 : decode cX3_arches 5 = .ok (.iconst 4, 1) := by decide +kernel
theorem dX3_arches_6 : decode cX3_arches 6 = .ok (.if_icmp .ge 29, 3) := by decide +kernel
theorem dX3_arches_9 : decode cX3_arches 9 = .ok (.iload_n 1, 1) := by decide +kernel
theorem dX3_arches_10 : decode cX3_arches 10 = .ok (.aload_n 0, 1) := by decide +kernel
theorem dX3_arches_11 : decode cX3_arches 11 = .ok (.getfield 11, 3) := by decide +kernel
theorem dX3_arches_14 : decode cX3_arches 14 = .ok (.iload_n 2, 1) := by decide +kernel
theorem dX3_arches_15 : decode cX3_arches 15 = .ok (.aaload, 1) := by decide +kernel
theorem dX3_arches_16 : decode cX3_arches 16 = .ok (.getfield 73, 3) := by decide +kernel
theorem dX3_arches_19 : decode cX3_arches 19 = .ok (.ifCond .ne 7, 3) := by decide +kernel
theorem dX3_arches_22 : decode cX3_arches 22 = .ok (.iconst 0, 1) := by decide +kernel
theorem dX3_arches_23 : decode cX3_arches 23 = .ok (.goto 4, 3) := by decide +kernel
theorem dX3_arches_26 : decode cX3_arches 26 = .ok (.iconst 1, 1) := by decide +kernel
theorem dX3_arches_27 : decode cX3_arches 27 = .ok (.iadd, 1) := by decide +kernel
theorem dX3_arches_28 : decode cX3_arches 28 = .ok (.istore_n 1, 1) := by decide +kernel
theorem dX3_arches_29 : decode cX3_arches 29 = .ok (.iinc 2 1, 3) := by decide +kernel
theorem dX3_arches_32 : decode cX3_arches 32 = .ok (.goto (-28), 3) := by decide +kernel
theorem dX3_arches_35 : decode cX3_arches 35 = .ok (.iload_n 1, 1) := by decide +kernel
theorem dX3_arches_36 : decode cX3_arches 36 = .ok (.ireturn, 1) := by decide +kernel
end
section
set_option maxRecDepth 20000 in
theorem ggX4_init_X3_init : GoodIn wsX4_init wsX3_init := goodIn_r _ [27, 28, 2, 3, 29, 30, 31, 32, 33, 34, 35, 36, 37, 38, 39, 40, 41, 42, 43, 44, 45, 18, 19, 22, 23, 46, 47, 48, 10, 49, 50, 51, 52, 53, 54, 55, 56, 57, 58, 59, 68, 69, 70, 71, 72, 73, 74, 75, 76, 90, 91, 92, 93, 94, 95, 96, 97] (by decide +kernel) (by decide +kernel)
set_option maxRecDepth 20000 in
theorem gX4_init_X3_init : GoodIn wsX4_init (wsX3_init) := ggX4_init_X3_init
set_option maxRecDepth 20000 in
theorem ggX4_init_X2_init : GoodIn wsX4_init wsX2_init := goodIn_r _ [61, 62, 2, 3, 63, 64, 65, 66, 67, 85, 86, 87, 88, 89] (by decide +kernel) (by decide +kernel)
set_option maxRecDepth 20000 in
theorem gX4_init_X2_init_n33 : GoodIn wsX4_init (wsX2_init) := ggX4_init_X2_init
set_option maxRecDepth 20000 in
theorem ggX4_init_X1_init : GoodIn wsX4_init wsX1_init := goodIn_r _ [47, 48, 2, 3, 10, 49, 50, 51, 52, 53, 54, 90, 91, 92, 93, 94, 95] (by decide +kernel) (by decide +kernel)
set_option maxRecDepth 20000 in
theorem gX4_init_X1_init_n40 : GoodIn wsX4_init (wsX1_init) := ggX4_init_X1_init
set_option maxRecDepth 20000 in
theorem ggX4_init_X0_init : GoodIn wsX4_init wsX0_init := goodIn_r _ [56, 57, 2, 3, 58, 59, 96, 97] (by decide +kernel) (by decide +kernel)
set_option maxRecDepth 20000 in
theorem gX4_init_X0_init_n47 : GoodIn wsX4_init (wsX0_init) := ggX4_init_X0_init
theorem dX4_init_0 : decode cX4_init 0 = .ok (.aload_n 0, 1) := by decide +kernel
theorem dX4_init_1 : decode cX4_init 1 = .ok (.invokespecial 1, 3) := by decide +kernel
theorem dX4_init_4 : decode cX4_init 4 = .ok (.aload_n 0, 1) := by decide +kernel
theorem dX4_init_5 : decode cX4_init 5 = .ok (.new 7, 3) := by decide +kernel
theorem dX4_init_8 : decode cX4_init 8 = .ok (.dup, 1) := by decide +kernel
theorem dX4_init_9 : decode cX4_init 9 = .ok (.invokespecial 9, 3) := by decide +kernel
theorem dX4_init_12 : decode cX4_init 12 = .ok (.putfield 10, 3) := by decide +kernel
theorem dX4_init_15 : decode cX4_init 15 = .ok (.aload_n 0, 1) := by decide +kernel
theorem dX4_init_16 : decode cX4_init 16 = .ok (.bipush 6, 2) := by decide +kernel
theorem dX4_init_18 : decode cX4_init 18 = .ok (.anewarray 7, 3) := by decide +kernel
theorem dX4_init_21 : decode cX4_init 21 = .ok (.putfield 16, 3) := by decide +kernel
theorem dX4_init_24 : decode cX4_init 24 = .ok (.aload_n 0, 1) := by decide +kernel
theorem dX4_init_25 : decode cX4_init 25 = .ok (.iconst 0, 1) := by decide +kernel
theorem dX4_init_26 : decode cX4_init 26 = .ok (.putfield 20, 3) := by decide +kernel
theorem dX4_init_29 : decode cX4_init 29 = .ok (.aload_n 0, 1) := by decide +kernel
theorem dX4_init_30 : decode cX4_init 30 = .ok (.bipush 60, 2) := by decide +kernel
theorem dX4_init_32 : decode cX4_init 32 = .ok (.newarray .int, 2) := by decide +kernel
theorem dX4_init_34 : decode cX4_init 34 = .ok (.putfield 24, 3) := by decide +kernel
theorem dX4_init_37 : decode cX4_init 37 = .ok (.aload_n 0, 1) := by decide +kernel
theorem dX4_init_38 : decode cX4_init 38 = .ok (.iconst 0, 1) := by decide +kernel
theorem dX4_init_39 : decode cX4_init 39 = .ok (.putfield 28, 3) := by decide +kernel
theorem dX4_init_42 : decode cX4_init 42 = .ok (.aload_n 0, 1) := by decide +kernel
theorem dX4_init_43 : decode cX4_init 43 = .ok (.new 31, 3) := by decide +kernel
theorem dX4_init_46 : decode cX4_init 46 = .ok (.dup, 1) := by decide +kernel
theorem dX4_init_47 : decode cX4_init 47 = .ok (.invokespecial 33, 3) := by decide +kernel
theorem dX4_init_50 : decode cX4_init 50 = .ok (.putfield 34, 3) := by decide +kernel
theorem dX4_init_53 : decode cX4_init 53 = .ok (.aload_n 0, 1) := by decide +kernel
theorem dX4_init_54 : decode cX4_init 54 = .ok (.new 38, 3) := by decide +kernel
theorem dX4_init_57 : decode cX4_init 57 = .ok (.dup, 1) := by decide +kernel
theorem dX4_init_58 : decode cX4_init 58 = .ok (.invokespecial 40, 3) := by decide +kernel
theorem dX4_init_61 : decode cX4_init 61 = .ok (.putfield 41, 3) := by decide +kernel
theorem dX4_init_64 : decode cX4_init 64 = .ok (.aload_n 0, 1) := by decide +kernel
theorem dX4_init_65 : decode cX4_init 65 = .ok (.new 45, 3) := by decide +kernel
theorem dX4_init_68 : decode cX4_init 68 = .ok (.dup, 1) := by decide +kernel
theorem dX4_init_69 : decode cX4_init 69 = .ok (.invokespecial 47, 3) := by decide +kernel
theorem dX4_init_72 : decode cX4_init 72 = .ok (.putfield 48, 3) := by decide +kernel
theorem dX4_init_75 : decode cX4_init 75 = .ok (.iconst 0, 1) := by decide +kernel
theorem dX4_init_76 : decode cX4_init 76 = .ok (.istore_n 1, 1) := by decide +kernel
theorem dX4_init_77 : decode cX4_init 77 = .ok (.iload_n 1, 1) := by decide +kernel
theorem dX4_init_78 : decode cX4_init 78 = .ok (.aload_n 0, 1) := by decide +kernel
theorem dX4_init_79 : decode cX4_init 79 = .ok (.getfield 16, 3) := by decide +kernel
theorem dX4_init_82 : decode cX4_init 82 = .ok (.arraylength, 1) := by decide +kernel
theorem dX4_init_83 : decode cX4_init 83 = .ok (.if_icmp .ge 22, 3) := by decide +kernel
theorem dX4_init_86 : decode cX4_init 86 = .ok (.aload_n 0, 1) := by decide +kernel
theorem dX4_init_87 : decode cX4_init 87 = .ok (.getfield 16, 3) := by decide +kernel
theorem dX4_init_90 : decode cX4_init 90 = .ok (.iload_n 1, 1) := by decide +kernel
theorem dX4_init_91 : decode cX4_init 91 = .ok (.new 7, 3) := by decide +kernel
theorem dX4_init_94 : decode cX4_init 94 = .ok (.dup, 1) := by decide +kernel
theorem dX4_init_95 : decode cX4_init 95 = .ok (.invokespecial 9, 3) := by decide +kernel
theorem dX4_init_98 : decode cX4_init 98 = .ok (.aastore, 1) := by decide +kernel
theorem dX4_init_99 : decode cX4_init 99 = .ok (.iinc 1 1, 3) := by decide +kernel
theorem dX4_init_102 : decode cX4_init 102 = .ok (.goto (-25), 3) := by decide +kernel
theorem dX4_init_105 : decode cX4_init 105 = .ok (.return_, 1) := by decide +kernel
set_option maxRecDepth 20000 in
theorem ggX4_ship_X4_isNoShip : GoodIn wsX4_ship wsX4_isNoShip := goodIn_r _ [14] (by decide +kernel) (by decide +kernel)
set_option maxRecDepth 20000 in
theorem gX4_ship_X4_isNoShip : GoodIn wsX4_ship (va_wsS RX4 52 yX4_isNoShip wsX4_isNoShip) := goodIn_app (goodIn_of _ (by decide +kernel)) ggX4_ship_X4_isNoShip
set_option maxRecDepth 20000 in
theorem ggX4_ship_X4_saveState : GoodIn wsX4_ship wsX4_saveState := goodIn_r _ [18, 19, 20, 5, 21, 22, 23, 24, 25, 26, 27, 28, 29, 30, 31, 32, 33, 34, 35, 36, 37, 38, 39, 40, 41, 42, 43, 44, 45, 46, 47, 48, 49, 50, 51, 52, 53, 54, 55, 56, 57, 58, 59, 60, 61, 62, 63, 64, 65, 66, 67, 68, 69, 72, 73, 74, 75, 76, 77, 70, 71] (by decide +kernel) (by decide +kernel)
set_option maxRecDepth 20000 in
theorem gX4_ship_X4_saveState : GoodIn wsX4_ship (wsV RX4 68 RX4 yX4_saveState wsX4_saveState) := goodIn_app (goodIn_of _ (by decide +kernel)) ggX4_ship_X4_saveState
theorem dX4_ship_0 : decode cX4_ship 0 = .ok (.iload_n 1, 1) := by decide +kernel
theorem dX4_ship_1 : decode cX4_ship 1 = .ok (.invokestatic 52, 3) := by decide +kernel
theorem dX4_ship_4 : decode cX4_ship 4 = .ok (.ifCond .eq 13, 3) := by decide +kernel
theorem dX4_ship_7 : decode cX4_ship 7 = .ok (.new 56, 3) := by decide +kernel
theorem dX4_ship_10 : decode cX4_ship 10 = .ok (.dup, 1) := by decide +kernel
theorem dX4_ship_11 : decode cX4_ship 11 = .ok (.ldc 58, 2) := by decide +kernel
theorem dX4_ship_13 : decode cX4_ship 13 = .ok (.invokespecial 60, 3) := by decide +kernel
theorem dX4_ship_16 : decode cX4_ship 16 = .ok (.athrow, 1) := by decide +kernel
theorem dX4_ship_17 : decode cX4_ship 17 = .ok (.iload_n 2, 1) := by decide +kernel
theorem dX4_ship_18 : decode cX4_ship 18 = .ok (.ifCond .lt 19, 3) := by decide +kernel
theorem dX4_ship_21 : decode cX4_ship 21 = .ok (.iload_n 2, 1) := by decide +kernel
theorem dX4_ship_22 : decode cX4_ship 22 = .ok (.sipush 900, 3) := by decide +kernel
theorem dX4_ship_25 : decode cX4_ship 25 = .ok (.if_icmp .gt 12, 3) := by decide +kernel
theorem dX4_ship_28 : decode cX4_ship 28 = .ok (.iload_n 3, 1) := by decide +kernel
theorem dX4_ship_29 : decode cX4_ship 29 = .ok (.ifCond .lt 8, 3) := by decide +kernel
theorem dX4_ship_32 : decode cX4_ship 32 = .ok (.iload_n 3, 1) := by decide +kernel
theorem dX4_ship_33 : decode cX4_ship 33 = .ok (.iload_n 2, 1) := by decide +kernel
theorem dX4_ship_34 : decode cX4_ship 34 = .ok (.if_icmp .le 13, 3) := by decide +kernel
theorem dX4_ship_37 : decode cX4_ship 37 = .ok (.new 63, 3) := by decide +kernel
theorem dX4_ship_40 : decode cX4_ship 40 = .ok (.dup, 1) := by decide +kernel
theorem dX4_ship_41 : decode cX4_ship 41 = .ok (.ldc 65, 2) := by decide +kernel
theorem dX4_ship_43 : decode cX4_ship 43 = .ok (.invokespecial 67, 3) := by decide +kernel
theorem dX4_ship_46 : decode cX4_ship 46 = .ok (.athrow, 1) := by decide +kernel
theorem dX4_ship_47 : decode cX4_ship 47 = .ok (.aload_n 0, 1) := by decide +kernel
theorem dX4_ship_48 : decode cX4_ship 48 = .ok (.invokevirtual 68, 3) := by decide +kernel
theorem dX4_ship_51 : decode cX4_ship 51 = .ok (.aload_n 0, 1) := by decide +kernel
theorem dX4_ship_52 : decode cX4_ship 52 = .ok (.getfield 10, 3) := by decide +kernel
theorem dX4_ship_55 : decode cX4_ship 55 = .ok (.getfield 71, 3) := by decide +kernel
theorem dX4_ship_58 : decode cX4_ship 58 = .ok (.iload_n 1, 1) := by decide +kernel
theorem dX4_ship_59 : decode cX4_ship 59 = .ok (.aaload, 1) := by decide +kernel
theorem dX4_ship_60 : decode cX4_ship 60 = .ok (.astore 4, 2) := by decide +kernel
theorem dX4_ship_62 : decode cX4_ship 62 = .ok (.aload 4, 2) := by decide +kernel
theorem dX4_ship_64 : decode cX4_ship 64 = .ok (.getfield 75, 3) := by decide +kernel
theorem dX4_ship_67 : decode cX4_ship 67 = .ok (.istore 5, 2) := by decide +kernel
theorem dX4_ship_69 : decode cX4_ship 69 = .ok (.aload 4, 2) := by decide +kernel
theorem dX4_ship_71 : decode cX4_ship 71 = .ok (.iload_n 3, 1) := by decide +kernel
theorem dX4_ship_72 : decode cX4_ship 72 = .ok (.putfield 75, 3) := by decide +kernel
theorem dX4_ship_75 : decode cX4_ship 75 = .ok (.aload 4, 2) := by decide +kernel
theorem dX4_ship_77 : decode cX4_ship 77 = .ok (.iload_n 2, 1) := by decide +kernel
theorem dX4_ship_78 : decode cX4_ship 78 = .ok (.putfield 78, 3) := by decide +kernel
theorem dX4_ship_81 : decode cX4_ship 81 = .ok (.aload_n 0, 1) := by decide +kernel
theorem dX4_ship_82 : decode cX4_ship 82 = .ok (.getfield 10, 3) := by decide +kernel
theorem dX4_ship_85 : decode cX4_ship 85 = .ok (.dup, 1) := by decide +kernel
theorem dX4_ship_86 : decode cX4_ship 86 = .ok (.getfield 81, 3) := by decide +kernel
theorem dX4_ship_89 : decode cX4_ship 89 = .ok (.iload_n 3, 1) := by decide +kernel
theorem dX4_ship_90 : decode cX4_ship 90 = .ok (.iadd, 1) := by decide +kernel
theorem dX4_ship_91 : decode cX4_ship 91 = .ok (.putfield 81, 3) := by decide +kernel
theorem dX4_ship_94 : decode cX4_ship 94 = .ok (.aload_n 0, 1) := by decide +kernel
theorem dX4_ship_95 : decode cX4_ship 95 = .ok (.getfield 10, 3) := by decide +kernel
theorem dX4_ship_98 : decode cX4_ship 98 = .ok (.dup, 1) := by decide +kernel
theorem dX4_ship_99 : decode cX4_ship 99 = .ok (.getfield 84, 3) := by decide +kernel
theorem dX4_ship_102 : decode cX4_ship 102 = .ok (.iload 5, 2) := by decide +kernel
theorem dX4_ship_104 : decode cX4_ship 104 = .ok (.iadd, 1) := by decide +kernel
theorem dX4_ship_105 : decode cX4_ship 105 = .ok (.putfield 84, 3) := by decide +kernel
theorem dX4_ship_108 : decode cX4_ship 108 = .ok (.iload 5, 2) := by decide +kernel
theorem dX4_ship_110 : decode cX4_ship 110 = .ok (.ireturn, 1) := by decide +kernel
set_option maxRecDepth 20000 in
theorem ggX4_unload_X4_isNoSilo : GoodIn wsX4_unload wsX4_isNoSilo := goodIn_r _ [11] (by decide +kernel) (by decide +kernel)
set_option maxRecDepth 20000 in
theorem gX4_unload_X4_isNoSilo : GoodIn wsX4_unload (va_wsS RX4 87 yX4_isNoSilo wsX4_isNoSilo) := goodIn_app (goodIn_of _ (by decide +kernel)) ggX4_unload_X4_isNoSilo
set_option maxRecDepth 20000 in
theorem ggX4_unload_X4_isNoShip : GoodIn wsX4_unload wsX4_isNoShip := goodIn_r _ [14] (by decide +kernel) (by decide +kernel)
set_option maxRecDepth 20000 in
theorem gX4_unload_X4_isNoShip : GoodIn wsX4_unload (va_wsS RX4 52 yX4_isNoShip wsX4_isNoShip) := goodIn_app (goodIn_of _ (by decide +kernel)) ggX4_unload_X4_isNoShip
set_option maxRecDepth 20000 in
theorem ggX4_unload_X4_saveState : GoodIn wsX4_unload wsX4_saveState := goodIn_r _ [18, 19, 20, 5, 21, 22, 23, 24, 25, 26, 27, 28, 29, 30, 31, 32, 33, 34, 35, 36, 37, 38, 39, 40, 41, 42, 43, 44, 45, 46, 47, 48, 49, 50, 51, 52, 83, 84, 85, 86, 87, 88, 89, 90, 91, 92, 93, 94, 95, 96, 97, 98, 99, 100, 101, 102, 103, 104, 105, 106, 107] (by decide +kernel) (by decide +kernel)
set_option maxRecDepth 20000 in
theorem gX4_unload_X4_saveState : GoodIn wsX4_unload (wsV RX4 68 RX4 yX4_saveState wsX4_saveState) := goodIn_app (goodIn_of _ (by decide +kernel)) ggX4_unload_X4_saveState
set_option maxRecDepth 20000 in
theorem ggX4_unload_X4_bringIn : GoodIn wsX4_unload wsX4_bringIn := goodIn_r _ [56, 57, 58, 59, 60, 61, 62, 63, 64, 38, 65, 42, 66, 67, 68, 69, 70, 71, 72, 73, 74, 40, 75, 76, 77, 78, 41, 79, 80, 81, 82, 45, 106, 107, 100, 101, 102, 103, 104, 105] (by decide +kernel) (by decide +kernel)
set_option maxRecDepth 20000 in
theorem gX4_unload_X4_bringIn : GoodIn wsX4_unload (wsV RX4 98 RX4 yX4_bringIn wsX4_bringIn) := goodIn_app (goodIn_of _ (by decide +kernel)) ggX4_unload_X4_bringIn
theorem dX4_unload_0 : decode cX4_unload 0 = .ok (.iload_n 1, 1) := by decide +kernel
theorem dX4_unload_1 : decode cX4_unload 1 = .ok (.invokestatic 87, 3) := by decide +kernel
theorem dX4_unload_4 : decode cX4_unload 4 = .ok (.ifCond .ne 10, 3) := by decide +kernel
theorem dX4_unload_7 : decode cX4_unload 7 = .ok (.iload_n 2, 1) := by decide +kernel
theorem dX4_unload_8 : decode cX4_unload 8 = .ok (.invokestatic 52, 3) := by decide +kernel
theorem dX4_unload_11 : decode cX4_unload 11 = .ok (.ifCond .eq 13, 3) := by decide +kernel
theorem dX4_unload_14 : decode cX4_unload 14 = .ok (.new 56, 3) := by decide +kernel
theorem dX4_unload_17 : decode cX4_unload 17 = .ok (.dup, 1) := by decide +kernel
theorem dX4_unload_18 : decode cX4_unload 18 = .ok (.ldc 90, 2) := by decide +kernel
theorem dX4_unload_20 : decode cX4_unload 20 = .ok (.invokespecial 60, 3) := by decide +kernel
theorem dX4_unload_23 : decode cX4_unload 23 = .ok (.athrow, 1) := by decide +kernel
theorem dX4_unload_24 : decode cX4_unload 24 = .ok (.iload_n 3, 1) := by decide +kernel
theorem dX4_unload_25 : decode cX4_unload 25 = .ok (.iconst 1, 1) := by decide +kernel
theorem dX4_unload_26 : decode cX4_unload 26 = .ok (.if_icmp .lt 10, 3) := by decide +kernel
theorem dX4_unload_29 : decode cX4_unload 29 = .ok (.iload_n 3, 1) := by decide +kernel
theorem dX4_unload_30 : decode cX4_unload 30 = .ok (.sipush 500, 3) := by decide +kernel
theorem dX4_unload_33 : decode cX4_unload 33 = .ok (.if_icmp .le 13, 3) := by decide +kernel
theorem dX4_unload_36 : decode cX4_unload 36 = .ok (.new 63, 3) := by decide +kernel
theorem dX4_unload_39 : decode cX4_unload 39 = .ok (.dup, 1) := by decide +kernel
theorem dX4_unload_40 : decode cX4_unload 40 = .ok (.ldc 92, 2) := by decide +kernel
theorem dX4_unload_42 : decode cX4_unload 42 = .ok (.invokespecial 67, 3) := by decide +kernel
theorem dX4_unload_45 : decode cX4_unload 45 = .ok (.athrow, 1) := by decide +kernel
theorem dX4_unload_46 : decode cX4_unload 46 = .ok (.aload_n 0, 1) := by decide +kernel
theorem dX4_unload_47 : decode cX4_unload 47 = .ok (.invokevirtual 68, 3) := by decide +kernel
theorem dX4_unload_50 : decode cX4_unload 50 = .ok (.aload_n 0, 1) := by decide +kernel
theorem dX4_unload_51 : decode cX4_unload 51 = .ok (.aload_n 0, 1) := by decide +kernel
theorem dX4_unload_52 : decode cX4_unload 52 = .ok (.getfield 10, 3) := by decide +kernel
theorem dX4_unload_55 : decode cX4_unload 55 = .ok (.getfield 94, 3) := by decide +kernel
theorem dX4_unload_58 : decode cX4_unload 58 = .ok (.iload_n 1, 1) := by decide +kernel
theorem dX4_unload_59 : decode cX4_unload 59 = .ok (.aaload, 1) := by decide +kernel
theorem dX4_unload_60 : decode cX4_unload 60 = .ok (.aload_n 0, 1) := by decide +kernel
theorem dX4_unload_61 : decode cX4_unload 61 = .ok (.getfield 10, 3) := by decide +kernel
theorem dX4_unload_64 : decode cX4_unload 64 = .ok (.getfield 71, 3) := by decide +kernel
theorem dX4_unload_67 : decode cX4_unload 67 = .ok (.iload_n 2, 1) := by decide +kernel
theorem dX4_unload_68 : decode cX4_unload 68 = .ok (.aaload, 1) := by decide +kernel
theorem dX4_unload_69 : decode cX4_unload 69 = .ok (.iload_n 3, 1) := by decide +kernel
theorem dX4_unload_70 : decode cX4_unload 70 = .ok (.invokevirtual 98, 3) := by decide +kernel
theorem dX4_unload_73 : decode cX4_unload 73 = .ok (.ireturn, 1) := by decide +kernel
set_option maxRecDepth 20000 in
theorem ggX4_flow_X4_isNoSilo : GoodIn wsX4_flow wsX4_isNoSilo := goodIn_r _ [11] (by decide +kernel) (by decide +kernel)
set_option maxRecDepth 20000 in
theorem gX4_flow_X4_isNoSilo : GoodIn wsX4_flow (va_wsS RX4 87 yX4_isNoSilo wsX4_isNoSilo) := goodIn_app (goodIn_of _ (by decide +kernel)) ggX4_flow_X4_isNoSilo
set_option maxRecDepth 20000 in
theorem ggX4_flow_X4_isNoShip : GoodIn wsX4_flow wsX4_isNoShip := goodIn_r _ [14] (by decide +kernel) (by decide +kernel)
set_option maxRecDepth 20000 in
theorem gX4_flow_X4_isNoShip : GoodIn wsX4_flow (va_wsS RX4 52 yX4_isNoShip wsX4_isNoShip) := goodIn_app (goodIn_of _ (by decide +kernel)) ggX4_flow_X4_isNoShip
set_option maxRecDepth 20000 in
theorem ggX4_flow_X4_saveState : GoodIn wsX4_flow wsX4_saveState := goodIn_r _ [18, 19, 20, 5, 21, 22, 23, 24, 25, 26, 27, 28, 29, 30, 31, 32, 33, 34, 35, 36, 37, 38, 39, 40, 41, 42, 43, 44, 45, 46, 47, 48, 49, 50, 51, 52, 105, 106, 107, 108, 109, 110, 111, 112, 113, 114, 115, 116, 117, 118, 119, 120, 121, 122, 123, 124, 125, 126, 127, 128, 129] (by decide +kernel) (by decide +kernel)
set_option maxRecDepth 20000 in
theorem gX4_flow_X4_saveState : GoodIn wsX4_flow (wsV RX4 68 RX4 yX4_saveState wsX4_saveState) := goodIn_app (goodIn_of _ (by decide +kernel)) ggX4_flow_X4_saveState
set_option maxRecDepth 20000 in
theorem ggX4_flow_X4_letOut : GoodIn wsX4_flow wsX4_letOut := goodIn_r _ [56, 5, 57, 58, 59, 60, 38, 61, 62, 63, 64, 65, 42, 40, 66, 67, 68, 10, 69, 70, 71, 72, 73, 74, 75, 76, 77, 78, 79, 80, 81, 82, 83, 84, 85, 86, 87, 88, 89, 90, 91, 92, 93, 94, 95, 49, 96, 52, 51, 97, 98, 99, 100, 101, 102, 103, 104, 41, 44, 105, 106, 107, 108, 109, 110, 111, 112, 113, 114, 115, 116, 117, 118, 119, 120, 121, 122, 123, 124, 125, 126, 127, 128, 129] (by decide +kernel) (by decide +kernel)
set_option maxRecDepth 20000 in
theorem gX4_flow_X4_letOut : GoodIn wsX4_flow (wsV RX4 104 RX4 yX4_letOut wsX4_letOut) := goodIn_app (goodIn_of _ (by decide +kernel)) ggX4_flow_X4_letOut
theorem dX4_flow_0 : decode cX4_flow 0 = .ok (.iload_n 1, 1) := by decide +kernel
theorem dX4_flow_1 : decode cX4_flow 1 = .ok (.invokestatic 87, 3) := by decide +kernel
theorem dX4_flow_4 : decode cX4_flow 4 = .ok (.ifCond .ne 10, 3) := by decide +kernel
theorem dX4_flow_7 : decode cX4_flow 7 = .ok (.iload_n 2, 1) := by decide +kernel
theorem dX4_flow_8 : decode cX4_flow 8 = .ok (.invokestatic 52, 3) := by decide +kernel
theorem dX4_flow_11 : decode cX4_flow 11 = .ok (.ifCond .eq 13, 3) := by decide +kernel
theorem dX4_flow_14 : decode cX4_flow 14 = .ok (.new 56, 3) := by decide +kernel
theorem dX4_flow_17 : decode cX4_flow 17 = .ok (.dup, 1) := by decide +kernel
theorem dX4_flow_18 : decode cX4_flow 18 = .ok (.ldc 90, 2) := by decide +kernel
theorem dX4_flow_20 : decode cX4_flow 20 = .ok (.invokespecial 60, 3) := by decide +kernel
theorem dX4_flow_23 : decode cX4_flow 23 = .ok (.athrow, 1) := by decide +kernel
theorem dX4_flow_24 : decode cX4_flow 24 = .ok (.iload_n 3, 1) := by decide +kernel
theorem dX4_flow_25 : decode cX4_flow 25 = .ok (.iconst 1, 1) := by decide +kernel
theorem dX4_flow_26 : decode cX4_flow 26 = .ok (.if_icmp .lt 9, 3) := by decide +kernel
theorem dX4_flow_29 : decode cX4_flow 29 = .ok (.iload_n 3, 1) := by decide +kernel
theorem dX4_flow_30 : decode cX4_flow 30 = .ok (.bipush 24, 2) := by decide +kernel
theorem dX4_flow_32 : decode cX4_flow 32 = .ok (.if_icmp .le 13, 3) := by decide +kernel
theorem dX4_flow_35 : decode cX4_flow 35 = .ok (.new 63, 3) := by decide +kernel
theorem dX4_flow_38 : decode cX4_flow 38 = .ok (.dup, 1) := by decide +kernel
theorem dX4_flow_39 : decode cX4_flow 39 = .ok (.ldc 102, 2) := by decide +kernel
theorem dX4_flow_41 : decode cX4_flow 41 = .ok (.invokespecial 67, 3) := by decide +kernel
theorem dX4_flow_44 : decode cX4_flow 44 = .ok (.athrow, 1) := by decide +kernel
theorem dX4_flow_45 : decode cX4_flow 45 = .ok (.aload_n 0, 1) := by decide +kernel
theorem dX4_flow_46 : decode cX4_flow 46 = .ok (.invokevirtual 68, 3) := by decide +kernel
theorem dX4_flow_49 : decode cX4_flow 49 = .ok (.aload_n 0, 1) := by decide +kernel
theorem dX4_flow_50 : decode cX4_flow 50 = .ok (.aload_n 0, 1) := by decide +kernel
theorem dX4_flow_51 : decode cX4_flow 51 = .ok (.getfield 10, 3) := by decide +kernel
theorem dX4_flow_54 : decode cX4_flow 54 = .ok (.getfield 94, 3) := by decide +kernel
theorem dX4_flow_57 : decode cX4_flow 57 = .ok (.iload_n 1, 1) := by decide +kernel
theorem dX4_flow_58 : decode cX4_flow 58 = .ok (.aaload, 1) := by decide +kernel
theorem dX4_flow_59 : decode cX4_flow 59 = .ok (.aload_n 0, 1) := by decide +kernel
theorem dX4_flow_60 : decode cX4_flow 60 = .ok (.getfield 10, 3) := by decide +kernel
theorem dX4_flow_63 : decode cX4_flow 63 = .ok (.getfield 71, 3) := by decide +kernel
theorem dX4_flow_66 : decode cX4_flow 66 = .ok (.iload_n 2, 1) := by decide +kernel
theorem dX4_flow_67 : decode cX4_flow 67 = .ok (.aaload, 1) := by decide +kernel
theorem dX4_flow_68 : decode cX4_flow 68 = .ok (.iload_n 3, 1) := by decide +kernel
theorem dX4_flow_69 : decode cX4_flow 69 = .ok (.invokevirtual 104, 3) := by decide +kernel
theorem dX4_flow_72 : decode cX4_flow 72 = .ok (.ireturn, 1) := by decide +kernel
set_option maxRecDepth 20000 in
theorem ggX4_pads_X4_isNoSilo : GoodIn wsX4_pads wsX4_isNoSilo := goodIn_r _ [14] (by decide +kernel) (by decide +kernel)
set_option maxRecDepth 20000 in
theorem gX4_pads_X4_isNoSilo : GoodIn wsX4_pads (va_wsS RX4 87 yX4_isNoSilo wsX4_isNoSilo) := goodIn_app (goodIn_of _ (by decide +kernel)) ggX4_pads_X4_isNoSilo
set_option maxRecDepth 20000 in
theorem ggX4_pads_X3_padsOn : GoodIn wsX4_pads wsX3_padsOn := goodIn_r _ [19, 20, 21, 66, 67, 68, 69, 70, 71, 72, 73, 74, 75, 76, 77, 78, 79, 80] (by decide +kernel) (by decide +kernel)
set_option maxRecDepth 20000 in
theorem gX4_pads_X3_padsOn : GoodIn wsX4_pads (wsV RX4 114 RX3 yX3_padsOn wsX3_padsOn) := goodIn_app (goodIn_of _ (by decide +kernel)) ggX4_pads_X3_padsOn
set_option maxRecDepth 20000 in
theorem ggX4_pads_X4_saveState : GoodIn wsX4_pads wsX4_saveState := goodIn_r _ [25, 26, 27, 7, 28, 29, 30, 18, 31, 20, 32, 33, 34, 35, 36, 37, 38, 39, 40, 41, 42, 43, 44, 45, 46, 47, 48, 49, 50, 51, 52, 53, 54, 55, 56, 57, 58, 59, 60, 61, 62, 63, 64, 65, 66, 67, 68, 69, 70, 71, 72, 73, 74, 75, 76, 77, 78, 79, 80, 81, 82] (by decide +kernel) (by decide +kernel)
set_option maxRecDepth 20000 in
theorem gX4_pads_X4_saveState : GoodIn wsX4_pads (wsV RX4 68 RX4 yX4_saveState wsX4_saveState) := goodIn_app (goodIn_of _ (by decide +kernel)) ggX4_pads_X4_saveState
theorem dX4_pads_0 : decode cX4_pads 0 = .ok (.iload_n 1, 1) := by decide +kernel
theorem dX4_pads_1 : decode cX4_pads 1 = .ok (.invokestatic 87, 3) := by decide +kernel
theorem dX4_pads_4 : decode cX4_pads 4 = .ok (.ifCond .eq 13, 3) := by decide +kernel
theorem dX4_pads_7 : decode cX4_pads 7 = .ok (.new 56, 3) := by decide +kernel
theorem dX4_pads_10 : decode cX4_pads 10 = .ok (.dup, 1) := by decide +kernel
theorem dX4_pads_11 : decode cX4_pads 11 = .ok (.ldc 107, 2) := by decide +kernel
theorem dX4_pads_13 : decode cX4_pads 13 = .ok (.invokespecial 60, 3) := by decide +kernel
theorem dX4_pads_16 : decode cX4_pads 16 = .ok (.athrow, 1) := by decide +kernel
theorem dX4_pads_17 : decode cX4_pads 17 = .ok (.iload_n 2, 1) := by decide +kernel
theorem dX4_pads_18 : decode cX4_pads 18 = .ok (.ifCond .lt 8, 3) := by decide +kernel
theorem dX4_pads_21 : decode cX4_pads 21 = .ok (.iload_n 2, 1) := by decide +kernel
theorem dX4_pads_22 : decode cX4_pads 22 = .ok (.iconst 4, 1) := by decide +kernel
theorem dX4_pads_23 : decode cX4_pads 23 = .ok (.if_icmp .le 13, 3) := by decide +kernel
theorem dX4_pads_26 : decode cX4_pads 26 = .ok (.new 63, 3) := by decide +kernel
theorem dX4_pads_29 : decode cX4_pads 29 = .ok (.dup, 1) := by decide +kernel
theorem dX4_pads_30 : decode cX4_pads 30 = .ok (.ldc 109, 2) := by decide +kernel
theorem dX4_pads_32 : decode cX4_pads 32 = .ok (.invokespecial 67, 3) := by decide +kernel
theorem dX4_pads_35 : decode cX4_pads 35 = .ok (.athrow, 1) := by decide +kernel
theorem dX4_pads_36 : decode cX4_pads 36 = .ok (.aload_n 0, 1) := by decide +kernel
theorem dX4_pads_37 : decode cX4_pads 37 = .ok (.getfield 10, 3) := by decide +kernel
theorem dX4_pads_40 : decode cX4_pads 40 = .ok (.getfield 94, 3) := by decide +kernel
theorem dX4_pads_43 : decode cX4_pads 43 = .ok (.iload_n 1, 1) := by decide +kernel
theorem dX4_pads_44 : decode cX4_pads 44 = .ok (.aaload, 1) := by decide +kernel
theorem dX4_pads_45 : decode cX4_pads 45 = .ok (.getfield 111, 3) := by decide +kernel
theorem dX4_pads_48 : decode cX4_pads 48 = .ok (.istore_n 3, 1) := by decide +kernel
theorem dX4_pads_49 : decode cX4_pads 49 = .ok (.aload_n 0, 1) := by decide +kernel
theorem dX4_pads_50 : decode cX4_pads 50 = .ok (.getfield 10, 3) := by decide +kernel
theorem dX4_pads_53 : decode cX4_pads 53 = .ok (.invokevirtual 114, 3) := by decide +kernel
theorem dX4_pads_56 : decode cX4_pads 56 = .ok (.iload_n 3, 1) := by decide +kernel
theorem dX4_pads_57 : decode cX4_pads 57 = .ok (.isub, 1) := by decide +kernel
theorem dX4_pads_58 : decode cX4_pads 58 = .ok (.iload_n 2, 1) := by decide +kernel
theorem dX4_pads_59 : decode cX4_pads 59 = .ok (.iadd, 1) := by decide +kernel
theorem dX4_pads_60 : decode cX4_pads 60 = .ok (.aload_n 0, 1) := by decide +kernel
theorem dX4_pads_61 : decode cX4_pads 61 = .ok (.getfield 10, 3) := by decide +kernel
theorem dX4_pads_64 : decode cX4_pads 64 = .ok (.getfield 117, 3) := by decide +kernel
theorem dX4_pads_67 : decode cX4_pads 67 = .ok (.iconst 0, 1) := by decide +kernel
theorem dX4_pads_68 : decode cX4_pads 68 = .ok (.iaload, 1) := by decide +kernel
theorem dX4_pads_69 : decode cX4_pads 69 = .ok (.if_icmp .le 13, 3) := by decide +kernel
theorem dX4_pads_72 : decode cX4_pads 72 = .ok (.new 120, 3) := by decide +kernel
theorem dX4_pads_75 : decode cX4_pads 75 = .ok (.dup, 1) := by decide +kernel
theorem dX4_pads_76 : decode cX4_pads 76 = .ok (.ldc 122, 2) := by decide +kernel
theorem dX4_pads_78 : decode cX4_pads 78 = .ok (.invokespecial 124, 3) := by decide +kernel
theorem dX4_pads_81 : decode cX4_pads 81 = .ok (.athrow, 1) := by decide +kernel
theorem dX4_pads_82 : decode cX4_pads 82 = .ok (.aload_n 0, 1) := by decide +kernel
theorem dX4_pads_83 : decode cX4_pads 83 = .ok (.invokevirtual 68, 3) := by decide +kernel
theorem dX4_pads_86 : decode cX4_pads 86 = .ok (.aload_n 0, 1) := by decide +kernel
theorem dX4_pads_87 : decode cX4_pads 87 = .ok (.getfield 10, 3) := by decide +kernel
theorem dX4_pads_90 : decode cX4_pads 90 = .ok (.getfield 94, 3) := by decide +kernel
theorem dX4_pads_93 : decode cX4_pads 93 = .ok (.iload_n 1, 1) := by decide +kernel
theorem dX4_pads_94 : decode cX4_pads 94 = .ok (.aaload, 1) := by decide +kernel
theorem dX4_pads_95 : decode cX4_pads 95 = .ok (.iload_n 2, 1) := by decide +kernel
theorem dX4_pads_96 : decode cX4_pads 96 = .ok (.putfield 111, 3) := by decide +kernel
theorem dX4_pads_99 : decode cX4_pads 99 = .ok (.iload_n 3, 1) := by decide +kernel
theorem dX4_pads_100 : decode cX4_pads 100 = .ok (.ireturn, 1) := by decide +kernel
set_option maxRecDepth 20000 in
theorem ggX4_shake_X4_isNoSilo : GoodIn wsX4_shake wsX4_isNoSilo := goodIn_r _ [14] (by decide +kernel) (by decide +kernel)
set_option maxRecDepth 20000 in
theorem gX4_shake_X4_isNoSilo : GoodIn wsX4_shake (va_wsS RX4 87 yX4_isNoSilo wsX4_isNoSilo) := goodIn_app (goodIn_of _ (by decide +kernel)) ggX4_shake_X4_isNoSilo
set_option maxRecDepth 20000 in
theorem ggX4_shake_X4_saveState : GoodIn wsX4_shake wsX4_saveState := goodIn_r _ [18, 19, 20, 5, 21, 22, 23, 24, 25, 26, 27, 28, 29, 30, 31, 32, 33, 34, 35, 36, 37, 38, 39, 40, 41, 42, 43, 44, 45, 46, 47, 48, 49, 50, 51, 52, 75, 76, 77, 78, 79, 80, 81, 82, 83, 84, 85, 86, 87, 88, 89, 90, 91, 92, 93, 94, 95, 96, 97, 98, 99] (by decide +kernel) (by decide +kernel)
set_option maxRecDepth 20000 in
theorem gX4_shake_X4_saveState : GoodIn wsX4_shake (wsV RX4 68 RX4 yX4_saveState wsX4_saveState) := goodIn_app (goodIn_of _ (by decide +kernel)) ggX4_shake_X4_saveState
set_option maxRecDepth 20000 in
theorem ggX4_shake_X4_shakesToBreak : GoodIn wsX4_shake wsX4_shakesToBreak := goodIn_r _ [56, 10, 5, 57, 8, 58, 59, 60, 61, 62, 63, 64, 38, 65, 44, 66, 67, 68, 69, 42, 40, 92, 93, 94, 95, 96, 97, 75, 76, 77, 78, 79, 80, 81, 82, 83, 84, 85, 86, 87, 88, 89, 90, 91] (by decide +kernel) (by decide +kernel)
set_option maxRecDepth 20000 in
theorem gX4_shake_X4_shakesToBreak : GoodIn wsX4_shake (wsV RX4 130 RX4 yX4_shakesToBreak wsX4_shakesToBreak) := goodIn_app (goodIn_of _ (by decide +kernel)) ggX4_shake_X4_shakesToBreak
set_option maxRecDepth 20000 in
theorem ggX4_shake_X1_makeLowestYounger : GoodIn wsX4_shake wsX1_makeLowestYounger := goodIn_r _ [73, 41, 74, 59, 60, 61, 92, 93, 94, 95, 96, 97] (by decide +kernel) (by decide +kernel)
set_option maxRecDepth 20000 in
theorem gX4_shake_X1_makeLowestYounger : GoodIn wsX4_shake (wsV RX4 138 RX1 yX1_makeLowestYounger wsX1_makeLowestYounger) := goodIn_app (goodIn_of _ (by decide +kernel)) ggX4_shake_X1_makeLowestYounger
theorem dX4_shake_0 : decode cX4_shake 0 = .ok (.iload_n 1, 1) := by decide +kernel
theorem dX4_shake_1 : decode cX4_shake 1 = .ok (.invokestatic 87, 3) := by decide +kernel
theorem dX4_shake_4 : decode cX4_shake 4 = .ok (.ifCond .eq 13, 3) := by decide +kernel
theorem dX4_shake_7 : decode cX4_shake 7 = .ok (.new 56, 3) := by decide +kernel
theorem dX4_shake_10 : decode cX4_shake 10 = .ok (.dup, 1) := by decide +kernel
theorem dX4_shake_11 : decode cX4_shake 11 = .ok (.ldc 107, 2) := by decide +kernel
theorem dX4_shake_13 : decode cX4_shake 13 = .ok (.invokespecial 60, 3) := by decide +kernel
theorem dX4_shake_16 : decode cX4_shake 16 = .ok (.athrow, 1) := by decide +kernel
theorem dX4_shake_17 : decode cX4_shake 17 = .ok (.aload_n 0, 1) := by decide +kernel
theorem dX4_shake_18 : decode cX4_shake 18 = .ok (.getfield 10, 3) := by decide +kernel
theorem dX4_shake_21 : decode cX4_shake 21 = .ok (.getfield 94, 3) := by decide +kernel
theorem dX4_shake_24 : decode cX4_shake 24 = .ok (.iload_n 1, 1) := by decide +kernel
theorem dX4_shake_25 : decode cX4_shake 25 = .ok (.aaload, 1) := by decide +kernel
theorem dX4_shake_26 : decode cX4_shake 26 = .ok (.astore_n 2, 1) := by decide +kernel
theorem dX4_shake_27 : decode cX4_shake 27 = .ok (.aload_n 2, 1) := by decide +kernel
theorem dX4_shake_28 : decode cX4_shake 28 = .ok (.getfield 125, 3) := by decide +kernel
theorem dX4_shake_31 : decode cX4_shake 31 = .ok (.ifCond .ne 13, 3) := by decide +kernel
theorem dX4_shake_34 : decode cX4_shake 34 = .ok (.new 120, 3) := by decide +kernel
theorem dX4_shake_37 : decode cX4_shake 37 = .ok (.dup, 1) := by decide +kernel
theorem dX4_shake_38 : decode cX4_shake 38 = .ok (.ldc 128, 2) := by decide +kernel
theorem dX4_shake_40 : decode cX4_shake 40 = .ok (.invokespecial 124, 3) := by decide +kernel
theorem dX4_shake_43 : decode cX4_shake 43 = .ok (.athrow, 1) := by decide +kernel
theorem dX4_shake_44 : decode cX4_shake 44 = .ok (.aload_n 0, 1) := by decide +kernel
theorem dX4_shake_45 : decode cX4_shake 45 = .ok (.invokevirtual 68, 3) := by decide +kernel
theorem dX4_shake_48 : decode cX4_shake 48 = .ok (.aload_n 0, 1) := by decide +kernel
theorem dX4_shake_49 : decode cX4_shake 49 = .ok (.aload_n 2, 1) := by decide +kernel
theorem dX4_shake_50 : decode cX4_shake 50 = .ok (.invokevirtual 130, 3) := by decide +kernel
theorem dX4_shake_53 : decode cX4_shake 53 = .ok (.iconst 1, 1) := by decide +kernel
theorem dX4_shake_54 : decode cX4_shake 54 = .ok (.if_icmp .ne 7, 3) := by decide +kernel
theorem dX4_shake_57 : decode cX4_shake 57 = .ok (.iconst 1, 1) := by decide +kernel
theorem dX4_shake_58 : decode cX4_shake 58 = .ok (.goto 4, 3) := by decide +kernel
theorem dX4_shake_61 : decode cX4_shake 61 = .ok (.iconst 0, 1) := by decide +kernel
theorem dX4_shake_62 : decode cX4_shake 62 = .ok (.istore_n 3, 1) := by decide +kernel
theorem dX4_shake_63 : decode cX4_shake 63 = .ok (.aload_n 2, 1) := by decide +kernel
theorem dX4_shake_64 : decode cX4_shake 64 = .ok (.dup, 1) := by decide +kernel
theorem dX4_shake_65 : decode cX4_shake 65 = .ok (.getfield 134, 3) := by decide +kernel
theorem dX4_shake_68 : decode cX4_shake 68 = .ok (.iconst 1, 1) := by decide +kernel
theorem dX4_shake_69 : decode cX4_shake 69 = .ok (.iadd, 1) := by decide +kernel
theorem dX4_shake_70 : decode cX4_shake 70 = .ok (.putfield 134, 3) := by decide +kernel
theorem dX4_shake_73 : decode cX4_shake 73 = .ok (.aload_n 0, 1) := by decide +kernel
theorem dX4_shake_74 : decode cX4_shake 74 = .ok (.getfield 10, 3) := by decide +kernel
theorem dX4_shake_77 : decode cX4_shake 77 = .ok (.dup, 1) := by decide +kernel
theorem dX4_shake_78 : decode cX4_shake 78 = .ok (.getfield 137, 3) := by decide +kernel
theorem dX4_shake_81 : decode cX4_shake 81 = .ok (.iconst 1, 1) := by decide +kernel
theorem dX4_shake_82 : decode cX4_shake 82 = .ok (.iadd, 1) := by decide +kernel
theorem dX4_shake_83 : decode cX4_shake 83 = .ok (.putfield 137, 3) := by decide +kernel
theorem dX4_shake_86 : decode cX4_shake 86 = .ok (.aload_n 2, 1) := by decide +kernel
theorem dX4_shake_87 : decode cX4_shake 87 = .ok (.invokevirtual 138, 3) := by decide +kernel
theorem dX4_shake_90 : decode cX4_shake 90 = .ok (.iload_n 3, 1) := by decide +kernel
theorem dX4_shake_91 : decode cX4_shake 91 = .ok (.ifCond .eq 8, 3) := by decide +kernel
theorem dX4_shake_94 : decode cX4_shake 94 = .ok (.aload_n 2, 1) := by decide +kernel
theorem dX4_shake_95 : decode cX4_shake 95 = .ok (.iconst 0, 1) := by decide +kernel
theorem dX4_shake_96 : decode cX4_shake 96 = .ok (.putfield 141, 3) := by decide +kernel
theorem dX4_shake_99 : decode cX4_shake 99 = .ok (.iload_n 3, 1) := by decide +kernel
theorem dX4_shake_100 : decode cX4_shake 100 = .ok (.ifCond .eq 7, 3) := by decide +kernel
theorem dX4_shake_103 : decode cX4_shake 103 = .ok (.iconst 1, 1) := by decide +kernel
theorem dX4_shake_104 : decode cX4_shake 104 = .ok (.goto 4, 3) := by decide +kernel
theorem dX4_shake_107 : decode cX4_shake 107 = .ok (.iconst 0, 1) := by decide +kernel
theorem dX4_shake_108 : decode cX4_shake 108 = .ok (.ireturn, 1) := by decide +kernel
set_option maxRecDepth 20000 in
theorem ggX4_pass_X4_saveState : GoodIn wsX4_pass wsX4_saveState := goodIn_r _ [7, 8, 9, 10, 11, 12, 13, 14, 15, 16, 17, 18, 19, 20, 21, 22, 23, 24, 25, 26, 27, 28, 29, 30, 31, 32, 33, 34, 35, 36, 37, 38, 39, 40, 41, 42, 70, 71, 72, 73, 74, 75, 76, 77, 78, 79, 80, 81, 82, 83, 84, 85, 86, 87, 88, 89, 90, 91, 92, 93, 94] (by decide +kernel) (by decide +kernel)
set_option maxRecDepth 20000 in
theorem gX4_pass_X4_saveState : GoodIn wsX4_pass (wsV RX4 68 RX4 yX4_saveState wsX4_saveState) := goodIn_app (goodIn_of _ (by decide +kernel)) ggX4_pass_X4_saveState
set_option maxRecDepth 20000 in
theorem ggX4_pass_X4_passDays : GoodIn wsX4_pass wsX4_passDays := goodIn_r _ [46, 10, 47, 48, 49, 50, 51, 52, 6, 53, 54, 55, 56, 57, 58, 59, 28, 60, 32, 31, 61, 62, 63, 64, 34, 65, 66, 67, 68, 69, 70, 71, 72, 73, 74, 75, 76, 77, 78, 79, 80, 81, 82, 83, 84, 85, 86, 87, 88, 89, 90, 91, 92] (by decide +kernel) (by decide +kernel)
set_option maxRecDepth 20000 in
theorem gX4_pass_X4_passDays : GoodIn wsX4_pass (wsV RX4 146 RX4 yX4_passDays wsX4_passDays) := goodIn_app (goodIn_of _ (by decide +kernel)) ggX4_pass_X4_passDays
theorem dX4_pass_0 : decode cX4_pass 0 = .ok (.iload_n 1, 1) := by decide +kernel
theorem dX4_pass_1 : decode cX4_pass 1 = .ok (.iconst 1, 1) := by decide +kernel
theorem dX4_pass_2 : decode cX4_pass 2 = .ok (.if_icmp .lt 9, 3) := by decide +kernel
theorem dX4_pass_5 : decode cX4_pass 5 = .ok (.iload_n 1, 1) := by decide +kernel
theorem dX4_pass_6 : decode cX4_pass 6 = .ok (.bipush 30, 2) := by decide +kernel
theorem dX4_pass_8 : decode cX4_pass 8 = .ok (.if_icmp .le 13, 3) := by decide +kernel
theorem dX4_pass_11 : decode cX4_pass 11 = .ok (.new 63, 3) := by decide +kernel
theorem dX4_pass_14 : decode cX4_pass 14 = .ok (.dup, 1) := by decide +kernel
theorem dX4_pass_15 : decode cX4_pass 15 = .ok (.ldc 144, 2) := by decide +kernel
theorem dX4_pass_17 : decode cX4_pass 17 = .ok (.invokespecial 67, 3) := by decide +kernel
theorem dX4_pass_20 : decode cX4_pass 20 = .ok (.athrow, 1) := by decide +kernel
theorem dX4_pass_21 : decode cX4_pass 21 = .ok (.aload_n 0, 1) := by decide +kernel
theorem dX4_pass_22 : decode cX4_pass 22 = .ok (.invokevirtual 68, 3) := by decide +kernel
theorem dX4_pass_25 : decode cX4_pass 25 = .ok (.aload_n 0, 1) := by decide +kernel
theorem dX4_pass_26 : decode cX4_pass 26 = .ok (.iload_n 1, 1) := by decide +kernel
theorem dX4_pass_27 : decode cX4_pass 27 = .ok (.invokevirtual 146, 3) := by decide +kernel
theorem dX4_pass_30 : decode cX4_pass 30 = .ok (.ireturn, 1) := by decide +kernel
set_option maxRecDepth 20000 in
theorem ggX4_set_X3_padsOn : GoodIn wsX4_set wsX3_padsOn := goodIn_r _ [15, 16, 17, 63, 64, 65, 66, 67, 68, 69, 70, 71, 72, 73, 74, 75, 76, 77] (by decide +kernel) (by decide +kernel)
set_option maxRecDepth 20000 in
theorem gX4_set_X3_padsOn : GoodIn wsX4_set (wsV RX4 114 RX3 yX3_padsOn wsX3_padsOn) := goodIn_app (goodIn_of _ (by decide +kernel)) ggX4_set_X3_padsOn
set_option maxRecDepth 20000 in
theorem ggX4_set_X4_saveState : GoodIn wsX4_set wsX4_saveState := goodIn_r _ [22, 23, 24, 7, 25, 26, 27, 14, 28, 16, 29, 30, 31, 32, 33, 34, 35, 36, 37, 38, 39, 40, 41, 42, 43, 44, 45, 46, 47, 48, 49, 50, 51, 52, 53, 54, 55, 56, 57, 58, 59, 60, 61, 62, 63, 64, 65, 66, 67, 68, 69, 70, 71, 72, 73, 74, 75, 76, 77, 78, 79] (by decide +kernel) (by decide +kernel)
set_option maxRecDepth 20000 in
theorem gX4_set_X4_saveState : GoodIn wsX4_set (wsV RX4 68 RX4 yX4_saveState wsX4_saveState) := goodIn_app (goodIn_of _ (by decide +kernel)) ggX4_set_X4_saveState
theorem dX4_set_0 : decode cX4_set 0 = .ok (.iload_n 1, 1) := by decide +kernel
theorem dX4_set_1 : decode cX4_set 1 = .ok (.ifCond .lt 15, 3) := by decide +kernel
theorem dX4_set_4 : decode cX4_set 4 = .ok (.iload_n 1, 1) := by decide +kernel
theorem dX4_set_5 : decode cX4_set 5 = .ok (.aload_n 0, 1) := by decide +kernel
theorem dX4_set_6 : decode cX4_set 6 = .ok (.getfield 10, 3) := by decide +kernel
theorem dX4_set_9 : decode cX4_set 9 = .ok (.getfield 117, 3) := by decide +kernel
theorem dX4_set_12 : decode cX4_set 12 = .ok (.arraylength, 1) := by decide +kernel
theorem dX4_set_13 : decode cX4_set 13 = .ok (.if_icmp .lt 13, 3) := by decide +kernel
theorem dX4_set_16 : decode cX4_set 16 = .ok (.new 56, 3) := by decide +kernel
theorem dX4_set_19 : decode cX4_set 19 = .ok (.dup, 1) := by decide +kernel
theorem dX4_set_20 : decode cX4_set 20 = .ok (.ldc 150, 2) := by decide +kernel
theorem dX4_set_22 : decode cX4_set 22 = .ok (.invokespecial 60, 3) := by decide +kernel
theorem dX4_set_25 : decode cX4_set 25 = .ok (.athrow, 1) := by decide +kernel
theorem dX4_set_26 : decode cX4_set 26 = .ok (.iload_n 2, 1) := by decide +kernel
theorem dX4_set_27 : decode cX4_set 27 = .ok (.getstatic 152, 3) := by decide +kernel
theorem dX4_set_30 : decode cX4_set 30 = .ok (.iload_n 1, 1) := by decide +kernel
theorem dX4_set_31 : decode cX4_set 31 = .ok (.iaload, 1) := by decide +kernel
theorem dX4_set_32 : decode cX4_set 32 = .ok (.if_icmp .lt 12, 3) := by decide +kernel
theorem dX4_set_35 : decode cX4_set 35 = .ok (.iload_n 2, 1) := by decide +kernel
theorem dX4_set_36 : decode cX4_set 36 = .ok (.getstatic 155, 3) := by decide +kernel
theorem dX4_set_39 : decode cX4_set 39 = .ok (.iload_n 1, 1) := by decide +kernel
theorem dX4_set_40 : decode cX4_set 40 = .ok (.iaload, 1) := by decide +kernel
theorem dX4_set_41 : decode cX4_set 41 = .ok (.if_icmp .le 13, 3) := by decide +kernel
theorem dX4_set_44 : decode cX4_set 44 = .ok (.new 63, 3) := by decide +kernel
theorem dX4_set_47 : decode cX4_set 47 = .ok (.dup, 1) := by decide +kernel
theorem dX4_set_48 : decode cX4_set 48 = .ok (.ldc 158, 2) := by decide +kernel
theorem dX4_set_50 : decode cX4_set 50 = .ok (.invokespecial 67, 3) := by decide +kernel
theorem dX4_set_53 : decode cX4_set 53 = .ok (.athrow, 1) := by decide +kernel
theorem dX4_set_54 : decode cX4_set 54 = .ok (.iload_n 1, 1) := by decide +kernel
theorem dX4_set_55 : decode cX4_set 55 = .ok (.ifCond .ne 24, 3) := by decide +kernel
theorem dX4_set_58 : decode cX4_set 58 = .ok (.aload_n 0, 1) := by decide +kernel
theorem dX4_set_59 : decode cX4_set 59 = .ok (.getfield 10, 3) := by decide +kernel
theorem dX4_set_62 : decode cX4_set 62 = .ok (.invokevirtual 114, 3) := by decide +kernel
theorem dX4_set_65 : decode cX4_set 65 = .ok (.iload_n 2, 1) := by decide +kernel
theorem dX4_set_66 : decode cX4_set 66 = .ok (.if_icmp .le 13, 3) := by decide +kernel
theorem dX4_set_69 : decode cX4_set 69 = .ok (.new 120, 3) := by decide +kernel
theorem dX4_set_72 : decode cX4_set 72 = .ok (.dup, 1) := by decide +kernel
theorem dX4_set_73 : decode cX4_set 73 = .ok (.ldc 160, 2) := by decide +kernel
theorem dX4_set_75 : decode cX4_set 75 = .ok (.invokespecial 124, 3) := by decide +kernel
theorem dX4_set_78 : decode cX4_set 78 = .ok (.athrow, 1) := by decide +kernel
theorem dX4_set_79 : decode cX4_set 79 = .ok (.aload_n 0, 1) := by decide +kernel
theorem dX4_set_80 : decode cX4_set 80 = .ok (.invokevirtual 68, 3) := by decide +kernel
theorem dX4_set_83 : decode cX4_set 83 = .ok (.aload_n 0, 1) := by decide +kernel
theorem dX4_set_84 : decode cX4_set 84 = .ok (.getfield 10, 3) := by decide +kernel
theorem dX4_set_87 : decode cX4_set 87 = .ok (.getfield 117, 3) := by decide +kernel
theorem dX4_set_90 : decode cX4_set 90 = .ok (.iload_n 1, 1) := by decide +kernel
theorem dX4_set_91 : decode cX4_set 91 = .ok (.iaload, 1) := by decide +kernel
theorem dX4_set_92 : decode cX4_set 92 = .ok (.istore_n 3, 1) := by decide +kernel
theorem dX4_set_93 : decode cX4_set 93 = .ok (.aload_n 0, 1) := by decide +kernel
theorem dX4_set_94 : decode cX4_set 94 = .ok (.getfield 10, 3) := by decide +kernel
theorem dX4_set_97 : decode cX4_set 97 = .ok (.getfield 117, 3) := by decide +kernel
theorem dX4_set_100 : decode cX4_set 100 = .ok (.iload_n 1, 1) := by decide +kernel
theorem dX4_set_101 : decode cX4_set 101 = .ok (.iload_n 2, 1) := by decide +kernel
theorem dX4_set_102 : decode cX4_set 102 = .ok (.iastore, 1) := by decide +kernel
theorem dX4_set_103 : decode cX4_set 103 = .ok (.iload_n 3, 1) := by decide +kernel
theorem dX4_set_104 : decode cX4_set 104 = .ok (.ireturn, 1) := by decide +kernel
set_option maxRecDepth 20000 in
theorem ggX4_undo_X3_becomeLike : GoodIn wsX4_undo wsX3_becomeLike := goodIn_r _ [10, 11, 12, 13, 14, 15, 16, 17, 18, 19, 20, 21, 22, 23, 24, 25, 26, 27, 28, 29, 30, 31, 32, 33, 34, 35, 36, 37, 46, 47, 48, 49, 50, 51, 52, 53, 54, 55, 56, 57, 58, 59, 60, 61, 62] (by decide +kernel) (by decide +kernel)
set_option maxRecDepth 20000 in
theorem gX4_undo_X3_becomeLike : GoodIn wsX4_undo (wsV RX4 186 RX3 yX3_becomeLike wsX3_becomeLike) := goodIn_app (goodIn_of _ (by decide +kernel)) ggX4_undo_X3_becomeLike
theorem dX4_undo_0 : decode cX4_undo 0 = .ok (.aload_n 0, 1) := by decide +kernel
theorem dX4_undo_1 : decode cX4_undo 1 = .ok (.getfield 20, 3) := by decide +kernel
theorem dX4_undo_4 : decode cX4_undo 4 = .ok (.ifCond .ne 13, 3) := by decide +kernel
theorem dX4_undo_7 : decode cX4_undo 7 = .ok (.new 120, 3) := by decide +kernel
theorem dX4_undo_10 : decode cX4_undo 10 = .ok (.dup, 1) := by decide +kernel
theorem dX4_undo_11 : decode cX4_undo 11 = .ok (.ldc 184, 2) := by decide +kernel
theorem dX4_undo_13 : decode cX4_undo 13 = .ok (.invokespecial 124, 3) := by decide +kernel
theorem dX4_undo_16 : decode cX4_undo 16 = .ok (.athrow, 1) := by decide +kernel
theorem dX4_undo_17 : decode cX4_undo 17 = .ok (.aload_n 0, 1) := by decide +kernel
theorem dX4_undo_18 : decode cX4_undo 18 = .ok (.dup, 1) := by decide +kernel
theorem dX4_undo_19 : decode cX4_undo 19 = .ok (.getfield 20, 3) := by decide +kernel
theorem dX4_undo_22 : decode cX4_undo 22 = .ok (.iconst 1, 1) := by decide +kernel
theorem dX4_undo_23 : decode cX4_undo 23 = .ok (.isub, 1) := by decide +kernel
theorem dX4_undo_24 : decode cX4_undo 24 = .ok (.putfield 20, 3) := by decide +kernel
theorem dX4_undo_27 : decode cX4_undo 27 = .ok (.aload_n 0, 1) := by decide +kernel
theorem dX4_undo_28 : decode cX4_undo 28 = .ok (.getfield 10, 3) := by decide +kernel
theorem dX4_undo_31 : decode cX4_undo 31 = .ok (.aload_n 0, 1) := by decide +kernel
theorem dX4_undo_32 : decode cX4_undo 32 = .ok (.getfield 16, 3) := by decide +kernel
theorem dX4_undo_35 : decode cX4_undo 35 = .ok (.aload_n 0, 1) := by decide +kernel
theorem dX4_undo_36 : decode cX4_undo 36 = .ok (.getfield 20, 3) := by decide +kernel
theorem dX4_undo_39 : decode cX4_undo 39 = .ok (.aaload, 1) := by decide +kernel
theorem dX4_undo_40 : decode cX4_undo 40 = .ok (.invokevirtual 186, 3) := by decide +kernel
theorem dX4_undo_43 : decode cX4_undo 43 = .ok (.aload_n 0, 1) := by decide +kernel
theorem dX4_undo_44 : decode cX4_undo 44 = .ok (.getfield 20, 3) := by decide +kernel
theorem dX4_undo_47 : decode cX4_undo 47 = .ok (.ireturn, 1) := by decide +kernel
set_option maxRecDepth 20000 in
theorem ggX4_silo_X4_isNoSilo : GoodIn wsX4_silo wsX4_isNoSilo := goodIn_r _ [14] (by decide +kernel) (by decide +kernel)
set_option maxRecDepth 20000 in
theorem gX4_silo_X4_isNoSilo : GoodIn wsX4_silo (va_wsS RX4 87 yX4_isNoSilo wsX4_isNoSilo) := goodIn_app (goodIn_of _ (by decide +kernel)) ggX4_silo_X4_isNoSilo
set_option maxRecDepth 20000 in
theorem ggX4_silo_X1_total : GoodIn wsX4_silo wsX1_total := goodIn_r _ [19, 20, 21, 22, 18, 23, 24, 25, 53, 54, 55, 56, 57, 58] (by decide +kernel) (by decide +kernel)
set_option maxRecDepth 20000 in
theorem gX4_silo_X1_total : GoodIn wsX4_silo (wsV RX4 190 RX1 yX1_total wsX1_total) := goodIn_app (goodIn_of _ (by decide +kernel)) ggX4_silo_X1_total
set_option maxRecDepth 20000 in
theorem ggX4_silo_X4_outInHour : GoodIn wsX4_silo wsX4_outInHour := goodIn_r _ [29, 7, 30, 31, 32, 33, 13, 34, 5, 35, 53, 54, 55, 56, 57, 58, 36, 37, 38, 39, 40, 41, 42, 43, 44, 45, 46, 47, 48, 49, 50, 51, 52] (by decide +kernel) (by decide +kernel)
set_option maxRecDepth 20000 in
theorem gX4_silo_X4_outInHour : GoodIn wsX4_silo (wsV RX4 193 RX4 yX4_outInHour wsX4_outInHour) := goodIn_app (goodIn_of _ (by decide +kernel)) ggX4_silo_X4_outInHour
theorem dX4_silo_0 : decode cX4_silo 0 = .ok (.iload_n 1, 1) := by decide +kernel
theorem dX4_silo_1 : decode cX4_silo 1 = .ok (.invokestatic 87, 3) := by decide +kernel
theorem dX4_silo_4 : decode cX4_silo 4 = .ok (.ifCond .eq 13, 3) := by decide +kernel
theorem dX4_silo_7 : decode cX4_silo 7 = .ok (.new 56, 3) := by decide +kernel
theorem dX4_silo_10 : decode cX4_silo 10 = .ok (.dup, 1) := by decide +kernel
theorem dX4_silo_11 : decode cX4_silo 11 = .ok (.ldc 107, 2) := by decide +kernel
theorem dX4_silo_13 : decode cX4_silo 13 = .ok (.invokespecial 60, 3) := by decide +kernel
theorem dX4_silo_16 : decode cX4_silo 16 = .ok (.athrow, 1) := by decide +kernel
theorem dX4_silo_17 : decode cX4_silo 17 = .ok (.aload_n 0, 1) := by decide +kernel
theorem dX4_silo_18 : decode cX4_silo 18 = .ok (.getfield 10, 3) := by decide +kernel
theorem dX4_silo_21 : decode cX4_silo 21 = .ok (.getfield 94, 3) := by decide +kernel
theorem dX4_silo_24 : decode cX4_silo 24 = .ok (.iload_n 1, 1) := by decide +kernel
theorem dX4_silo_25 : decode cX4_silo 25 = .ok (.aaload, 1) := by decide +kernel
theorem dX4_silo_26 : decode cX4_silo 26 = .ok (.astore_n 3, 1) := by decide +kernel
theorem dX4_silo_27 : decode cX4_silo 27 = .ok (.iload_n 2, 1) := by decide +kernel
theorem dX4_silo_28 : decode cX4_silo 28 = .ok (.tableswitch 83 0 5 #[40, 45, 50, 55, 68, 73], 40) := by decide +kernel
theorem dX4_silo_68 : decode cX4_silo 68 = .ok (.aload_n 3, 1) := by decide +kernel
theorem dX4_silo_69 : decode cX4_silo 69 = .ok (.invokevirtual 190, 3) := by decide +kernel
theorem dX4_silo_72 : decode cX4_silo 72 = .ok (.ireturn, 1) := by decide +kernel
theorem dX4_silo_73 : decode cX4_silo 73 = .ok (.aload_n 3, 1) := by decide +kernel
theorem dX4_silo_74 : decode cX4_silo 74 = .ok (.getfield 125, 3) := by decide +kernel
theorem dX4_silo_77 : decode cX4_silo 77 = .ok (.ireturn, 1) := by decide +kernel
theorem dX4_silo_78 : decode cX4_silo 78 = .ok (.aload_n 3, 1) := by decide +kernel
theorem dX4_silo_79 : decode cX4_silo 79 = .ok (.getfield 111, 3) := by decide +kernel
theorem dX4_silo_82 : decode cX4_silo 82 = .ok (.ireturn, 1) := by decide +kernel
theorem dX4_silo_83 : decode cX4_silo 83 = .ok (.aload_n 3, 1) := by decide +kernel
theorem dX4_silo_84 : decode cX4_silo 84 = .ok (.getfield 141, 3) := by decide +kernel
theorem dX4_silo_87 : decode cX4_silo 87 = .ok (.ifCond .ne 7, 3) := by decide +kernel
theorem dX4_silo_90 : decode cX4_silo 90 = .ok (.iconst 0, 1) := by decide +kernel
theorem dX4_silo_91 : decode cX4_silo 91 = .ok (.goto 4, 3) := by decide +kernel
theorem dX4_silo_94 : decode cX4_silo 94 = .ok (.iconst 1, 1) := by decide +kernel
theorem dX4_silo_95 : decode cX4_silo 95 = .ok (.ireturn, 1) := by decide +kernel
theorem dX4_silo_96 : decode cX4_silo 96 = .ok (.aload_n 3, 1) := by decide +kernel
theorem dX4_silo_97 : decode cX4_silo 97 = .ok (.getfield 134, 3) := by decide +kernel
theorem dX4_silo_100 : decode cX4_silo 100 = .ok (.ireturn, 1) := by decide +kernel
theorem dX4_silo_101 : decode cX4_silo 101 = .ok (.aload_n 0, 1) := by decide +kernel
theorem dX4_silo_102 : decode cX4_silo 102 = .ok (.aload_n 3, 1) := by decide +kernel
theorem dX4_silo_103 : decode cX4_silo 103 = .ok (.aload_n 3, 1) := by decide +kernel
theorem dX4_silo_104 : decode cX4_silo 104 = .ok (.getfield 111, 3) := by decide +kernel
theorem dX4_silo_107 : decode cX4_silo 107 = .ok (.invokevirtual 193, 3) := by decide +kernel
theorem dX4_silo_110 : decode cX4_silo 110 = .ok (.ireturn, 1) := by decide +kernel
theorem dX4_silo_111 : decode cX4_silo 111 = .ok (.new 63, 3) := by decide +kernel
theorem dX4_silo_114 : decode cX4_silo 114 = .ok (.dup, 1) := by decide +kernel
theorem dX4_silo_115 : decode cX4_silo 115 = .ok (.ldc 197, 2) := by decide +kernel
theorem dX4_silo_117 : decode cX4_silo 117 = .ok (.invokespecial 67, 3) := by decide +kernel
theorem dX4_silo_120 : decode cX4_silo 120 = .ok (.athrow, 1) := by decide +kernel
set_option maxRecDepth 20000 in
theorem ggX4_layer_X4_isNoSilo : GoodIn wsX4_layer wsX4_isNoSilo := goodIn_r _ [13] (by decide +kernel) (by decide +kernel)
set_option maxRecDepth 20000 in
theorem gX4_layer_X4_isNoSilo : GoodIn wsX4_layer (va_wsS RX4 87 yX4_isNoSilo wsX4_isNoSilo) := goodIn_app (goodIn_of _ (by decide +kernel)) ggX4_layer_X4_isNoSilo
set_option maxRecDepth 20000 in
theorem ggX4_layer_X4_hardnessAt : GoodIn wsX4_layer wsX4_hardnessAt := goodIn_r _ [17, 5, 18, 19, 20, 21, 22, 23, 24, 25, 26, 27, 28, 29, 30, 31, 32, 33, 34, 35] (by decide +kernel) (by decide +kernel)
set_option maxRecDepth 20000 in
theorem gX4_layer_X4_hardnessAt : GoodIn wsX4_layer (wsV RX4 206 RX4 yX4_hardnessAt wsX4_hardnessAt) := goodIn_app (goodIn_of _ (by decide +kernel)) ggX4_layer_X4_hardnessAt
theorem dX4_layer_0 : decode cX4_layer 0 = .ok (.iload_n 1, 1) := by decide +kernel
theorem dX4_layer_1 : decode cX4_layer 1 = .ok (.invokestatic 87, 3) := by decide +kernel
theorem dX4_layer_4 : decode cX4_layer 4 = .ok (.ifCond .eq 13, 3) := by decide +kernel
theorem dX4_layer_7 : decode cX4_layer 7 = .ok (.new 56, 3) := by decide +kernel
theorem dX4_layer_10 : decode cX4_layer 10 = .ok (.dup, 1) := by decide +kernel
theorem dX4_layer_11 : decode cX4_layer 11 = .ok (.ldc 107, 2) := by decide +kernel
theorem dX4_layer_13 : decode cX4_layer 13 = .ok (.invokespecial 60, 3) := by decide +kernel
theorem dX4_layer_16 : decode cX4_layer 16 = .ok (.athrow, 1) := by decide +kernel
theorem dX4_layer_17 : decode cX4_layer 17 = .ok (.aload_n 0, 1) := by decide +kernel
theorem dX4_layer_18 : decode cX4_layer 18 = .ok (.getfield 10, 3) := by decide +kernel
theorem dX4_layer_21 : decode cX4_layer 21 = .ok (.getfield 94, 3) := by decide +kernel
theorem dX4_layer_24 : decode cX4_layer 24 = .ok (.iload_n 1, 1) := by decide +kernel
theorem dX4_layer_25 : decode cX4_layer 25 = .ok (.aaload, 1) := by decide +kernel
theorem dX4_layer_26 : decode cX4_layer 26 = .ok (.astore 4, 2) := by decide +kernel
theorem dX4_layer_28 : decode cX4_layer 28 = .ok (.iload_n 2, 1) := by decide +kernel
theorem dX4_layer_29 : decode cX4_layer 29 = .ok (.ifCond .lt 12, 3) := by decide +kernel
theorem dX4_layer_32 : decode cX4_layer 32 = .ok (.iload_n 2, 1) := by decide +kernel
theorem dX4_layer_33 : decode cX4_layer 33 = .ok (.aload 4, 2) := by decide +kernel
theorem dX4_layer_35 : decode cX4_layer 35 = .ok (.getfield 125, 3) := by decide +kernel
theorem dX4_layer_38 : decode cX4_layer 38 = .ok (.if_icmp .lt 13, 3) := by decide +kernel
theorem dX4_layer_41 : decode cX4_layer 41 = .ok (.new 56, 3) := by decide +kernel
theorem dX4_layer_44 : decode cX4_layer 44 = .ok (.dup, 1) := by decide +kernel
theorem dX4_layer_45 : decode cX4_layer 45 = .ok (.ldc 199, 2) := by decide +kernel
theorem dX4_layer_47 : decode cX4_layer 47 = .ok (.invokespecial 60, 3) := by decide +kernel
theorem dX4_layer_50 : decode cX4_layer 50 = .ok (.athrow, 1) := by decide +kernel
theorem dX4_layer_51 : decode cX4_layer 51 = .ok (.iload_n 3, 1) := by decide +kernel
theorem dX4_layer_52 : decode cX4_layer 52 = .ok (.tableswitch 56 0 2 #[28, 36, 44], 28) := by decide +kernel
theorem dX4_layer_80 : decode cX4_layer 80 = .ok (.aload 4, 2) := by decide +kernel
theorem dX4_layer_82 : decode cX4_layer 82 = .ok (.getfield 201, 3) := by decide +kernel
theorem dX4_layer_85 : decode cX4_layer 85 = .ok (.iload_n 2, 1) := by decide +kernel
theorem dX4_layer_86 : decode cX4_layer 86 = .ok (.iaload, 1) := by decide +kernel
theorem dX4_layer_87 : decode cX4_layer 87 = .ok (.ireturn, 1) := by decide +kernel
theorem dX4_layer_88 : decode cX4_layer 88 = .ok (.aload 4, 2) := by decide +kernel
theorem dX4_layer_90 : decode cX4_layer 90 = .ok (.getfield 203, 3) := by decide +kernel
theorem dX4_layer_93 : decode cX4_layer 93 = .ok (.iload_n 2, 1) := by decide +kernel
theorem dX4_layer_94 : decode cX4_layer 94 = .ok (.iaload, 1) := by decide +kernel
theorem dX4_layer_95 : decode cX4_layer 95 = .ok (.ireturn, 1) := by decide +kernel
theorem dX4_layer_96 : decode cX4_layer 96 = .ok (.aload_n 0, 1) := by decide +kernel
theorem dX4_layer_97 : decode cX4_layer 97 = .ok (.aload 4, 2) := by decide +kernel
theorem dX4_layer_99 : decode cX4_layer 99 = .ok (.getfield 203, 3) := by decide +kernel
theorem dX4_layer_102 : decode cX4_layer 102 = .ok (.iload_n 2, 1) := by decide +kernel
theorem dX4_layer_103 : decode cX4_layer 103 = .ok (.iaload, 1) := by decide +kernel
theorem dX4_layer_104 : decode cX4_layer 104 = .ok (.invokevirtual 206, 3) := by decide +kernel
theorem dX4_layer_107 : decode cX4_layer 107 = .ok (.ireturn, 1) := by decide +kernel
theorem dX4_layer_108 : decode cX4_layer 108 = .ok (.new 63, 3) := by decide +kernel
theorem dX4_layer_111 : decode cX4_layer 111 = .ok (.dup, 1) := by decide +kernel
theorem dX4_layer_112 : decode cX4_layer 112 = .ok (.ldc 209, 2) := by decide +kernel
theorem dX4_layer_114 : decode cX4_layer 114 = .ok (.invokespecial 67, 3) := by decide +kernel
theorem dX4_layer_117 : decode cX4_layer 117 = .ok (.athrow, 1) := by decide +kernel
set_option maxRecDepth 20000 in
theorem ggX4_shipOf_X4_isNoShip : GoodIn wsX4_shipOf wsX4_isNoShip := goodIn_r _ [12] (by decide +kernel) (by decide +kernel)
set_option maxRecDepth 20000 in
theorem gX4_shipOf_X4_isNoShip : GoodIn wsX4_shipOf (va_wsS RX4 52 yX4_isNoShip wsX4_isNoShip) := goodIn_app (goodIn_of _ (by decide +kernel)) ggX4_shipOf_X4_isNoShip
theorem dX4_shipOf_0 : decode cX4_shipOf 0 = .ok (.iload_n 1, 1) := by decide +kernel
theorem dX4_shipOf_1 : decode cX4_shipOf 1 = .ok (.invokestatic 52, 3) := by decide +kernel
theorem dX4_shipOf_4 : decode cX4_shipOf 4 = .ok (.ifCond .eq 13, 3) := by decide +kernel
theorem dX4_shipOf_7 : decode cX4_shipOf 7 = .ok (.new 56, 3) := by decide +kernel
theorem dX4_shipOf_10 : decode cX4_shipOf 10 = .ok (.dup, 1) := by decide +kernel
theorem dX4_shipOf_11 : decode cX4_shipOf 11 = .ok (.ldc 58, 2) := by decide +kernel
theorem dX4_shipOf_13 : decode cX4_shipOf 13 = .ok (.invokespecial 60, 3) := by decide +kernel
theorem dX4_shipOf_16 : decode cX4_shipOf 16 = .ok (.athrow, 1) := by decide +kernel
theorem dX4_shipOf_17 : decode cX4_shipOf 17 = .ok (.iload_n 2, 1) := by decide +kernel
theorem dX4_shipOf_18 : decode cX4_shipOf 18 = .ok (.ifCond .eq 18, 3) := by decide +kernel
theorem dX4_shipOf_21 : decode cX4_shipOf 21 = .ok (.iload_n 2, 1) := by decide +kernel
theorem dX4_shipOf_22 : decode cX4_shipOf 22 = .ok (.iconst 1, 1) := by decide +kernel
theorem dX4_shipOf_23 : decode cX4_shipOf 23 = .ok (.if_icmp .eq 13, 3) := by decide +kernel
theorem dX4_shipOf_26 : decode cX4_shipOf 26 = .ok (.new 63, 3) := by decide +kernel
theorem dX4_shipOf_29 : decode cX4_shipOf 29 = .ok (.dup, 1) := by decide +kernel
theorem dX4_shipOf_30 : decode cX4_shipOf 30 = .ok (.ldc 211, 2) := by decide +kernel
theorem dX4_shipOf_32 : decode cX4_shipOf 32 = .ok (.invokespecial 67, 3) := by decide +kernel
theorem dX4_shipOf_35 : decode cX4_shipOf 35 = .ok (.athrow, 1) := by decide +kernel
theorem dX4_shipOf_36 : decode cX4_shipOf 36 = .ok (.iload_n 2, 1) := by decide +kernel
theorem dX4_shipOf_37 : decode cX4_shipOf 37 = .ok (.ifCond .ne 18, 3) := by decide +kernel
theorem dX4_shipOf_40 : decode cX4_shipOf 40 = .ok (.aload_n 0, 1) := by decide +kernel
theorem dX4_shipOf_41 : decode cX4_shipOf 41 = .ok (.getfield 10, 3) := by decide +kernel
theorem dX4_shipOf_44 : decode cX4_shipOf 44 = .ok (.getfield 71, 3) := by decide +kernel
theorem dX4_shipOf_47 : decode cX4_shipOf 47 = .ok (.iload_n 1, 1) := by decide +kernel
theorem dX4_shipOf_48 : decode cX4_shipOf 48 = .ok (.aaload, 1) := by decide +kernel
theorem dX4_shipOf_49 : decode cX4_shipOf 49 = .ok (.getfield 75, 3) := by decide +kernel
theorem dX4_shipOf_52 : decode cX4_shipOf 52 = .ok (.goto 15, 3) := by decide +kernel
theorem dX4_shipOf_55 : decode cX4_shipOf 55 = .ok (.aload_n 0, 1) := by decide +kernel
theorem dX4_shipOf_56 : decode cX4_shipOf 56 = .ok (.getfield 10, 3) := by decide +kernel
theorem dX4_shipOf_59 : decode cX4_shipOf 59 = .ok (.getfield 71, 3) := by decide +kernel
theorem dX4_shipOf_62 : decode cX4_shipOf 62 = .ok (.iload_n 1, 1) := by decide +kernel
theorem dX4_shipOf_63 : decode cX4_shipOf 63 = .ok (.aaload, 1) := by decide +kernel
theorem dX4_shipOf_64 : decode cX4_shipOf 64 = .ok (.getfield 78, 3) := by decide +kernel
theorem dX4_shipOf_67 : decode cX4_shipOf 67 = .ok (.ireturn, 1) := by decide +kernel
set_option maxRecDepth 20000 in
theorem ggX4_count_X3_siloTonnes : GoodIn wsX4_count wsX3_siloTonnes := goodIn_r _ [16, 17, 18, 19, 20, 21, 22, 23, 24, 25, 26, 27, 28, 53, 54, 55, 56, 57, 58, 59, 60, 61, 62, 63, 64, 65, 66, 67] (by decide +kernel) (by decide +kernel)
set_option maxRecDepth 20000 in
theorem gX4_count_X3_siloTonnes : GoodIn wsX4_count (wsV RX4 216 RX3 yX3_siloTonnes wsX3_siloTonnes) := goodIn_app (goodIn_of _ (by decide +kernel)) ggX4_count_X3_siloTonnes
set_option maxRecDepth 20000 in
theorem ggX4_count_X3_shipTonnes : GoodIn wsX4_count wsX3_shipTonnes := goodIn_r _ [32, 33, 34, 53, 54, 55, 56, 57, 58, 59, 60, 61, 68, 69] (by decide +kernel) (by decide +kernel)
set_option maxRecDepth 20000 in
theorem gX4_count_X3_shipTonnes : GoodIn wsX4_count (wsV RX4 219 RX3 yX3_shipTonnes wsX3_shipTonnes) := goodIn_app (goodIn_of _ (by decide +kernel)) ggX4_count_X3_shipTonnes
set_option maxRecDepth 20000 in
theorem ggX4_count_X3_padsOn : GoodIn wsX4_count wsX3_padsOn := goodIn_r _ [38, 17, 39, 53, 54, 55, 56, 57, 58, 59, 60, 61, 62, 63, 64, 65, 66, 67] (by decide +kernel) (by decide +kernel)
set_option maxRecDepth 20000 in
theorem gX4_count_X3_padsOn : GoodIn wsX4_count (wsV RX4 114 RX3 yX3_padsOn wsX3_padsOn) := goodIn_app (goodIn_of _ (by decide +kernel)) ggX4_count_X3_padsOn
set_option maxRecDepth 20000 in
theorem ggX4_count_X3_arches : GoodIn wsX4_count wsX3_arches := goodIn_r _ [43, 17, 44, 53, 54, 55, 56, 57, 58, 59, 60, 61, 62, 63, 64, 65, 66, 67] (by decide +kernel) (by decide +kernel)
set_option maxRecDepth 20000 in
theorem gX4_count_X3_arches : GoodIn wsX4_count (wsV RX4 225 RX3 yX3_arches wsX3_arches) := goodIn_app (goodIn_of _ (by decide +kernel)) ggX4_count_X3_arches
theorem dX4_count_0 : decode cX4_count 0 = .ok (.iload_n 1, 1) := by decide +kernel
theorem dX4_count_1 : decode cX4_count 1 = .ok (.tableswitch 173 0 14 #[75, 83, 91, 99, 107, 115, 123, 131, 139, 147, 155, 155, 155, 155, 168], 75) := by decide +kernel
theorem dX4_count_76 : decode cX4_count 76 = .ok (.aload_n 0, 1) := by decide +kernel
theorem dX4_count_77 : decode cX4_count 77 = .ok (.getfield 10, 3) := by decide +kernel
theorem dX4_count_80 : decode cX4_count 80 = .ok (.getfield 213, 3) := by decide +kernel
theorem dX4_count_83 : decode cX4_count 83 = .ok (.ireturn, 1) := by decide +kernel
theorem dX4_count_84 : decode cX4_count 84 = .ok (.aload_n 0, 1) := by decide +kernel
theorem dX4_count_85 : decode cX4_count 85 = .ok (.getfield 10, 3) := by decide +kernel
theorem dX4_count_88 : decode cX4_count 88 = .ok (.invokevirtual 216, 3) := by decide +kernel
theorem dX4_count_91 : decode cX4_count 91 = .ok (.ireturn, 1) := by decide +kernel
theorem dX4_count_92 : decode cX4_count 92 = .ok (.aload_n 0, 1) := by decide +kernel
theorem dX4_count_93 : decode cX4_count 93 = .ok (.getfield 10, 3) := by decide +kernel
theorem dX4_count_96 : decode cX4_count 96 = .ok (.invokevirtual 219, 3) := by decide +kernel
theorem dX4_count_99 : decode cX4_count 99 = .ok (.ireturn, 1) := by decide +kernel
theorem dX4_count_100 : decode cX4_count 100 = .ok (.aload_n 0, 1) := by decide +kernel
theorem dX4_count_101 : decode cX4_count 101 = .ok (.getfield 10, 3) := by decide +kernel
theorem dX4_count_104 : decode cX4_count 104 = .ok (.getfield 222, 3) := by decide +kernel
theorem dX4_count_107 : decode cX4_count 107 = .ok (.ireturn, 1) := by decide +kernel
theorem dX4_count_108 : decode cX4_count 108 = .ok (.aload_n 0, 1) := by decide +kernel
theorem dX4_count_109 : decode cX4_count 109 = .ok (.getfield 10, 3) := by decide +kernel
theorem dX4_count_112 : decode cX4_count 112 = .ok (.getfield 81, 3) := by decide +kernel
theorem dX4_count_115 : decode cX4_count 115 = .ok (.ireturn, 1) := by decide +kernel
theorem dX4_count_116 : decode cX4_count 116 = .ok (.aload_n 0, 1) := by decide +kernel
theorem dX4_count_117 : decode cX4_count 117 = .ok (.getfield 10, 3) := by decide +kernel
theorem dX4_count_120 : decode cX4_count 120 = .ok (.getfield 84, 3) := by decide +kernel
theorem dX4_count_123 : decode cX4_count 123 = .ok (.ireturn, 1) := by decide +kernel
theorem dX4_count_124 : decode cX4_count 124 = .ok (.aload_n 0, 1) := by decide +kernel
theorem dX4_count_125 : decode cX4_count 125 = .ok (.getfield 10, 3) := by decide +kernel
theorem dX4_count_128 : decode cX4_count 128 = .ok (.invokevirtual 114, 3) := by decide +kernel
theorem dX4_count_131 : decode cX4_count 131 = .ok (.ireturn, 1) := by decide +kernel
theorem dX4_count_132 : decode cX4_count 132 = .ok (.aload_n 0, 1) := by decide +kernel
theorem dX4_count_133 : decode cX4_count 133 = .ok (.getfield 10, 3) := by decide +kernel
theorem dX4_count_136 : decode cX4_count 136 = .ok (.invokevirtual 225, 3) := by decide +kernel
theorem dX4_count_139 : decode cX4_count 139 = .ok (.ireturn, 1) := by decide +kernel
theorem dX4_count_140 : decode cX4_count 140 = .ok (.aload_n 0, 1) := by decide +kernel
theorem dX4_count_141 : decode cX4_count 141 = .ok (.getfield 10, 3) := by decide +kernel
theorem dX4_count_144 : decode cX4_count 144 = .ok (.getfield 137, 3) := by decide +kernel
theorem dX4_count_147 : decode cX4_count 147 = .ok (.ireturn, 1) := by decide +kernel
theorem dX4_count_148 : decode cX4_count 148 = .ok (.aload_n 0, 1) := by decide +kernel
theorem dX4_count_149 : decode cX4_count 149 = .ok (.getfield 10, 3) := by decide +kernel
theorem dX4_count_152 : decode cX4_count 152 = .ok (.getfield 228, 3) := by decide +kernel
theorem dX4_count_155 : decode cX4_count 155 = .ok (.ireturn, 1) := by decide +kernel
theorem dX4_count_156 : decode cX4_count 156 = .ok (.aload_n 0, 1) := by decide +kernel
theorem dX4_count_157 : decode cX4_count 157 = .ok (.getfield 10, 3) := by decide +kernel
theorem dX4_count_160 : decode cX4_count 160 = .ok (.getfield 117, 3) := by decide +kernel
theorem dX4_count_163 : decode cX4_count 163 = .ok (.iload_n 1, 1) := by decide +kernel
theorem dX4_count_164 : decode cX4_count 164 = .ok (.bipush 10, 2) := by decide +kernel
theorem dX4_count_166 : decode cX4_count 166 = .ok (.isub, 1) := by decide +kernel
theorem dX4_count_167 : decode cX4_count 167 = .ok (.iaload, 1) := by decide +kernel
theorem dX4_count_168 : decode cX4_count 168 = .ok (.ireturn, 1) := by decide +kernel
theorem dX4_count_169 : decode cX4_count 169 = .ok (.aload_n 0, 1) := by decide +kernel
theorem dX4_count_170 : decode cX4_count 170 = .ok (.getfield 20, 3) := by decide +kernel
theorem dX4_count_173 : decode cX4_count 173 = .ok (.ireturn, 1) := by decide +kernel
theorem dX4_count_174 : decode cX4_count 174 = .ok (.new 63, 3) := by decide +kernel
theorem dX4_count_177 : decode cX4_count 177 = .ok (.dup, 1) := by decide +kernel
theorem dX4_count_178 : decode cX4_count 178 = .ok (.ldc 231, 2) := by decide +kernel
theorem dX4_count_180 : decode cX4_count 180 = .ok (.invokespecial 67, 3) := by decide +kernel
theorem dX4_count_183 : decode cX4_count 183 = .ok (.athrow, 1) := by decide +kernel
set_option maxRecDepth 20000 in
theorem ggX4_whyNot_X4_isNoSilo : GoodIn wsX4_whyNot wsX4_isNoSilo := goodIn_r _ [12] (by decide +kernel) (by decide +kernel)
set_option maxRecDepth 20000 in
theorem gX4_whyNot_X4_isNoSilo : GoodIn wsX4_whyNot (va_wsS RX4 87 yX4_isNoSilo wsX4_isNoSilo) := goodIn_app (goodIn_of _ (by decide +kernel)) ggX4_whyNot_X4_isNoSilo
set_option maxRecDepth 20000 in
theorem ggX4_whyNot_X4_isNoShip : GoodIn wsX4_whyNot wsX4_isNoShip := goodIn_r _ [15] (by decide +kernel) (by decide +kernel)
set_option maxRecDepth 20000 in
theorem gX4_whyNot_X4_isNoShip : GoodIn wsX4_whyNot (va_wsS RX4 52 yX4_isNoShip wsX4_isNoShip) := goodIn_app (goodIn_of _ (by decide +kernel)) ggX4_whyNot_X4_isNoShip
set_option maxRecDepth 20000 in
theorem ggX4_whyNot_X0_room : GoodIn wsX4_whyNot wsX0_room := goodIn_r _ [20, 21, 22, 56, 57] (by decide +kernel) (by decide +kernel)
set_option maxRecDepth 20000 in
theorem gX4_whyNot_X0_room : GoodIn wsX4_whyNot (wsV RX4 233 RX0 yX0_room wsX0_room) := goodIn_app (goodIn_of _ (by decide +kernel)) ggX4_whyNot_X0_room
set_option maxRecDepth 20000 in
theorem ggX4_whyNot_X4_outInHour : GoodIn wsX4_whyNot wsX4_outInHour := goodIn_r _ [26, 5, 27, 28, 29, 30, 11, 31, 3, 32, 50, 51, 52, 53, 54, 55, 33, 34, 35, 36, 37, 38, 39, 40, 41, 42, 43, 44, 45, 46, 47, 48, 49] (by decide +kernel) (by decide +kernel)
set_option maxRecDepth 20000 in
theorem gX4_whyNot_X4_outInHour : GoodIn wsX4_whyNot (wsV RX4 193 RX4 yX4_outInHour wsX4_outInHour) := goodIn_app (goodIn_of _ (by decide +kernel)) ggX4_whyNot_X4_outInHour
theorem dX4_whyNot_0 : decode cX4_whyNot 0 = .ok (.iload_n 1, 1) := by decide +kernel
theorem dX4_whyNot_1 : decode cX4_whyNot 1 = .ok (.invokestatic 87, 3) := by decide +kernel
theorem dX4_whyNot_4 : decode cX4_whyNot 4 = .ok (.ifCond .ne 10, 3) := by decide +kernel
theorem dX4_whyNot_7 : decode cX4_whyNot 7 = .ok (.iload_n 2, 1) := by decide +kernel
theorem dX4_whyNot_8 : decode cX4_whyNot 8 = .ok (.invokestatic 52, 3) := by decide +kernel
theorem dX4_whyNot_11 : decode cX4_whyNot 11 = .ok (.ifCond .eq 13, 3) := by decide +kernel
theorem dX4_whyNot_14 : decode cX4_whyNot 14 = .ok (.new 56, 3) := by decide +kernel
theorem dX4_whyNot_17 : decode cX4_whyNot 17 = .ok (.dup, 1) := by decide +kernel
theorem dX4_whyNot_18 : decode cX4_whyNot 18 = .ok (.ldc 90, 2) := by decide +kernel
theorem dX4_whyNot_20 : decode cX4_whyNot 20 = .ok (.invokespecial 60, 3) := by decide +kernel
theorem dX4_whyNot_23 : decode cX4_whyNot 23 = .ok (.athrow, 1) := by decide +kernel
theorem dX4_whyNot_24 : decode cX4_whyNot 24 = .ok (.aload_n 0, 1) := by decide +kernel
theorem dX4_whyNot_25 : decode cX4_whyNot 25 = .ok (.getfield 10, 3) := by decide +kernel
theorem dX4_whyNot_28 : decode cX4_whyNot 28 = .ok (.getfield 94, 3) := by decide +kernel
theorem dX4_whyNot_31 : decode cX4_whyNot 31 = .ok (.iload_n 1, 1) := by decide +kernel
theorem dX4_whyNot_32 : decode cX4_whyNot 32 = .ok (.aaload, 1) := by decide +kernel
theorem dX4_whyNot_33 : decode cX4_whyNot 33 = .ok (.astore_n 3, 1) := by decide +kernel
theorem dX4_whyNot_34 : decode cX4_whyNot 34 = .ok (.aload_n 3, 1) := by decide +kernel
theorem dX4_whyNot_35 : decode cX4_whyNot 35 = .ok (.getfield 125, 3) := by decide +kernel
theorem dX4_whyNot_38 : decode cX4_whyNot 38 = .ok (.ifCond .ne 5, 3) := by decide +kernel
theorem dX4_whyNot_41 : decode cX4_whyNot 41 = .ok (.iconst 1, 1) := by decide +kernel
theorem dX4_whyNot_42 : decode cX4_whyNot 42 = .ok (.ireturn, 1) := by decide +kernel
theorem dX4_whyNot_43 : decode cX4_whyNot 43 = .ok (.aload_n 3, 1) := by decide +kernel
theorem dX4_whyNot_44 : decode cX4_whyNot 44 = .ok (.getfield 141, 3) := by decide +kernel
theorem dX4_whyNot_47 : decode cX4_whyNot 47 = .ok (.iconst 2, 1) := by decide +kernel
theorem dX4_whyNot_48 : decode cX4_whyNot 48 = .ok (.if_icmp .ne 5, 3) := by decide +kernel
theorem dX4_whyNot_51 : decode cX4_whyNot 51 = .ok (.iconst 2, 1) := by decide +kernel
theorem dX4_whyNot_52 : decode cX4_whyNot 52 = .ok (.ireturn, 1) := by decide +kernel
theorem dX4_whyNot_53 : decode cX4_whyNot 53 = .ok (.aload_n 0, 1) := by decide +kernel
theorem dX4_whyNot_54 : decode cX4_whyNot 54 = .ok (.getfield 10, 3) := by decide +kernel
theorem dX4_whyNot_57 : decode cX4_whyNot 57 = .ok (.getfield 71, 3) := by decide +kernel
theorem dX4_whyNot_60 : decode cX4_whyNot 60 = .ok (.iload_n 2, 1) := by decide +kernel
theorem dX4_whyNot_61 : decode cX4_whyNot 61 = .ok (.aaload, 1) := by decide +kernel
theorem dX4_whyNot_62 : decode cX4_whyNot 62 = .ok (.invokevirtual 233, 3) := by decide +kernel
theorem dX4_whyNot_65 : decode cX4_whyNot 65 = .ok (.ifCond .ne 5, 3) := by decide +kernel
theorem dX4_whyNot_68 : decode cX4_whyNot 68 = .ok (.iconst 3, 1) := by decide +kernel
theorem dX4_whyNot_69 : decode cX4_whyNot 69 = .ok (.ireturn, 1) := by decide +kernel
theorem dX4_whyNot_70 : decode cX4_whyNot 70 = .ok (.aload_n 0, 1) := by decide +kernel
theorem dX4_whyNot_71 : decode cX4_whyNot 71 = .ok (.aload_n 3, 1) := by decide +kernel
theorem dX4_whyNot_72 : decode cX4_whyNot 72 = .ok (.aload_n 3, 1) := by decide +kernel
theorem dX4_whyNot_73 : decode cX4_whyNot 73 = .ok (.getfield 111, 3) := by decide +kernel
theorem dX4_whyNot_76 : decode cX4_whyNot 76 = .ok (.invokevirtual 193, 3) := by decide +kernel
theorem dX4_whyNot_79 : decode cX4_whyNot 79 = .ok (.ifCond .ne 7, 3) := by decide +kernel
theorem dX4_whyNot_82 : decode cX4_whyNot 82 = .ok (.iconst 4, 1) := by decide +kernel
theorem dX4_whyNot_83 : decode cX4_whyNot 83 = .ok (.goto 4, 3) := by decide +kernel
theorem dX4_whyNot_86 : decode cX4_whyNot 86 = .ok (.iconst 0, 1) := by decide +kernel
theorem dX4_whyNot_87 : decode cX4_whyNot 87 = .ok (.ireturn, 1) := by decide +kernel
set_option maxRecDepth 20000 in
theorem ggX4_urgent_X4_isMoreUrgent : GoodIn wsX4_urgent wsX4_isMoreUrgent := goodIn_r _ [7, 8, 9, 10, 11, 12, 13, 14, 15, 16, 17, 18, 19, 37, 38, 39, 40, 41, 42] (by decide +kernel) (by decide +kernel)
set_option maxRecDepth 20000 in
theorem gX4_urgent_X4_isMoreUrgent : GoodIn wsX4_urgent (va_wsS RX4 247 yX4_isMoreUrgent wsX4_isMoreUrgent) := goodIn_app (goodIn_of _ (by decide +kernel)) ggX4_urgent_X4_isMoreUrgent
theorem dX4_urgent_0 : decode cX4_urgent 0 = .ok (.iconst (-1), 1) := by decide +kernel
theorem dX4_urgent_1 : decode cX4_urgent 1 = .ok (.istore_n 1, 1) := by decide +kernel
theorem dX4_urgent_2 : decode cX4_urgent 2 = .ok (.iconst 0, 1) := by decide +kernel
theorem dX4_urgent_3 : decode cX4_urgent 3 = .ok (.istore_n 2, 1) := by decide +kernel
theorem dX4_urgent_4 : decode cX4_urgent 4 = .ok (.iload_n 2, 1) := by decide +kernel
theorem dX4_urgent_5 : decode cX4_urgent 5 = .ok (.iconst 4, 1) := by decide +kernel
theorem dX4_urgent_6 : decode cX4_urgent 6 = .ok (.if_icmp .ge 55, 3) := by decide +kernel
theorem dX4_urgent_9 : decode cX4_urgent 9 = .ok (.aload_n 0, 1) := by decide +kernel
theorem dX4_urgent_10 : decode cX4_urgent 10 = .ok (.getfield 10, 3) := by decide +kernel
theorem dX4_urgent_13 : decode cX4_urgent 13 = .ok (.getfield 94, 3) := by decide +kernel
theorem dX4_urgent_16 : decode cX4_urgent 16 = .ok (.iload_n 2, 1) := by decide +kernel
theorem dX4_urgent_17 : decode cX4_urgent 17 = .ok (.aaload, 1) := by decide +kernel
theorem dX4_urgent_18 : decode cX4_urgent 18 = .ok (.getfield 125, 3) := by decide +kernel
theorem dX4_urgent_21 : decode cX4_urgent 21 = .ok (.ifCond .le 34, 3) := by decide +kernel
theorem dX4_urgent_24 : decode cX4_urgent 24 = .ok (.iload_n 1, 1) := by decide +kernel
theorem dX4_urgent_25 : decode cX4_urgent 25 = .ok (.iconst (-1), 1) := by decide +kernel
theorem dX4_urgent_26 : decode cX4_urgent 26 = .ok (.if_icmp .eq 27, 3) := by decide +kernel
theorem dX4_urgent_29 : decode cX4_urgent 29 = .ok (.aload_n 0, 1) := by decide +kernel
theorem dX4_urgent_30 : decode cX4_urgent 30 = .ok (.getfield 10, 3) := by decide +kernel
theorem dX4_urgent_33 : decode cX4_urgent 33 = .ok (.getfield 94, 3) := by decide +kernel
theorem dX4_urgent_36 : decode cX4_urgent 36 = .ok (.iload_n 2, 1) := by decide +kernel
theorem dX4_urgent_37 : decode cX4_urgent 37 = .ok (.aaload, 1) := by decide +kernel
theorem dX4_urgent_38 : decode cX4_urgent 38 = .ok (.aload_n 0, 1) := by decide +kernel
theorem dX4_urgent_39 : decode cX4_urgent 39 = .ok (.getfield 10, 3) := by decide +kernel
theorem dX4_urgent_42 : decode cX4_urgent 42 = .ok (.getfield 94, 3) := by decide +kernel
theorem dX4_urgent_45 : decode cX4_urgent 45 = .ok (.iload_n 1, 1) := by decide +kernel
theorem dX4_urgent_46 : decode cX4_urgent 46 = .ok (.aaload, 1) := by decide +kernel
theorem dX4_urgent_47 : decode cX4_urgent 47 = .ok (.invokestatic 247, 3) := by decide +kernel
theorem dX4_urgent_50 : decode cX4_urgent 50 = .ok (.ifCond .eq 5, 3) := by decide +kernel
theorem dX4_urgent_53 : decode cX4_urgent 53 = .ok (.iload_n 2, 1) := by decide +kernel
theorem dX4_urgent_54 : decode cX4_urgent 54 = .ok (.istore_n 1, 1) := by decide +kernel
theorem dX4_urgent_55 : decode cX4_urgent 55 = .ok (.iinc 2 1, 3) := by decide +kernel
theorem dX4_urgent_58 : decode cX4_urgent 58 = .ok (.goto (-54), 3) := by decide +kernel
theorem dX4_urgent_61 : decode cX4_urgent 61 = .ok (.iload_n 1, 1) := by decide +kernel
theorem dX4_urgent_62 : decode cX4_urgent 62 = .ok (.ireturn, 1) := by decide +kernel
set_option maxRecDepth 20000 in
theorem ggX4_shakesNeeded_X4_isNoSilo : GoodIn wsX4_shakesNeeded wsX4_isNoSilo := goodIn_r _ [8] (by decide +kernel) (by decide +kernel)
set_option maxRecDepth 20000 in
theorem gX4_shakesNeeded_X4_isNoSilo : GoodIn wsX4_shakesNeeded (va_wsS RX4 87 yX4_isNoSilo wsX4_isNoSilo) := goodIn_app (goodIn_of _ (by decide +kernel)) ggX4_shakesNeeded_X4_isNoSilo
set_option maxRecDepth 20000 in
theorem ggX4_shakesNeeded_X4_shakesToBreak : GoodIn wsX4_shakesNeeded wsX4_shakesToBreak := goodIn_r _ [12, 13, 3, 14, 15, 16, 17, 18, 19, 20, 21, 22, 23, 24, 25, 26, 27, 28, 29, 30, 31, 49, 50, 51, 52, 53, 54, 32, 33, 34, 35, 36, 37, 38, 39, 40, 41, 42, 43, 44, 45, 46, 47, 48] (by decide +kernel) (by decide +kernel)
set_option maxRecDepth 20000 in
theorem gX4_shakesNeeded_X4_shakesToBreak : GoodIn wsX4_shakesNeeded (wsV RX4 130 RX4 yX4_shakesToBreak wsX4_shakesToBreak) := goodIn_app (goodIn_of _ (by decide +kernel)) ggX4_shakesNeeded_X4_shakesToBreak
theorem dX4_shakesNeeded_0 : decode cX4_shakesNeeded 0 = .ok (.iload_n 1, 1) := by decide +kernel
theorem dX4_shakesNeeded_1 : decode cX4_shakesNeeded 1 = .ok (.invokestatic 87, 3) := by decide +kernel
theorem dX4_shakesNeeded_4 : decode cX4_shakesNeeded 4 = .ok (.ifCond .eq 13, 3) := by decide +kernel
theorem dX4_shakesNeeded_7 : decode cX4_shakesNeeded 7 = .ok (.new 56, 3) := by decide +kernel
theorem dX4_shakesNeeded_10 : decode cX4_shakesNeeded 10 = .ok (.dup, 1) := by decide +kernel
theorem dX4_shakesNeeded_11 : decode cX4_shakesNeeded 11 = .ok (.ldc 107, 2) := by decide +kernel
theorem dX4_shakesNeeded_13 : decode cX4_shakesNeeded 13 = .ok (.invokespecial 60, 3) := by decide +kernel
theorem dX4_shakesNeeded_16 : decode cX4_shakesNeeded 16 = .ok (.athrow, 1) := by decide +kernel
theorem dX4_shakesNeeded_17 : decode cX4_shakesNeeded 17 = .ok (.aload_n 0, 1) := by decide +kernel
theorem dX4_shakesNeeded_18 : decode cX4_shakesNeeded 18 = .ok (.aload_n 0, 1) := by decide +kernel
theorem dX4_shakesNeeded_19 : decode cX4_shakesNeeded 19 = .ok (.getfield 10, 3) := by decide +kernel
theorem dX4_shakesNeeded_22 : decode cX4_shakesNeeded 22 = .ok (.getfield 94, 3) := by decide +kernel
theorem dX4_shakesNeeded_25 : decode cX4_shakesNeeded 25 = .ok (.iload_n 1, 1) := by decide +kernel
theorem dX4_shakesNeeded_26 : decode cX4_shakesNeeded 26 = .ok (.aaload, 1) := by decide +kernel
theorem dX4_shakesNeeded_27 : decode cX4_shakesNeeded 27 = .ok (.invokevirtual 130, 3) := by decide +kernel
theorem dX4_shakesNeeded_30 : decode cX4_shakesNeeded 30 = .ok (.ireturn, 1) := by decide +kernel
set_option maxRecDepth 20000 in
theorem ggX4_softness_X3_siloTonnes : GoodIn wsX4_softness wsX3_siloTonnes := goodIn_r _ [7, 8, 9, 10, 11, 12, 13, 14, 15, 16, 17, 18, 19, 41, 42, 43, 44, 45, 46, 47, 48, 49, 50, 51, 52, 53, 54, 55] (by decide +kernel) (by decide +kernel)
set_option maxRecDepth 20000 in
theorem gX4_softness_X3_siloTonnes : GoodIn wsX4_softness (wsV RX4 216 RX3 yX3_siloTonnes wsX3_siloTonnes) := goodIn_app (goodIn_of _ (by decide +kernel)) ggX4_softness_X3_siloTonnes
set_option maxRecDepth 20000 in
theorem ggX4_softness_X4_softTonnes : GoodIn wsX4_softness wsX4_softTonnes := goodIn_r _ [24, 25, 26, 27, 28, 29, 30, 23, 31, 1, 32, 50, 51, 52, 53, 54, 55, 33, 34, 35, 36, 37, 38, 39, 40, 41, 42, 43, 44, 45, 46, 47, 48, 49] (by decide +kernel) (by decide +kernel)
set_option maxRecDepth 20000 in
theorem gX4_softness_X4_softTonnes : GoodIn wsX4_softness (wsV RX4 263 RX4 yX4_softTonnes wsX4_softTonnes) := goodIn_app (goodIn_of _ (by decide +kernel)) ggX4_softness_X4_softTonnes
theorem dX4_softness_0 : decode cX4_softness 0 = .ok (.aload_n 0, 1) := by decide +kernel
theorem dX4_softness_1 : decode cX4_softness 1 = .ok (.getfield 10, 3) := by decide +kernel
theorem dX4_softness_4 : decode cX4_softness 4 = .ok (.invokevirtual 216, 3) := by decide +kernel
theorem dX4_softness_7 : decode cX4_softness 7 = .ok (.istore_n 1, 1) := by decide +kernel
theorem dX4_softness_8 : decode cX4_softness 8 = .ok (.iload_n 1, 1) := by decide +kernel
theorem dX4_softness_9 : decode cX4_softness 9 = .ok (.ifCond .ne 5, 3) := by decide +kernel
theorem dX4_softness_12 : decode cX4_softness 12 = .ok (.dconst 1, 1) := by decide +kernel
theorem dX4_softness_13 : decode cX4_softness 13 = .ok (.dreturn, 1) := by decide +kernel
theorem dX4_softness_14 : decode cX4_softness 14 = .ok (.iconst 0, 1) := by decide +kernel
theorem dX4_softness_15 : decode cX4_softness 15 = .ok (.istore_n 2, 1) := by decide +kernel
theorem dX4_softness_16 : decode cX4_softness 16 = .ok (.iconst 0, 1) := by decide +kernel
theorem dX4_softness_17 : decode cX4_softness 17 = .ok (.istore_n 3, 1) := by decide +kernel
theorem dX4_softness_18 : decode cX4_softness 18 = .ok (.iload_n 3, 1) := by decide +kernel
theorem dX4_softness_19 : decode cX4_softness 19 = .ok (.iconst 4, 1) := by decide +kernel
theorem dX4_softness_20 : decode cX4_softness 20 = .ok (.if_icmp .ge 25, 3) := by decide +kernel
theorem dX4_softness_23 : decode cX4_softness 23 = .ok (.iload_n 2, 1) := by decide +kernel
theorem dX4_softness_24 : decode cX4_softness 24 = .ok (.aload_n 0, 1) := by decide +kernel
theorem dX4_softness_25 : decode cX4_softness 25 = .ok (.aload_n 0, 1) := by decide +kernel
theorem dX4_softness_26 : decode cX4_softness 26 = .ok (.getfield 10, 3) := by decide +kernel
theorem dX4_softness_29 : decode cX4_softness 29 = .ok (.getfield 94, 3) := by decide +kernel
theorem dX4_softness_32 : decode cX4_softness 32 = .ok (.iload_n 3, 1) := by decide +kernel
theorem dX4_softness_33 : decode cX4_softness 33 = .ok (.aaload, 1) := by decide +kernel
theorem dX4_softness_34 : decode cX4_softness 34 = .ok (.invokevirtual 263, 3) := by decide +kernel
theorem dX4_softness_37 : decode cX4_softness 37 = .ok (.iadd, 1) := by decide +kernel
theorem dX4_softness_38 : decode cX4_softness 38 = .ok (.istore_n 2, 1) := by decide +kernel
theorem dX4_softness_39 : decode cX4_softness 39 = .ok (.iinc 3 1, 3) := by decide +kernel
theorem dX4_softness_42 : decode cX4_softness 42 = .ok (.goto (-24), 3) := by decide +kernel
theorem dX4_softness_45 : decode cX4_softness 45 = .ok (.iload_n 2, 1) := by decide +kernel
theorem dX4_softness_46 : decode cX4_softness 46 = .ok (.i2d, 1) := by decide +kernel
theorem dX4_softness_47 : decode cX4_softness 47 = .ok (.iload_n 1, 1) := by decide +kernel
theorem dX4_softness_48 : decode cX4_softness 48 = .ok (.i2d, 1) := by decide +kernel
theorem dX4_softness_49 : decode cX4_softness 49 = .ok (.ddiv, 1) := by decide +kernel
theorem dX4_softness_50 : decode cX4_softness 50 = .ok (.dreturn, 1) := by decide +kernel
theorem dX4_isNoSilo_0 : decode cX4_isNoSilo 0 = .ok (.iload_n 0, 1) := by decide +kernel
theorem dX4_isNoSilo_1 : decode cX4_isNoSilo 1 = .ok (.ifCond .lt 8, 3) := by decide +kernel
theorem dX4_isNoSilo_4 : decode cX4_isNoSilo 4 = .ok (.iload_n 0, 1) := by decide +kernel
theorem dX4_isNoSilo_5 : decode cX4_isNoSilo 5 = .ok (.iconst 4, 1) := by decide +kernel
theorem dX4_isNoSilo_6 : decode cX4_isNoSilo 6 = .ok (.if_icmp .lt 7, 3) := by decide +kernel
theorem dX4_isNoSilo_9 : decode cX4_isNoSilo 9 = .ok (.iconst 1, 1) := by decide +kernel
theorem dX4_isNoSilo_10 : decode cX4_isNoSilo 10 = .ok (.goto 4, 3) := by decide +kernel
theorem dX4_isNoSilo_13 : decode cX4_isNoSilo 13 = .ok (.iconst 0, 1) := by decide +kernel
theorem dX4_isNoSilo_14 : decode cX4_isNoSilo 14 = .ok (.ireturn, 1) := by decide +kernel
theorem dX4_isNoShip_0 : decode cX4_isNoShip 0 = .ok (.iload_n 0, 1) := by decide +kernel
theorem dX4_isNoShip_1 : decode cX4_isNoShip 1 = .ok (.ifCond .lt 9, 3) := by decide +kernel
theorem dX4_isNoShip_4 : decode cX4_isNoShip 4 = .ok (.iload_n 0, 1) := by decide +kernel
theorem dX4_isNoShip_5 : decode cX4_isNoShip 5 = .ok (.bipush 6, 2) := by decide +kernel
theorem dX4_isNoShip_7 : decode cX4_isNoShip 7 = .ok (.if_icmp .lt 7, 3) := by decide +kernel
theorem dX4_isNoShip_10 : decode cX4_isNoShip 10 = .ok (.iconst 1, 1) := by decide +kernel
theorem dX4_isNoShip_11 : decode cX4_isNoShip 11 = .ok (.goto 4, 3) := by decide +kernel
theorem dX4_isNoShip_14 : decode cX4_isNoShip 14 = .ok (.iconst 0, 1) := by decide +kernel
theorem dX4_isNoShip_15 : decode cX4_isNoShip 15 = .ok (.ireturn, 1) := by decide +kernel
set_option maxRecDepth 20000 in
theorem ggX4_saveState_X3_becomeLike : GoodIn wsX4_saveState wsX3_becomeLike := goodIn_r _ [8, 9, 10, 11, 12, 13, 14, 15, 16, 17, 18, 19, 20, 21, 22, 23, 24, 25, 26, 27, 28, 29, 30, 31, 32, 33, 34, 35, 44, 45, 46, 47, 48, 49, 50, 51, 52, 53, 54, 55, 56, 57, 58, 59, 60] (by decide +kernel) (by decide +kernel)
set_option maxRecDepth 20000 in
theorem gX4_saveState_X3_becomeLike : GoodIn wsX4_saveState (wsV RX4 186 RX3 yX3_becomeLike wsX3_becomeLike) := goodIn_app (goodIn_of _ (by decide +kernel)) ggX4_saveState_X3_becomeLike
theorem dX4_saveState_0 : decode cX4_saveState 0 = .ok (.aload_n 0, 1) := by decide +kernel
theorem dX4_saveState_1 : decode cX4_saveState 1 = .ok (.getfield 20, 3) := by decide +kernel
theorem dX4_saveState_4 : decode cX4_saveState 4 = .ok (.bipush 6, 2) := by decide +kernel
theorem dX4_saveState_6 : decode cX4_saveState 6 = .ok (.if_icmp .ne 55, 3) := by decide +kernel
theorem dX4_saveState_9 : decode cX4_saveState 9 = .ok (.aload_n 0, 1) := by decide +kernel
theorem dX4_saveState_10 : decode cX4_saveState 10 = .ok (.getfield 16, 3) := by decide +kernel
theorem dX4_saveState_13 : decode cX4_saveState 13 = .ok (.iconst 0, 1) := by decide +kernel
theorem dX4_saveState_14 : decode cX4_saveState 14 = .ok (.aaload, 1) := by decide +kernel
theorem dX4_saveState_15 : decode cX4_saveState 15 = .ok (.astore_n 1, 1) := by decide +kernel
theorem dX4_saveState_16 : decode cX4_saveState 16 = .ok (.iconst 1, 1) := by decide +kernel
theorem dX4_saveState_17 : decode cX4_saveState 17 = .ok (.istore_n 2, 1) := by decide +kernel
theorem dX4_saveState_18 : decode cX4_saveState 18 = .ok (.iload_n 2, 1) := by decide +kernel
theorem dX4_saveState_19 : decode cX4_saveState 19 = .ok (.bipush 6, 2) := by decide +kernel
theorem dX4_saveState_21 : decode cX4_saveState 21 = .ok (.if_icmp .ge 23, 3) := by decide +kernel
theorem dX4_saveState_24 : decode cX4_saveState 24 = .ok (.aload_n 0, 1) := by decide +kernel
theorem dX4_saveState_25 : decode cX4_saveState 25 = .ok (.getfield 16, 3) := by decide +kernel
theorem dX4_saveState_28 : decode cX4_saveState 28 = .ok (.iload_n 2, 1) := by decide +kernel
theorem dX4_saveState_29 : decode cX4_saveState 29 = .ok (.iconst 1, 1) := by decide +kernel
theorem dX4_saveState_30 : decode cX4_saveState 30 = .ok (.isub, 1) := by decide +kernel
theorem dX4_saveState_31 : decode cX4_saveState 31 = .ok (.aload_n 0, 1) := by decide +kernel
theorem dX4_saveState_32 : decode cX4_saveState 32 = .ok (.getfield 16, 3) := by decide +kernel
theorem dX4_saveState_35 : decode cX4_saveState 35 = .ok (.iload_n 2, 1) := by decide +kernel
theorem dX4_saveState_36 : decode cX4_saveState 36 = .ok (.aaload, 1) := by decide +kernel
theorem dX4_saveState_37 : decode cX4_saveState 37 = .ok (.aastore, 1) := by decide +kernel
theorem dX4_saveState_38 : decode cX4_saveState 38 = .ok (.iinc 2 1, 3) := by decide +kernel
theorem dX4_saveState_41 : decode cX4_saveState 41 = .ok (.goto (-23), 3) := by decide +kernel
theorem dX4_saveState_44 : decode cX4_saveState 44 = .ok (.aload_n 0, 1) := by decide +kernel
theorem dX4_saveState_45 : decode cX4_saveState 45 = .ok (.getfield 16, 3) := by decide +kernel
theorem dX4_saveState_48 : decode cX4_saveState 48 = .ok (.iconst 5, 1) := by decide +kernel
theorem dX4_saveState_49 : decode cX4_saveState 49 = .ok (.aload_n 1, 1) := by decide +kernel
theorem dX4_saveState_50 : decode cX4_saveState 50 = .ok (.aastore, 1) := by decide +kernel
theorem dX4_saveState_51 : decode cX4_saveState 51 = .ok (.aload_n 0, 1) := by decide +kernel
theorem dX4_saveState_52 : decode cX4_saveState 52 = .ok (.dup, 1) := by decide +kernel
theorem dX4_saveState_53 : decode cX4_saveState 53 = .ok (.getfield 20, 3) := by decide +kernel
theorem dX4_saveState_56 : decode cX4_saveState 56 = .ok (.iconst 1, 1) := by decide +kernel
theorem dX4_saveState_57 : decode cX4_saveState 57 = .ok (.isub, 1) := by decide +kernel
theorem dX4_saveState_58 : decode cX4_saveState 58 = .ok (.putfield 20, 3) := by decide +kernel
theorem dX4_saveState_61 : decode cX4_saveState 61 = .ok (.aload_n 0, 1) := by decide +kernel
theorem dX4_saveState_62 : decode cX4_saveState 62 = .ok (.getfield 16, 3) := by decide +kernel
theorem dX4_saveState_65 : decode cX4_saveState 65 = .ok (.aload_n 0, 1) := by decide +kernel
theorem dX4_saveState_66 : decode cX4_saveState 66 = .ok (.getfield 20, 3) := by decide +kernel
theorem dX4_saveState_69 : decode cX4_saveState 69 = .ok (.aaload, 1) := by decide +kernel
theorem dX4_saveState_70 : decode cX4_saveState 70 = .ok (.aload_n 0, 1) := by decide +kernel
theorem dX4_saveState_71 : decode cX4_saveState 71 = .ok (.getfield 10, 3) := by decide +kernel
theorem dX4_saveState_74 : decode cX4_saveState 74 = .ok (.invokevirtual 186, 3) := by decide +kernel
theorem dX4_saveState_77 : decode cX4_saveState 77 = .ok (.aload_n 0, 1) := by decide +kernel
theorem dX4_saveState_78 : decode cX4_saveState 78 = .ok (.dup, 1) := by decide +kernel
theorem dX4_saveState_79 : decode cX4_saveState 79 = .ok (.getfield 20, 3) := by decide +kernel
theorem dX4_saveState_82 : decode cX4_saveState 82 = .ok (.iconst 1, 1) := by decide +kernel
theorem dX4_saveState_83 : decode cX4_saveState 83 = .ok (.iadd, 1) := by decide +kernel
theorem dX4_saveState_84 : decode cX4_saveState 84 = .ok (.putfield 20, 3) := by decide +kernel
theorem dX4_saveState_87 : decode cX4_saveState 87 = .ok (.return_, 1) := by decide +kernel
set_option maxRecDepth 20000 in
theorem ggX4_bringIn_X1_place : GoodIn wsX4_bringIn wsX1_place := goodIn_r _ [10, 11, 12, 3, 4, 5, 13, 14, 15, 9, 16, 17, 18, 19, 20, 21, 22, 23, 24, 25, 26, 34, 35, 36, 37, 38, 39] (by decide +kernel) (by decide +kernel)
set_option maxRecDepth 20000 in
theorem gX4_bringIn_X1_place : GoodIn wsX4_bringIn (wsV RX4 294 RX1 yX1_place wsX1_place) := goodIn_app (goodIn_of _ (by decide +kernel)) ggX4_bringIn_X1_place
set_option maxRecDepth 20000 in
theorem ggX4_bringIn_X1_fill : GoodIn wsX4_bringIn wsX1_fill := goodIn_r _ [30, 12, 3, 4, 5, 11, 21, 26, 31, 22, 23, 24, 9, 25, 34, 35, 36, 37, 38, 39] (by decide +kernel) (by decide +kernel)
set_option maxRecDepth 20000 in
theorem gX4_bringIn_X1_fill : GoodIn wsX4_bringIn (wsV RX4 297 RX1 yX1_fill wsX1_fill) := goodIn_app (goodIn_of _ (by decide +kernel)) ggX4_bringIn_X1_fill
theorem dX4_bringIn_0 : decode cX4_bringIn 0 = .ok (.iload_n 3, 1) := by decide +kernel
theorem dX4_bringIn_1 : decode cX4_bringIn 1 = .ok (.aload_n 2, 1) := by decide +kernel
theorem dX4_bringIn_2 : decode cX4_bringIn 2 = .ok (.getfield 75, 3) := by decide +kernel
theorem dX4_bringIn_5 : decode cX4_bringIn 5 = .ok (.aload_n 1, 1) := by decide +kernel
theorem dX4_bringIn_6 : decode cX4_bringIn 6 = .ok (.invokevirtual 294, 3) := by decide +kernel
theorem dX4_bringIn_9 : decode cX4_bringIn 9 = .ok (.invokestatic 257, 3) := by decide +kernel
theorem dX4_bringIn_12 : decode cX4_bringIn 12 = .ok (.invokestatic 257, 3) := by decide +kernel
theorem dX4_bringIn_15 : decode cX4_bringIn 15 = .ok (.istore 4, 2) := by decide +kernel
theorem dX4_bringIn_17 : decode cX4_bringIn 17 = .ok (.aload_n 2, 1) := by decide +kernel
theorem dX4_bringIn_18 : decode cX4_bringIn 18 = .ok (.dup, 1) := by decide +kernel
theorem dX4_bringIn_19 : decode cX4_bringIn 19 = .ok (.getfield 75, 3) := by decide +kernel
theorem dX4_bringIn_22 : decode cX4_bringIn 22 = .ok (.iload 4, 2) := by decide +kernel
theorem dX4_bringIn_24 : decode cX4_bringIn 24 = .ok (.isub, 1) := by decide +kernel
theorem dX4_bringIn_25 : decode cX4_bringIn 25 = .ok (.putfield 75, 3) := by decide +kernel
theorem dX4_bringIn_28 : decode cX4_bringIn 28 = .ok (.aload_n 1, 1) := by decide +kernel
theorem dX4_bringIn_29 : decode cX4_bringIn 29 = .ok (.iload 4, 2) := by decide +kernel
theorem dX4_bringIn_31 : decode cX4_bringIn 31 = .ok (.invokevirtual 297, 3) := by decide +kernel
theorem dX4_bringIn_34 : decode cX4_bringIn 34 = .ok (.iload 4, 2) := by decide +kernel
theorem dX4_bringIn_36 : decode cX4_bringIn 36 = .ok (.ireturn, 1) := by decide +kernel
set_option maxRecDepth 20000 in
theorem ggX4_letOut_X1_total : GoodIn wsX4_letOut wsX1_total := goodIn_r _ [7, 8, 9, 10, 6, 11, 12, 13, 76, 77, 78, 79, 80, 81] (by decide +kernel) (by decide +kernel)
set_option maxRecDepth 20000 in
theorem gX4_letOut_X1_total : GoodIn wsX4_letOut (wsV RX4 190 RX1 yX1_total wsX1_total) := goodIn_app (goodIn_of _ (by decide +kernel)) ggX4_letOut_X1_total
set_option maxRecDepth 20000 in
theorem ggX4_letOut_X4_pour : GoodIn wsX4_letOut wsX4_pour := goodIn_r _ [18, 19, 20, 21, 17, 22, 23, 24, 25, 26, 27, 28, 29, 30, 31, 32, 33, 34, 35, 36, 37, 38, 39, 40, 1, 41, 42, 43, 44, 45, 46, 47, 48, 49, 50, 51, 52, 53, 54, 55, 6, 56, 13, 12, 57, 58, 76, 77, 78, 79, 80, 81, 82, 83, 59, 60, 61, 62, 63, 64, 65, 66, 67, 68, 69, 70, 71, 72, 73, 74, 75] (by decide +kernel) (by decide +kernel)
set_option maxRecDepth 20000 in
theorem gX4_letOut_X4_pour : GoodIn wsX4_letOut (wsV RX4 244 RX4 yX4_pour wsX4_pour) := goodIn_app (goodIn_of _ (by decide +kernel)) ggX4_letOut_X4_pour
theorem dX4_letOut_0 : decode cX4_letOut 0 = .ok (.aload_n 1, 1) := by decide +kernel
theorem dX4_letOut_1 : decode cX4_letOut 1 = .ok (.invokevirtual 190, 3) := by decide +kernel
theorem dX4_letOut_4 : decode cX4_letOut 4 = .ok (.istore 4, 2) := by decide +kernel
theorem dX4_letOut_6 : decode cX4_letOut 6 = .ok (.aload_n 0, 1) := by decide +kernel
theorem dX4_letOut_7 : decode cX4_letOut 7 = .ok (.aload_n 1, 1) := by decide +kernel
theorem dX4_letOut_8 : decode cX4_letOut 8 = .ok (.aload_n 2, 1) := by decide +kernel
theorem dX4_letOut_9 : decode cX4_letOut 9 = .ok (.iload_n 3, 1) := by decide +kernel
theorem dX4_letOut_10 : decode cX4_letOut 10 = .ok (.invokevirtual 244, 3) := by decide +kernel
theorem dX4_letOut_13 : decode cX4_letOut 13 = .ok (.istore 5, 2) := by decide +kernel
theorem dX4_letOut_15 : decode cX4_letOut 15 = .ok (.aload_n 0, 1) := by decide +kernel
theorem dX4_letOut_16 : decode cX4_letOut 16 = .ok (.getfield 10, 3) := by decide +kernel
theorem dX4_letOut_19 : decode cX4_letOut 19 = .ok (.dup, 1) := by decide +kernel
theorem dX4_letOut_20 : decode cX4_letOut 20 = .ok (.getfield 222, 3) := by decide +kernel
theorem dX4_letOut_23 : decode cX4_letOut 23 = .ok (.iload 4, 2) := by decide +kernel
theorem dX4_letOut_25 : decode cX4_letOut 25 = .ok (.aload_n 1, 1) := by decide +kernel
theorem dX4_letOut_26 : decode cX4_letOut 26 = .ok (.invokevirtual 190, 3) := by decide +kernel
theorem dX4_letOut_29 : decode cX4_letOut 29 = .ok (.isub, 1) := by decide +kernel
theorem dX4_letOut_30 : decode cX4_letOut 30 = .ok (.iload 5, 2) := by decide +kernel
theorem dX4_letOut_32 : decode cX4_letOut 32 = .ok (.isub, 1) := by decide +kernel
theorem dX4_letOut_33 : decode cX4_letOut 33 = .ok (.iadd, 1) := by decide +kernel
theorem dX4_letOut_34 : decode cX4_letOut 34 = .ok (.putfield 222, 3) := by decide +kernel
theorem dX4_letOut_37 : decode cX4_letOut 37 = .ok (.iload 5, 2) := by decide +kernel
theorem dX4_letOut_39 : decode cX4_letOut 39 = .ok (.ireturn, 1) := by decide +kernel
set_option maxRecDepth 20000 in
theorem ggX4_pour_X4_pourForHour : GoodIn wsX4_pour wsX4_pourForHour := goodIn_r _ [5, 6, 7, 8, 9, 10, 11, 12, 13, 14, 15, 16, 17, 4, 18, 19, 20, 21, 22, 23, 24, 25, 26, 27, 28, 29, 30, 31, 32, 33, 34, 35, 36, 37, 38, 39, 40, 41, 42, 43, 44, 45, 46, 47, 48, 49, 50, 51, 52, 53, 54, 55, 56, 57, 58, 59, 60, 61, 62, 63, 64, 65, 66, 67, 68, 69, 70] (by decide +kernel) (by decide +kernel)
set_option maxRecDepth 20000 in
theorem gX4_pour_X4_pourForHour : GoodIn wsX4_pour (wsV RX4 301 RX4 yX4_pourForHour wsX4_pourForHour) := goodIn_app (goodIn_of _ (by decide +kernel)) ggX4_pour_X4_pourForHour
theorem dX4_pour_0 : decode cX4_pour 0 = .ok (.iconst 0, 1) := by decide +kernel
theorem dX4_pour_1 : decode cX4_pour 1 = .ok (.istore 4, 2) := by decide +kernel
theorem dX4_pour_3 : decode cX4_pour 3 = .ok (.iconst 0, 1) := by decide +kernel
theorem dX4_pour_4 : decode cX4_pour 4 = .ok (.istore 5, 2) := by decide +kernel
theorem dX4_pour_6 : decode cX4_pour 6 = .ok (.iload 5, 2) := by decide +kernel
theorem dX4_pour_8 : decode cX4_pour 8 = .ok (.iload_n 3, 1) := by decide +kernel
theorem dX4_pour_9 : decode cX4_pour 9 = .ok (.if_icmp .ge 20, 3) := by decide +kernel
theorem dX4_pour_12 : decode cX4_pour 12 = .ok (.iload 4, 2) := by decide +kernel
theorem dX4_pour_14 : decode cX4_pour 14 = .ok (.aload_n 0, 1) := by decide +kernel
theorem dX4_pour_15 : decode cX4_pour 15 = .ok (.aload_n 1, 1) := by decide +kernel
theorem dX4_pour_16 : decode cX4_pour 16 = .ok (.aload_n 2, 1) := by decide +kernel
theorem dX4_pour_17 : decode cX4_pour 17 = .ok (.invokevirtual 301, 3) := by decide +kernel
theorem dX4_pour_20 : decode cX4_pour 20 = .ok (.iadd, 1) := by decide +kernel
theorem dX4_pour_21 : decode cX4_pour 21 = .ok (.istore 4, 2) := by decide +kernel
theorem dX4_pour_23 : decode cX4_pour 23 = .ok (.iinc 5 1, 3) := by decide +kernel
theorem dX4_pour_26 : decode cX4_pour 26 = .ok (.goto (-20), 3) := by decide +kernel
theorem dX4_pour_29 : decode cX4_pour 29 = .ok (.iload 4, 2) := by decide +kernel
theorem dX4_pour_31 : decode cX4_pour 31 = .ok (.ireturn, 1) := by decide +kernel
set_option maxRecDepth 20000 in
theorem ggX4_pourForHour_X4_outInHour : GoodIn wsX4_pourForHour wsX4_outInHour := goodIn_r _ [14, 1, 15, 16, 17, 18, 13, 19, 20, 21, 42, 43, 44, 45, 46, 47, 50, 51, 52, 53, 54, 55, 56, 57, 58, 59, 60, 61, 62, 63, 64, 65, 66] (by decide +kernel) (by decide +kernel)
set_option maxRecDepth 20000 in
theorem gX4_pourForHour_X4_outInHour : GoodIn wsX4_pourForHour (wsV RX4 193 RX4 yX4_outInHour wsX4_outInHour) := goodIn_app (goodIn_of _ (by decide +kernel)) ggX4_pourForHour_X4_outInHour
set_option maxRecDepth 20000 in
theorem ggX4_pourForHour_X0_room : GoodIn wsX4_pourForHour wsX0_room := goodIn_r _ [26, 27, 28, 48, 49] (by decide +kernel) (by decide +kernel)
set_option maxRecDepth 20000 in
theorem gX4_pourForHour_X0_room : GoodIn wsX4_pourForHour (wsV RX4 233 RX0 yX0_room wsX0_room) := goodIn_app (goodIn_of _ (by decide +kernel)) ggX4_pourForHour_X0_room
set_option maxRecDepth 20000 in
theorem ggX4_pourForHour_X4_dustOf : GoodIn wsX4_pourForHour wsX4_dustOf := goodIn_r _ [32, 20, 21, 50, 51, 52, 53, 54, 55, 56, 57, 58, 59, 60, 61, 62, 63, 64, 65, 66] (by decide +kernel) (by decide +kernel)
set_option maxRecDepth 20000 in
theorem gX4_pourForHour_X4_dustOf : GoodIn wsX4_pourForHour (wsV RX4 305 RX4 yX4_dustOf wsX4_dustOf) := goodIn_app (goodIn_of _ (by decide +kernel)) ggX4_pourForHour_X4_dustOf
set_option maxRecDepth 20000 in
theorem ggX4_pourForHour_X1_takeFromLowest : GoodIn wsX4_pourForHour wsX1_takeFromLowest := goodIn_r _ [37, 38, 39, 40, 41, 42, 43, 44, 45, 46, 47] (by decide +kernel) (by decide +kernel)
set_option maxRecDepth 20000 in
theorem gX4_pourForHour_X1_takeFromLowest : GoodIn wsX4_pourForHour (wsV RX4 308 RX1 yX1_takeFromLowest wsX1_takeFromLowest) := goodIn_app (goodIn_of _ (by decide +kernel)) ggX4_pourForHour_X1_takeFromLowest
theorem dX4_pourForHour_0 : decode cX4_pourForHour 0 = .ok (.aload_n 1, 1) := by decide +kernel
theorem dX4_pourForHour_1 : decode cX4_pourForHour 1 = .ok (.getfield 125, 3) := by decide +kernel
theorem dX4_pourForHour_4 : decode cX4_pourForHour 4 = .ok (.ifCond .eq 11, 3) := by decide +kernel
theorem dX4_pourForHour_7 : decode cX4_pourForHour 7 = .ok (.aload_n 1, 1) := by decide +kernel
theorem dX4_pourForHour_8 : decode cX4_pourForHour 8 = .ok (.getfield 141, 3) := by decide +kernel
theorem dX4_pourForHour_11 : decode cX4_pourForHour 11 = .ok (.iconst 2, 1) := by decide +kernel
theorem dX4_pourForHour_12 : decode cX4_pourForHour 12 = .ok (.if_icmp .ne 5, 3) := by decide +kernel
theorem dX4_pourForHour_15 : decode cX4_pourForHour 15 = .ok (.iconst 0, 1) := by decide +kernel
theorem dX4_pourForHour_16 : decode cX4_pourForHour 16 = .ok (.ireturn, 1) := by decide +kernel
theorem dX4_pourForHour_17 : decode cX4_pourForHour 17 = .ok (.aload_n 0, 1) := by decide +kernel
theorem dX4_pourForHour_18 : decode cX4_pourForHour 18 = .ok (.aload_n 1, 1) := by decide +kernel
theorem dX4_pourForHour_19 : decode cX4_pourForHour 19 = .ok (.aload_n 1, 1) := by decide +kernel
theorem dX4_pourForHour_20 : decode cX4_pourForHour 20 = .ok (.getfield 111, 3) := by decide +kernel
theorem dX4_pourForHour_23 : decode cX4_pourForHour 23 = .ok (.invokevirtual 193, 3) := by decide +kernel
theorem dX4_pourForHour_26 : decode cX4_pourForHour 26 = .ok (.aload_n 1, 1) := by decide +kernel
theorem dX4_pourForHour_27 : decode cX4_pourForHour 27 = .ok (.getfield 201, 3) := by decide +kernel
theorem dX4_pourForHour_30 : decode cX4_pourForHour 30 = .ok (.iconst 0, 1) := by decide +kernel
theorem dX4_pourForHour_31 : decode cX4_pourForHour 31 = .ok (.iaload, 1) := by decide +kernel
theorem dX4_pourForHour_32 : decode cX4_pourForHour 32 = .ok (.aload_n 2, 1) := by decide +kernel
theorem dX4_pourForHour_33 : decode cX4_pourForHour 33 = .ok (.invokevirtual 233, 3) := by decide +kernel
theorem dX4_pourForHour_36 : decode cX4_pourForHour 36 = .ok (.invokestatic 257, 3) := by decide +kernel
theorem dX4_pourForHour_39 : decode cX4_pourForHour 39 = .ok (.invokestatic 257, 3) := by decide +kernel
theorem dX4_pourForHour_42 : decode cX4_pourForHour 42 = .ok (.istore_n 3, 1) := by decide +kernel
theorem dX4_pourForHour_43 : decode cX4_pourForHour 43 = .ok (.iload_n 3, 1) := by decide +kernel
theorem dX4_pourForHour_44 : decode cX4_pourForHour 44 = .ok (.aload_n 0, 1) := by decide +kernel
theorem dX4_pourForHour_45 : decode cX4_pourForHour 45 = .ok (.iload_n 3, 1) := by decide +kernel
theorem dX4_pourForHour_46 : decode cX4_pourForHour 46 = .ok (.invokevirtual 305, 3) := by decide +kernel
theorem dX4_pourForHour_49 : decode cX4_pourForHour 49 = .ok (.isub, 1) := by decide +kernel
theorem dX4_pourForHour_50 : decode cX4_pourForHour 50 = .ok (.istore 4, 2) := by decide +kernel
theorem dX4_pourForHour_52 : decode cX4_pourForHour 52 = .ok (.aload_n 1, 1) := by decide +kernel
theorem dX4_pourForHour_53 : decode cX4_pourForHour 53 = .ok (.iload_n 3, 1) := by decide +kernel
theorem dX4_pourForHour_54 : decode cX4_pourForHour 54 = .ok (.invokevirtual 308, 3) := by decide +kernel
theorem dX4_pourForHour_57 : decode cX4_pourForHour 57 = .ok (.aload_n 2, 1) := by decide +kernel
theorem dX4_pourForHour_58 : decode cX4_pourForHour 58 = .ok (.dup, 1) := by decide +kernel
theorem dX4_pourForHour_59 : decode cX4_pourForHour 59 = .ok (.getfield 75, 3) := by decide +kernel
theorem dX4_pourForHour_62 : decode cX4_pourForHour 62 = .ok (.iload 4, 2) := by decide +kernel
theorem dX4_pourForHour_64 : decode cX4_pourForHour 64 = .ok (.iadd, 1) := by decide +kernel
theorem dX4_pourForHour_65 : decode cX4_pourForHour 65 = .ok (.putfield 75, 3) := by decide +kernel
theorem dX4_pourForHour_68 : decode cX4_pourForHour 68 = .ok (.iload 4, 2) := by decide +kernel
theorem dX4_pourForHour_70 : decode cX4_pourForHour 70 = .ok (.ireturn, 1) := by decide +kernel
theorem dX4_dustOf_0 : decode cX4_dustOf 0 = .ok (.aload_n 0, 1) := by decide +kernel
theorem dX4_dustOf_1 : decode cX4_dustOf 1 = .ok (.getfield 10, 3) := by decide +kernel
theorem dX4_dustOf_4 : decode cX4_dustOf 4 = .ok (.getfield 117, 3) := by decide +kernel
theorem dX4_dustOf_7 : decode cX4_dustOf 7 = .ok (.iconst 2, 1) := by decide +kernel
theorem dX4_dustOf_8 : decode cX4_dustOf 8 = .ok (.iaload, 1) := by decide +kernel
theorem dX4_dustOf_9 : decode cX4_dustOf 9 = .ok (.istore_n 2, 1) := by decide +kernel
theorem dX4_dustOf_10 : decode cX4_dustOf 10 = .ok (.iload_n 2, 1) := by decide +kernel
theorem dX4_dustOf_11 : decode cX4_dustOf 11 = .ok (.ifCond .le 9, 3) := by decide +kernel
theorem dX4_dustOf_14 : decode cX4_dustOf 14 = .ok (.iload_n 1, 1) := by decide +kernel
theorem dX4_dustOf_15 : decode cX4_dustOf 15 = .ok (.iload_n 2, 1) := by decide +kernel
theorem dX4_dustOf_16 : decode cX4_dustOf 16 = .ok (.idiv, 1) := by decide +kernel
theorem dX4_dustOf_17 : decode cX4_dustOf 17 = .ok (.goto 4, 3) := by decide +kernel
theorem dX4_dustOf_20 : decode cX4_dustOf 20 = .ok (.iconst 0, 1) := by decide +kernel
theorem dX4_dustOf_21 : decode cX4_dustOf 21 = .ok (.ireturn, 1) := by decide +kernel
set_option maxRecDepth 20000 in
theorem ggX4_outInHour_X4_hardnessAt : GoodIn wsX4_outInHour wsX4_hardnessAt := goodIn_r _ [7, 8, 9, 16, 17, 18, 19, 20, 21, 22, 23, 24, 25, 26, 27, 28, 29, 30, 31, 32] (by decide +kernel) (by decide +kernel)
set_option maxRecDepth 20000 in
theorem gX4_outInHour_X4_hardnessAt : GoodIn wsX4_outInHour (wsV RX4 206 RX4 yX4_hardnessAt wsX4_hardnessAt) := goodIn_app (goodIn_of _ (by decide +kernel)) ggX4_outInHour_X4_hardnessAt
theorem dX4_outInHour_0 : decode cX4_outInHour 0 = .ok (.aload_n 1, 1) := by decide +kernel
theorem dX4_outInHour_1 : decode cX4_outInHour 1 = .ok (.getfield 125, 3) := by decide +kernel
theorem dX4_outInHour_4 : decode cX4_outInHour 4 = .ok (.ifCond .ne 5, 3) := by decide +kernel
theorem dX4_outInHour_7 : decode cX4_outInHour 7 = .ok (.iconst 0, 1) := by decide +kernel
theorem dX4_outInHour_8 : decode cX4_outInHour 8 = .ok (.ireturn, 1) := by decide +kernel
theorem dX4_outInHour_9 : decode cX4_outInHour 9 = .ok (.aload_n 0, 1) := by decide +kernel
theorem dX4_outInHour_10 : decode cX4_outInHour 10 = .ok (.aload_n 1, 1) := by decide +kernel
theorem dX4_outInHour_11 : decode cX4_outInHour 11 = .ok (.getfield 203, 3) := by decide +kernel
theorem dX4_outInHour_14 : decode cX4_outInHour 14 = .ok (.iconst 0, 1) := by decide +kernel
theorem dX4_outInHour_15 : decode cX4_outInHour 15 = .ok (.iaload, 1) := by decide +kernel
theorem dX4_outInHour_16 : decode cX4_outInHour 16 = .ok (.invokevirtual 206, 3) := by decide +kernel
theorem dX4_outInHour_19 : decode cX4_outInHour 19 = .ok (.lookupswitch 53 #[(0, 25), (1, 38)], 25) := by decide +kernel
theorem dX4_outInHour_44 : decode cX4_outInHour 44 = .ok (.iload_n 2, 1) := by decide +kernel
theorem dX4_outInHour_45 : decode cX4_outInHour 45 = .ok (.ifCond .ne 7, 3) := by decide +kernel
theorem dX4_outInHour_48 : decode cX4_outInHour 48 = .ok (.iconst 5, 1) := by decide +kernel
theorem dX4_outInHour_49 : decode cX4_outInHour 49 = .ok (.goto 7, 3) := by decide +kernel
theorem dX4_outInHour_52 : decode cX4_outInHour 52 = .ok (.bipush 40, 2) := by decide +kernel
theorem dX4_outInHour_54 : decode cX4_outInHour 54 = .ok (.iload_n 2, 1) := by decide +kernel
theorem dX4_outInHour_55 : decode cX4_outInHour 55 = .ok (.imul, 1) := by decide +kernel
theorem dX4_outInHour_56 : decode cX4_outInHour 56 = .ok (.ireturn, 1) := by decide +kernel
theorem dX4_outInHour_57 : decode cX4_outInHour 57 = .ok (.iload_n 2, 1) := by decide +kernel
theorem dX4_outInHour_58 : decode cX4_outInHour 58 = .ok (.ifCond .ne 7, 3) := by decide +kernel
theorem dX4_outInHour_61 : decode cX4_outInHour 61 = .ok (.iconst 0, 1) := by decide +kernel
theorem dX4_outInHour_62 : decode cX4_outInHour 62 = .ok (.goto 9, 3) := by decide +kernel
theorem dX4_outInHour_65 : decode cX4_outInHour 65 = .ok (.bipush 20, 2) := by decide +kernel
theorem dX4_outInHour_67 : decode cX4_outInHour 67 = .ok (.iload_n 2, 1) := by decide +kernel
theorem dX4_outInHour_68 : decode cX4_outInHour 68 = .ok (.iconst 1, 1) := by decide +kernel
theorem dX4_outInHour_69 : decode cX4_outInHour 69 = .ok (.isub, 1) := by decide +kernel
theorem dX4_outInHour_70 : decode cX4_outInHour 70 = .ok (.imul, 1) := by decide +kernel
theorem dX4_outInHour_71 : decode cX4_outInHour 71 = .ok (.ireturn, 1) := by decide +kernel
theorem dX4_outInHour_72 : decode cX4_outInHour 72 = .ok (.iload_n 2, 1) := by decide +kernel
theorem dX4_outInHour_73 : decode cX4_outInHour 73 = .ok (.iconst 4, 1) := by decide +kernel
theorem dX4_outInHour_74 : decode cX4_outInHour 74 = .ok (.if_icmp .ne 12, 3) := by decide +kernel
theorem dX4_outInHour_77 : decode cX4_outInHour 77 = .ok (.bipush 10, 2) := by decide +kernel
theorem dX4_outInHour_79 : decode cX4_outInHour 79 = .ok (.iload_n 2, 1) := by decide +kernel
theorem dX4_outInHour_80 : decode cX4_outInHour 80 = .ok (.iconst 3, 1) := by decide +kernel
theorem dX4_outInHour_81 : decode cX4_outInHour 81 = .ok (.isub, 1) := by decide +kernel
theorem dX4_outInHour_82 : decode cX4_outInHour 82 = .ok (.imul, 1) := by decide +kernel
theorem dX4_outInHour_83 : decode cX4_outInHour 83 = .ok (.goto 4, 3) := by decide +kernel
theorem dX4_outInHour_86 : decode cX4_outInHour 86 = .ok (.iconst 0, 1) := by decide +kernel
theorem dX4_outInHour_87 : decode cX4_outInHour 87 = .ok (.ireturn, 1) := by decide +kernel
theorem dX4_hardnessAt_0 : decode cX4_hardnessAt 0 = .ok (.aload_n 0, 1) := by decide +kernel
theorem dX4_hardnessAt_1 : decode cX4_hardnessAt 1 = .ok (.getfield 10, 3) := by decide +kernel
theorem dX4_hardnessAt_4 : decode cX4_hardnessAt 4 = .ok (.getfield 117, 3) := by decide +kernel
theorem dX4_hardnessAt_7 : decode cX4_hardnessAt 7 = .ok (.iconst 1, 1) := by decide +kernel
theorem dX4_hardnessAt_8 : decode cX4_hardnessAt 8 = .ok (.iaload, 1) := by decide +kernel
theorem dX4_hardnessAt_9 : decode cX4_hardnessAt 9 = .ok (.istore_n 2, 1) := by decide +kernel
theorem dX4_hardnessAt_10 : decode cX4_hardnessAt 10 = .ok (.iload_n 1, 1) := by decide +kernel
theorem dX4_hardnessAt_11 : decode cX4_hardnessAt 11 = .ok (.iload_n 2, 1) := by decide +kernel
theorem dX4_hardnessAt_12 : decode cX4_hardnessAt 12 = .ok (.if_icmp .gt 5, 3) := by decide +kernel
theorem dX4_hardnessAt_15 : decode cX4_hardnessAt 15 = .ok (.iconst 0, 1) := by decide +kernel
theorem dX4_hardnessAt_16 : decode cX4_hardnessAt 16 = .ok (.ireturn, 1) := by decide +kernel
theorem dX4_hardnessAt_17 : decode cX4_hardnessAt 17 = .ok (.iload_n 1, 1) := by decide +kernel
theorem dX4_hardnessAt_18 : decode cX4_hardnessAt 18 = .ok (.iconst 2, 1) := by decide +kernel
theorem dX4_hardnessAt_19 : decode cX4_hardnessAt 19 = .ok (.iload_n 2, 1) := by decide +kernel
theorem dX4_hardnessAt_20 : decode cX4_hardnessAt 20 = .ok (.imul, 1) := by decide +kernel
theorem dX4_hardnessAt_21 : decode cX4_hardnessAt 21 = .ok (.if_icmp .gt 7, 3) := by decide +kernel
theorem dX4_hardnessAt_24 : decode cX4_hardnessAt 24 = .ok (.iconst 1, 1) := by decide +kernel
theorem dX4_hardnessAt_25 : decode cX4_hardnessAt 25 = .ok (.goto 4, 3) := by decide +kernel
theorem dX4_hardnessAt_28 : decode cX4_hardnessAt 28 = .ok (.iconst 2, 1) := by decide +kernel
theorem dX4_hardnessAt_29 : decode cX4_hardnessAt 29 = .ok (.ireturn, 1) := by decide +kernel
set_option maxRecDepth 20000 in
theorem ggX4_softTonnes_X4_hardnessAt : GoodIn wsX4_softTonnes wsX4_hardnessAt := goodIn_r _ [8, 9, 10, 17, 18, 19, 20, 21, 22, 23, 24, 25, 26, 27, 28, 29, 30, 31, 32, 33] (by decide +kernel) (by decide +kernel)
set_option maxRecDepth 20000 in
theorem gX4_softTonnes_X4_hardnessAt : GoodIn wsX4_softTonnes (wsV RX4 206 RX4 yX4_hardnessAt wsX4_hardnessAt) := goodIn_app (goodIn_of _ (by decide +kernel)) ggX4_softTonnes_X4_hardnessAt
theorem dX4_softTonnes_0 : decode cX4_softTonnes 0 = .ok (.iconst 0, 1) := by decide +kernel
theorem dX4_softTonnes_1 : decode cX4_softTonnes 1 = .ok (.istore_n 2, 1) := by decide +kernel
theorem dX4_softTonnes_2 : decode cX4_softTonnes 2 = .ok (.iconst 0, 1) := by decide +kernel
theorem dX4_softTonnes_3 : decode cX4_softTonnes 3 = .ok (.istore_n 3, 1) := by decide +kernel
theorem dX4_softTonnes_4 : decode cX4_softTonnes 4 = .ok (.iload_n 3, 1) := by decide +kernel
theorem dX4_softTonnes_5 : decode cX4_softTonnes 5 = .ok (.aload_n 1, 1) := by decide +kernel
theorem dX4_softTonnes_6 : decode cX4_softTonnes 6 = .ok (.getfield 125, 3) := by decide +kernel
theorem dX4_softTonnes_9 : decode cX4_softTonnes 9 = .ok (.if_icmp .ge 31, 3) := by decide +kernel
theorem dX4_softTonnes_12 : decode cX4_softTonnes 12 = .ok (.aload_n 0, 1) := by decide +kernel
theorem dX4_softTonnes_13 : decode cX4_softTonnes 13 = .ok (.aload_n 1, 1) := by decide +kernel
theorem dX4_softTonnes_14 : decode cX4_softTonnes 14 = .ok (.getfield 203, 3) := by decide +kernel
theorem dX4_softTonnes_17 : decode cX4_softTonnes 17 = .ok (.iload_n 3, 1) := by decide +kernel
theorem dX4_softTonnes_18 : decode cX4_softTonnes 18 = .ok (.iaload, 1) := by decide +kernel
theorem dX4_softTonnes_19 : decode cX4_softTonnes 19 = .ok (.invokevirtual 206, 3) := by decide +kernel
theorem dX4_softTonnes_22 : decode cX4_softTonnes 22 = .ok (.ifCond .ne 12, 3) := by decide +kernel
theorem dX4_softTonnes_25 : decode cX4_softTonnes 25 = .ok (.iload_n 2, 1) := by decide +kernel
theorem dX4_softTonnes_26 : decode cX4_softTonnes 26 = .ok (.aload_n 1, 1) := by decide +kernel
theorem dX4_softTonnes_27 : decode cX4_softTonnes 27 = .ok (.getfield 201, 3) := by decide +kernel
theorem dX4_softTonnes_30 : decode cX4_softTonnes 30 = .ok (.iload_n 3, 1) := by decide +kernel
theorem dX4_softTonnes_31 : decode cX4_softTonnes 31 = .ok (.iaload, 1) := by decide +kernel
theorem dX4_softTonnes_32 : decode cX4_softTonnes 32 = .ok (.iadd, 1) := by decide +kernel
theorem dX4_softTonnes_33 : decode cX4_softTonnes 33 = .ok (.istore_n 2, 1) := by decide +kernel
theorem dX4_softTonnes_34 : decode cX4_softTonnes 34 = .ok (.iinc 3 1, 3) := by decide +kernel
theorem dX4_softTonnes_37 : decode cX4_softTonnes 37 = .ok (.goto (-33), 3) := by decide +kernel
theorem dX4_softTonnes_40 : decode cX4_softTonnes 40 = .ok (.iload_n 2, 1) := by decide +kernel
theorem dX4_softTonnes_41 : decode cX4_softTonnes 41 = .ok (.ireturn, 1) := by decide +kernel
set_option maxRecDepth 20000 in
theorem ggX4_passDays_X4_passDayIn : GoodIn wsX4_passDays wsX4_passDayIn := goodIn_r _ [9, 10, 11, 12, 13, 14, 15, 16, 17, 18, 19, 20, 21, 22, 23, 24, 25, 26, 27, 8, 28, 1, 29, 47, 48, 49, 50, 51, 52, 30, 31, 32, 33, 34, 35, 36, 37, 38, 39, 40, 41, 42, 43, 44, 45, 46] (by decide +kernel) (by decide +kernel)
set_option maxRecDepth 20000 in
theorem gX4_passDays_X4_passDayIn : GoodIn wsX4_passDays (wsV RX4 311 RX4 yX4_passDayIn wsX4_passDayIn) := goodIn_app (goodIn_of _ (by decide +kernel)) ggX4_passDays_X4_passDayIn
theorem dX4_passDays_0 : decode cX4_passDays 0 = .ok (.iconst 0, 1) := by decide +kernel
theorem dX4_passDays_1 : decode cX4_passDays 1 = .ok (.istore_n 2, 1) := by decide +kernel
theorem dX4_passDays_2 : decode cX4_passDays 2 = .ok (.iconst 0, 1) := by decide +kernel
theorem dX4_passDays_3 : decode cX4_passDays 3 = .ok (.istore_n 3, 1) := by decide +kernel
theorem dX4_passDays_4 : decode cX4_passDays 4 = .ok (.iload_n 3, 1) := by decide +kernel
theorem dX4_passDays_5 : decode cX4_passDays 5 = .ok (.iload_n 1, 1) := by decide +kernel
theorem dX4_passDays_6 : decode cX4_passDays 6 = .ok (.if_icmp .ge 54, 3) := by decide +kernel
theorem dX4_passDays_9 : decode cX4_passDays 9 = .ok (.aload_n 0, 1) := by decide +kernel
theorem dX4_passDays_10 : decode cX4_passDays 10 = .ok (.getfield 10, 3) := by decide +kernel
theorem dX4_passDays_13 : decode cX4_passDays 13 = .ok (.dup, 1) := by decide +kernel
theorem dX4_passDays_14 : decode cX4_passDays 14 = .ok (.getfield 213, 3) := by decide +kernel
theorem dX4_passDays_17 : decode cX4_passDays 17 = .ok (.iconst 1, 1) := by decide +kernel
theorem dX4_passDays_18 : decode cX4_passDays 18 = .ok (.iadd, 1) := by decide +kernel
theorem dX4_passDays_19 : decode cX4_passDays 19 = .ok (.putfield 213, 3) := by decide +kernel
theorem dX4_passDays_22 : decode cX4_passDays 22 = .ok (.iconst 0, 1) := by decide +kernel
theorem dX4_passDays_23 : decode cX4_passDays 23 = .ok (.istore 4, 2) := by decide +kernel
theorem dX4_passDays_25 : decode cX4_passDays 25 = .ok (.iload 4, 2) := by decide +kernel
theorem dX4_passDays_27 : decode cX4_passDays 27 = .ok (.iconst 4, 1) := by decide +kernel
theorem dX4_passDays_28 : decode cX4_passDays 28 = .ok (.if_icmp .ge 26, 3) := by decide +kernel
theorem dX4_passDays_31 : decode cX4_passDays 31 = .ok (.iload_n 2, 1) := by decide +kernel
theorem dX4_passDays_32 : decode cX4_passDays 32 = .ok (.aload_n 0, 1) := by decide +kernel
theorem dX4_passDays_33 : decode cX4_passDays 33 = .ok (.aload_n 0, 1) := by decide +kernel
theorem dX4_passDays_34 : decode cX4_passDays 34 = .ok (.getfield 10, 3) := by decide +kernel
theorem dX4_passDays_37 : decode cX4_passDays 37 = .ok (.getfield 94, 3) := by decide +kernel
theorem dX4_passDays_40 : decode cX4_passDays 40 = .ok (.iload 4, 2) := by decide +kernel
theorem dX4_passDays_42 : decode cX4_passDays 42 = .ok (.aaload, 1) := by decide +kernel
theorem dX4_passDays_43 : decode cX4_passDays 43 = .ok (.invokevirtual 311, 3) := by decide +kernel
theorem dX4_passDays_46 : decode cX4_passDays 46 = .ok (.iadd, 1) := by decide +kernel
theorem dX4_passDays_47 : decode cX4_passDays 47 = .ok (.istore_n 2, 1) := by decide +kernel
theorem dX4_passDays_48 : decode cX4_passDays 48 = .ok (.iinc 4 1, 3) := by decide +kernel
theorem dX4_passDays_51 : decode cX4_passDays 51 = .ok (.goto (-26), 3) := by decide +kernel
theorem dX4_passDays_54 : decode cX4_passDays 54 = .ok (.iinc 3 1, 3) := by decide +kernel
theorem dX4_passDays_57 : decode cX4_passDays 57 = .ok (.goto (-53), 3) := by decide +kernel
theorem dX4_passDays_60 : decode cX4_passDays 60 = .ok (.aload_n 0, 1) := by decide +kernel
theorem dX4_passDays_61 : decode cX4_passDays 61 = .ok (.getfield 10, 3) := by decide +kernel
theorem dX4_passDays_64 : decode cX4_passDays 64 = .ok (.dup, 1) := by decide +kernel
theorem dX4_passDays_65 : decode cX4_passDays 65 = .ok (.getfield 228, 3) := by decide +kernel
theorem dX4_passDays_68 : decode cX4_passDays 68 = .ok (.iload_n 2, 1) := by decide +kernel
theorem dX4_passDays_69 : decode cX4_passDays 69 = .ok (.iadd, 1) := by decide +kernel
theorem dX4_passDays_70 : decode cX4_passDays 70 = .ok (.putfield 228, 3) := by decide +kernel
theorem dX4_passDays_73 : decode cX4_passDays 73 = .ok (.iload_n 2, 1) := by decide +kernel
theorem dX4_passDays_74 : decode cX4_passDays 74 = .ok (.ireturn, 1) := by decide +kernel
set_option maxRecDepth 20000 in
theorem ggX4_passDayIn_X1_makeOlder : GoodIn wsX4_passDayIn wsX1_makeOlder := goodIn_r _ [8, 9, 10, 23, 24, 25, 26, 27, 28] (by decide +kernel) (by decide +kernel)
set_option maxRecDepth 20000 in
theorem gX4_passDayIn_X1_makeOlder : GoodIn wsX4_passDayIn (wsV RX4 314 RX1 yX1_makeOlder wsX1_makeOlder) := goodIn_app (goodIn_of _ (by decide +kernel)) ggX4_passDayIn_X1_makeOlder
set_option maxRecDepth 20000 in
theorem ggX4_passDayIn_X1_canGetArch : GoodIn wsX4_passDayIn wsX1_canGetArch := goodIn_r _ [14, 9, 15, 23, 24, 25, 26, 27, 28] (by decide +kernel) (by decide +kernel)
set_option maxRecDepth 20000 in
theorem gX4_passDayIn_X1_canGetArch : GoodIn wsX4_passDayIn (wsV RX4 251 RX1 yX1_canGetArch wsX1_canGetArch) := goodIn_app (goodIn_of _ (by decide +kernel)) ggX4_passDayIn_X1_canGetArch
set_option maxRecDepth 20000 in
theorem ggX4_passDayIn_X4_hardnessAt : GoodIn wsX4_passDayIn wsX4_hardnessAt := goodIn_r _ [20, 21, 22, 29, 30, 31, 32, 33, 34, 35, 36, 37, 38, 39, 40, 41, 42, 43, 44, 45] (by decide +kernel) (by decide +kernel)
set_option maxRecDepth 20000 in
theorem gX4_passDayIn_X4_hardnessAt : GoodIn wsX4_passDayIn (wsV RX4 206 RX4 yX4_hardnessAt wsX4_hardnessAt) := goodIn_app (goodIn_of _ (by decide +kernel)) ggX4_passDayIn_X4_hardnessAt
theorem dX4_passDayIn_0 : decode cX4_passDayIn 0 = .ok (.aload_n 1, 1) := by decide +kernel
theorem dX4_passDayIn_1 : decode cX4_passDayIn 1 = .ok (.invokevirtual 314, 3) := by decide +kernel
theorem dX4_passDayIn_4 : decode cX4_passDayIn 4 = .ok (.aload_n 1, 1) := by decide +kernel
theorem dX4_passDayIn_5 : decode cX4_passDayIn 5 = .ok (.invokevirtual 251, 3) := by decide +kernel
theorem dX4_passDayIn_8 : decode cX4_passDayIn 8 = .ok (.ifCond .eq 16, 3) := by decide +kernel
theorem dX4_passDayIn_11 : decode cX4_passDayIn 11 = .ok (.aload_n 0, 1) := by decide +kernel
theorem dX4_passDayIn_12 : decode cX4_passDayIn 12 = .ok (.aload_n 1, 1) := by decide +kernel
theorem dX4_passDayIn_13 : decode cX4_passDayIn 13 = .ok (.getfield 203, 3) := by decide +kernel
theorem dX4_passDayIn_16 : decode cX4_passDayIn 16 = .ok (.iconst 0, 1) := by decide +kernel
theorem dX4_passDayIn_17 : decode cX4_passDayIn 17 = .ok (.iaload, 1) := by decide +kernel
theorem dX4_passDayIn_18 : decode cX4_passDayIn 18 = .ok (.invokevirtual 206, 3) := by decide +kernel
theorem dX4_passDayIn_21 : decode cX4_passDayIn 21 = .ok (.ifCond .ne 5, 3) := by decide +kernel
theorem dX4_passDayIn_24 : decode cX4_passDayIn 24 = .ok (.iconst 0, 1) := by decide +kernel
theorem dX4_passDayIn_25 : decode cX4_passDayIn 25 = .ok (.ireturn, 1) := by decide +kernel
theorem dX4_passDayIn_26 : decode cX4_passDayIn 26 = .ok (.aload_n 1, 1) := by decide +kernel
theorem dX4_passDayIn_27 : decode cX4_passDayIn 27 = .ok (.iconst 1, 1) := by decide +kernel
theorem dX4_passDayIn_28 : decode cX4_passDayIn 28 = .ok (.putfield 141, 3) := by decide +kernel
theorem dX4_passDayIn_31 : decode cX4_passDayIn 31 = .ok (.aload_n 1, 1) := by decide +kernel
theorem dX4_passDayIn_32 : decode cX4_passDayIn 32 = .ok (.iconst 0, 1) := by decide +kernel
theorem dX4_passDayIn_33 : decode cX4_passDayIn 33 = .ok (.putfield 134, 3) := by decide +kernel
theorem dX4_passDayIn_36 : decode cX4_passDayIn 36 = .ok (.iconst 1, 1) := by decide +kernel
theorem dX4_passDayIn_37 : decode cX4_passDayIn 37 = .ok (.ireturn, 1) := by decide +kernel
set_option maxRecDepth 20000 in
theorem ggX4_shakesToBreak_X1_tonnesHeld : GoodIn wsX4_shakesToBreak wsX1_tonnesHeld := goodIn_r _ [13, 14, 15, 16, 17, 12, 18, 19, 20, 21, 22, 23, 24, 25, 26] (by decide +kernel) (by decide +kernel)
set_option maxRecDepth 20000 in
theorem gX4_shakesToBreak_X1_tonnesHeld : GoodIn wsX4_shakesToBreak (wsV RX4 320 RX1 yX1_tonnesHeld wsX1_tonnesHeld) := goodIn_app (goodIn_of _ (by decide +kernel)) ggX4_shakesToBreak_X1_tonnesHeld
theorem dX4_shakesToBreak_0 : decode cX4_shakesToBreak 0 = .ok (.aload_n 1, 1) := by decide +kernel
theorem dX4_shakesToBreak_1 : decode cX4_shakesToBreak 1 = .ok (.getfield 141, 3) := by decide +kernel
theorem dX4_shakesToBreak_4 : decode cX4_shakesToBreak 4 = .ok (.ifCond .ne 5, 3) := by decide +kernel
theorem dX4_shakesToBreak_7 : decode cX4_shakesToBreak 7 = .ok (.iconst 0, 1) := by decide +kernel
theorem dX4_shakesToBreak_8 : decode cX4_shakesToBreak 8 = .ok (.ireturn, 1) := by decide +kernel
theorem dX4_shakesToBreak_9 : decode cX4_shakesToBreak 9 = .ok (.aload_n 1, 1) := by decide +kernel
theorem dX4_shakesToBreak_10 : decode cX4_shakesToBreak 10 = .ok (.invokevirtual 320, 3) := by decide +kernel
theorem dX4_shakesToBreak_13 : decode cX4_shakesToBreak 13 = .ok (.aload_n 0, 1) := by decide +kernel
theorem dX4_shakesToBreak_14 : decode cX4_shakesToBreak 14 = .ok (.getfield 10, 3) := by decide +kernel
theorem dX4_shakesToBreak_17 : decode cX4_shakesToBreak 17 = .ok (.getfield 117, 3) := by decide +kernel
theorem dX4_shakesToBreak_20 : decode cX4_shakesToBreak 20 = .ok (.iconst 3, 1) := by decide +kernel
theorem dX4_shakesToBreak_21 : decode cX4_shakesToBreak 21 = .ok (.iaload, 1) := by decide +kernel
theorem dX4_shakesToBreak_22 : decode cX4_shakesToBreak 22 = .ok (.if_icmp .lt 5, 3) := by decide +kernel
theorem dX4_shakesToBreak_25 : decode cX4_shakesToBreak 25 = .ok (.iconst 1, 1) := by decide +kernel
theorem dX4_shakesToBreak_26 : decode cX4_shakesToBreak 26 = .ok (.ireturn, 1) := by decide +kernel
theorem dX4_shakesToBreak_27 : decode cX4_shakesToBreak 27 = .ok (.iconst 1, 1) := by decide +kernel
theorem dX4_shakesToBreak_28 : decode cX4_shakesToBreak 28 = .ok (.iconst 3, 1) := by decide +kernel
theorem dX4_shakesToBreak_29 : decode cX4_shakesToBreak 29 = .ok (.aload_n 1, 1) := by decide +kernel
theorem dX4_shakesToBreak_30 : decode cX4_shakesToBreak 30 = .ok (.getfield 134, 3) := by decide +kernel
theorem dX4_shakesToBreak_33 : decode cX4_shakesToBreak 33 = .ok (.isub, 1) := by decide +kernel
theorem dX4_shakesToBreak_34 : decode cX4_shakesToBreak 34 = .ok (.invokestatic 317, 3) := by decide +kernel
theorem dX4_shakesToBreak_37 : decode cX4_shakesToBreak 37 = .ok (.ireturn, 1) := by decide +kernel
set_option maxRecDepth 20000 in
theorem ggX4_isMoreUrgent_X1_total : GoodIn wsX4_isMoreUrgent wsX1_total := goodIn_r _ [6, 7, 8, 9, 5, 10, 11, 12, 13, 14, 15, 16, 17, 18] (by decide +kernel) (by decide +kernel)
set_option maxRecDepth 20000 in
theorem gX4_isMoreUrgent_X1_total : GoodIn wsX4_isMoreUrgent (wsV RX4 190 RX1 yX1_total wsX1_total) := goodIn_app (goodIn_of _ (by decide +kernel)) ggX4_isMoreUrgent_X1_total
theorem dX4_isMoreUrgent_0 : decode cX4_isMoreUrgent 0 = .ok (.aload_n 0, 1) := by decide +kernel
theorem dX4_isMoreUrgent_1 : decode cX4_isMoreUrgent 1 = .ok (.getfield 203, 3) := by decide +kernel
theorem dX4_isMoreUrgent_4 : decode cX4_isMoreUrgent 4 = .ok (.iconst 0, 1) := by decide +kernel
theorem dX4_isMoreUrgent_5 : decode cX4_isMoreUrgent 5 = .ok (.iaload, 1) := by decide +kernel
theorem dX4_isMoreUrgent_6 : decode cX4_isMoreUrgent 6 = .ok (.aload_n 1, 1) := by decide +kernel
theorem dX4_isMoreUrgent_7 : decode cX4_isMoreUrgent 7 = .ok (.getfield 203, 3) := by decide +kernel
theorem dX4_isMoreUrgent_10 : decode cX4_isMoreUrgent 10 = .ok (.iconst 0, 1) := by decide +kernel
theorem dX4_isMoreUrgent_11 : decode cX4_isMoreUrgent 11 = .ok (.iaload, 1) := by decide +kernel
theorem dX4_isMoreUrgent_12 : decode cX4_isMoreUrgent 12 = .ok (.if_icmp .eq 24, 3) := by decide +kernel
theorem dX4_isMoreUrgent_15 : decode cX4_isMoreUrgent 15 = .ok (.aload_n 0, 1) := by decide +kernel
theorem dX4_isMoreUrgent_16 : decode cX4_isMoreUrgent 16 = .ok (.getfield 203, 3) := by decide +kernel
theorem dX4_isMoreUrgent_19 : decode cX4_isMoreUrgent 19 = .ok (.iconst 0, 1) := by decide +kernel
theorem dX4_isMoreUrgent_20 : decode cX4_isMoreUrgent 20 = .ok (.iaload, 1) := by decide +kernel
theorem dX4_isMoreUrgent_21 : decode cX4_isMoreUrgent 21 = .ok (.aload_n 1, 1) := by decide +kernel
theorem dX4_isMoreUrgent_22 : decode cX4_isMoreUrgent 22 = .ok (.getfield 203, 3) := by decide +kernel
theorem dX4_isMoreUrgent_25 : decode cX4_isMoreUrgent 25 = .ok (.iconst 0, 1) := by decide +kernel
theorem dX4_isMoreUrgent_26 : decode cX4_isMoreUrgent 26 = .ok (.iaload, 1) := by decide +kernel
theorem dX4_isMoreUrgent_27 : decode cX4_isMoreUrgent 27 = .ok (.if_icmp .le 7, 3) := by decide +kernel
theorem dX4_isMoreUrgent_30 : decode cX4_isMoreUrgent 30 = .ok (.iconst 1, 1) := by decide +kernel
theorem dX4_isMoreUrgent_31 : decode cX4_isMoreUrgent 31 = .ok (.goto 4, 3) := by decide +kernel
theorem dX4_isMoreUrgent_34 : decode cX4_isMoreUrgent 34 = .ok (.iconst 0, 1) := by decide +kernel
theorem dX4_isMoreUrgent_35 : decode cX4_isMoreUrgent 35 = .ok (.ireturn, 1) := by decide +kernel
theorem dX4_isMoreUrgent_36 : decode cX4_isMoreUrgent 36 = .ok (.aload_n 0, 1) := by decide +kernel
theorem dX4_isMoreUrgent_37 : decode cX4_isMoreUrgent 37 = .ok (.invokevirtual 190, 3) := by decide +kernel
theorem dX4_isMoreUrgent_40 : decode cX4_isMoreUrgent 40 = .ok (.aload_n 1, 1) := by decide +kernel
theorem dX4_isMoreUrgent_41 : decode cX4_isMoreUrgent 41 = .ok (.invokevirtual 190, 3) := by decide +kernel
theorem dX4_isMoreUrgent_44 : decode cX4_isMoreUrgent 44 = .ok (.if_icmp .le 7, 3) := by decide +kernel
theorem dX4_isMoreUrgent_47 : decode cX4_isMoreUrgent 47 = .ok (.iconst 1, 1) := by decide +kernel
theorem dX4_isMoreUrgent_48 : decode cX4_isMoreUrgent 48 = .ok (.goto 4, 3) := by decide +kernel
theorem dX4_isMoreUrgent_51 : decode cX4_isMoreUrgent 51 = .ok (.iconst 0, 1) := by decide +kernel
theorem dX4_isMoreUrgent_52 : decode cX4_isMoreUrgent 52 = .ok (.ireturn, 1) := by decide +kernel
theorem dJ9_max_7cf53_0 : decode cJ9_max_7cf53 0 = .ok (.iload_n 0, 1) := by decide +kernel
theorem dJ9_max_7cf53_1 : decode cJ9_max_7cf53 1 = .ok (.iload_n 1, 1) := by decide +kernel
theorem dJ9_max_7cf53_2 : decode cJ9_max_7cf53 2 = .ok (.if_icmp .lt 7, 3) := by decide +kernel
theorem dJ9_max_7cf53_5 : decode cJ9_max_7cf53 5 = .ok (.iload_n 0, 1) := by decide +kernel
theorem dJ9_max_7cf53_6 : decode cJ9_max_7cf53 6 = .ok (.goto 4, 3) := by decide +kernel
theorem dJ9_max_7cf53_9 : decode cJ9_max_7cf53 9 = .ok (.iload_n 1, 1) := by decide +kernel
theorem dJ9_max_7cf53_10 : decode cJ9_max_7cf53 10 = .ok (.ireturn, 1) := by decide +kernel
theorem dJ9_min_7cf53_0 : decode cJ9_min_7cf53 0 = .ok (.iload_n 0, 1) := by decide +kernel
theorem dJ9_min_7cf53_1 : decode cJ9_min_7cf53 1 = .ok (.iload_n 1, 1) := by decide +kernel
theorem dJ9_min_7cf53_2 : decode cJ9_min_7cf53 2 = .ok (.if_icmp .gt 7, 3) := by decide +kernel
theorem dJ9_min_7cf53_5 : decode cJ9_min_7cf53 5 = .ok (.iload_n 0, 1) := by decide +kernel
theorem dJ9_min_7cf53_6 : decode cJ9_min_7cf53 6 = .ok (.goto 4, 3) := by decide +kernel
theorem dJ9_min_7cf53_9 : decode cJ9_min_7cf53 9 = .ok (.iload_n 1, 1) := by decide +kernel
theorem dJ9_min_7cf53_10 : decode cJ9_min_7cf53 10 = .ok (.ireturn, 1) := by decide +kernel
end
section
/-! THE FRAME: a world of N cells, each with a place i: L i is its address, F i what it holds. Every contract of this claim speaks of such a world, before and behind. -/
def gw (N : Nat) (L : Nat → Nat) (F : Nat → va_E) : va_W := (List.range N).map (fun i => (L i, F i))
def gup (F : Nat → va_E) (i : Nat) (e : va_E) : Nat → va_E := fun j => if j = i then e else F j
theorem gup_s {F : Nat → va_E} {i : Nat} {e : va_E} : gup F i e i = e := by simp [gup]
theorem gup_n {F : Nat → va_E} {i j : Nat} {e : va_E} (h : j ≠ i) : gup F i e j = F j := by simp [gup, h]
theorem gw_at {N : Nat} {L : Nat → Nat} {F : Nat → va_E} {i : Nat} (h : i < N) : (gw N L F)[i]? = some (L i, F i) := by
  simp [gw, h]
theorem gw_of {N : Nat} {L : Nat → Nat} {F : Nat → va_E} {i : Nat} {q : Nat × va_E} (h : (gw N L F)[i]? = some q) : i < N ∧ q = (L i, F i) := by
  rcases Nat.lt_or_ge i N with h1 | h1
  · rw [gw_at h1] at h
    exact ⟨h1, (Option.some.inj h).symm⟩
  · rw [List.getElem?_eq_none (by simp [gw]; exact h1)] at h
    cases h
theorem gw_set {N : Nat} {L : Nat → Nat} {F : Nat → va_E} {i : Nat} {e : va_E} (h : i < N) : (gw N L F).set i (L i, e) = gw N L (gup F i e) := by
  apply List.ext_getElem?
  intro j
  rcases Nat.lt_or_ge j N with hj | hj
  · rw [gw_at hj, List.getElem?_set]
    by_cases hij : i = j
    · subst hij
      simp [gup, gw, h]
    · rw [if_neg hij, gw_at hj, gup_n (fun q => hij q.symm)]
  · rw [List.getElem?_eq_none (by simp [gw]; exact hj), List.getElem?_eq_none (by simp [gw]; exact hj)]
def gA (N : Nat) (L : Nat → Nat) (sz : Nat) : Nat → Prop := fun q => (∃ i, i < N ∧ q = L i) ∨ sz ≤ q
def gty (cy : Nat → ClassId) : List (ClassId × FieldType) := [(cy 0, .int), (cy 1, .object RX1), (cy 2, .object RX0), (cy 3, .object RX3)]
def GW (D : va_G) (N : Nat) (L : Nat → Nat) (A : Nat → Prop) (F : Nat → va_E) (H : Heap) : Prop := va_P D vwCl (gw N L F) H ∧ va_D A (gw N L F)
theorem GW.to {D : va_G} {N : Nat} {L : Nat → Nat} {A : Nat → Prop} {F F2 : Nat → va_E} {H : Heap} (h : GW D N L A F H) (e : F = F2) : GW D N L A F2 H := e ▸ h
/-- a world's addresses are the same whatever the cells hold -/
theorem gw_D {A B : Nat → Prop} {N : Nat} {L : Nat → Nat} {F F2 : Nat → va_E} (h : va_D A (gw N L F)) (hB : ∀ i, i < N → B (L i)) : va_D B (gw N L F2) := by
  refine ⟨fun i j p q hp hq e => ?_, fun k q hq => ?_⟩
  · obtain ⟨h1, rfl⟩ := gw_of hp
    obtain ⟨h2, rfl⟩ := gw_of hq
    exact h.1 i j _ _ (gw_at h1) (gw_at h2) e
  · obtain ⟨h1, rfl⟩ := gw_of hq
    exact hB k h1
/-- what the tables say besides the words: calls of nest mates, the texts of the exceptions -/
def gNest : List (String × Nat × MethodName × String) := [(RX3, 54, yX1_init, RX4), (RX3, 55, yX0_init, RX4), (RX4, 33, yX2_init, RX4), (RX4, 40, yX1_init, RX4), (RX4, 47, yX0_init, RX4)]
def gStr : List (Nat × String) := []
def gDecl : List MethodName := []
def xI : String := "java/lang/IndexOutOfBoundsException"
def xA : String := "java/lang/IllegalArgumentException"
def xS : String := "java/lang/IllegalStateException"
def gNc : List (String × String) := []
def gX (U : State) : Prop := (∀ q ∈ gNest, va_Nw (.methodLinkNest q.1 q.2.1 q.2.2.1 q.2.2.2) U) ∧ (∀ q ∈ gStr, ∃ a : Nat, vk_R RX4 q.1 q.2 a U) ∧ (∀ x ∈ gDecl, va_Nw (.declares x) U) ∧ (∀ x ∈ [xI, xA, xS], va_Nw (.castable x x) U) ∧ ∀ q ∈ gNc, va_Nc q.1 q.2 U
theorem gX.warm {s U : State} (hW : s.WarmedH U.vm) (h : gX s) : gX U := by
  obtain ⟨h1, h2, h3, h4, h5⟩ := h
  refine ⟨fun q hq => va_Nw.warmM hW (h1 q hq), fun q hq => ?_, fun x hx => va_Nw.warmD hW (h3 x hx), fun x hx => va_Nw.warmC hW (h4 x hx), fun q hq => va_Nc.moved hW.alike (h5 q hq)⟩
  obtain ⟨a, ha⟩ := h2 q hq
  exact ⟨a, vk_R.warm hW ha⟩
theorem gX.same {s U : State} (hv : s.vm = U.vm) (h : gX s) : gX U := by
  obtain ⟨h1, h2, h3, h4, h5⟩ := h
  refine ⟨fun q hq => va_Nw.same rfl hv (h1 q hq), fun q hq => ?_, fun x hx => va_Nw.same rfl hv (h3 x hx), fun x hx => va_Nw.same rfl hv (h4 x hx), fun q hq => va_Nc.moved (by rw [hv]; exact Vm.Alike.refl U.vm) (h5 q hq)⟩
  obtain ⟨a, ha⟩ := h2 q hq
  exact ⟨a, vk_R.same hv.symm ha⟩
/-- a static row of four numbers -/
def gsa (n : String) (f : Nat → Int32) (B : Nat → Prop) (U : State) (H : Heap) : Prop := ∃ t : Nat, va_Z "SiloPads" n "[I" (.ref t) B U H ∧ va_T .int t 4 (fun j => .int (f j)) B U H
def z_least : Nat → Int32 := fun j => if j = 1 then 1 else if j = 2 then 5 else 0
def z_most : Nat → Int32 := fun j => if j = 0 then 16 else if j = 1 then 20 else if j = 2 then 100 else 900
def z_first : Nat → Int32 := fun j => if j = 0 then 6 else if j = 1 then 3 else if j = 2 then 20 else 200
/-- what the statics hold, outside B -/
def gst (B : Nat → Prop) (U : State) (H : Heap) : Prop := vx_Zq Bundle.tN "UNASSIGNED_STACK" Bundle.steD B U H ∧ vx_Zq Bundle.tN "SUPPRESSED_SENTINEL" Bundle.listD B U H ∧ gsa "SETTING_LEAST" z_least B U H ∧ gsa "SETTING_MOST" z_most B U H ∧ gsa "SETTING_FIRST" z_first B U H
theorem gsa.moved {n : String} {f : Nat → Int32} {B : Nat → Prop} {u U : State} {H : Heap} (hvm : u.vm.Alike U.vm) (h : gsa n f B u H) : gsa n f B U H := by
  obtain ⟨t, h1, h2⟩ := h
  exact ⟨t, h1.moved hvm, h2.moved hvm⟩
theorem gsa.kept {n : String} {f : Nat → Int32} {B : Nat → Prop} {U : State} {H H1 : Heap} (h : gsa n f B U H) (hq : ∀ a : Nat, a < H.size → ¬ B a → H1[a]? = H[a]?) : gsa n f B U H1 := by
  obtain ⟨t, h1, h2⟩ := h
  exact ⟨t, h1.kept hq, h2.kept hq⟩
theorem gsa.narrow {n : String} {f : Nat → Int32} {B B2 : Nat → Prop} {U : State} {H : Heap} (h : gsa n f B U H) (hAB : ∀ q, B2 q → B q) : gsa n f B2 U H := by
  obtain ⟨t, h1, h2⟩ := h
  exact ⟨t, h1.narrow hAB, h2.narrow hAB⟩
theorem gst.moved {B : Nat → Prop} {u U : State} {H : Heap} (hvm : u.vm.Alike U.vm) (h : gst B u H) : gst B U H := ⟨h.1.moved hvm, h.2.1.moved hvm, h.2.2.1.moved hvm, h.2.2.2.1.moved hvm, h.2.2.2.2.moved hvm⟩
theorem gst.kept {B : Nat → Prop} {U : State} {H H1 : Heap} (h : gst B U H) (hq : ∀ a : Nat, a < H.size → ¬ B a → H1[a]? = H[a]?) : gst B U H1 := ⟨h.1.kept hq, h.2.1.kept hq, h.2.2.1.kept hq, h.2.2.2.1.kept hq, h.2.2.2.2.kept hq⟩
theorem gst.narrow {B B2 : Nat → Prop} {U : State} {H : Heap} (h : gst B U H) (hAB : ∀ q, B2 q → B q) : gst B2 U H := ⟨h.1.narrow hAB, h.2.1.narrow hAB, h.2.2.1.narrow hAB, h.2.2.2.1.narrow hAB, h.2.2.2.2.narrow hAB⟩
def gK (D : va_G) (cy : Nat → ClassId) (A : Nat → Prop) (s : State) : Prop := va_K D vwCl (gty cy) s ∧ gX s ∧ gst A s s.heap
/-- a method's end: what it answers, what the world holds behind it, nothing else changed -/
def gQ (D : va_G) (cy : Nat → ClassId) (N : Nat) (L : Nat → Nat) (sz : Nat) (Q : Option Value → (Nat → va_E) → Prop) : Array Value → State → Outcome → State → Prop := fun _ st oc t =>
  (∃ (v : Option Value) (F : Nat → va_E), oc = .returned v ∧ Q v F ∧ va_P D vwCl (gw N L F) t.heap ∧ va_K D vwCl (gty cy) t ∧ va_D (gA N L sz) (gw N L F)) ∧ va_F (gA N L sz) st t
def gPc (D : va_G) (cy : Nat → ClassId) (N : Nat) (L : Nat → Nat) (F : Nat → va_E) (sz : Nat) : State → Prop := fun U => U.heap.size = sz ∧ va_P D vwCl (gw N L F) U.heap ∧ va_K D vwCl (gty cy) U ∧ va_D (fun _ => True) (gw N L F) ∧ gX U ∧ gst (gA N L sz) U U.heap
/-- THE CONTRACT of a method that returns and makes nothing -/
def GMet (l : Launch) (D : va_G) (cy : Nat → ClassId) (N : Nat) (L : Nat → Nat) (y : MethodName) (ws : List Cond) (rm : Room) (av : List Value) (F : Nat → va_E) (Q : Option Value → (Nat → va_E) → Prop) : Prop :=
  ∀ sz : Nat, Met l y ws rm (va_Pc av (gPc D cy N L F sz)) (gQ D cy N L sz Q) 0 0 (gA N L sz)
/-- the same, answer and world behind it said -/
def GM (l : Launch) (D : va_G) (cy : Nat → ClassId) (N : Nat) (L : Nat → Nat) (y : MethodName) (ws : List Cond) (rm : Room) (av : List Value) (F : Nat → va_E) (rv : Option Value) (F2 : Nat → va_E) : Prop := GMet l D cy N L y ws rm av F (fun v F' => v = rv ∧ F' = F2)
theorem gPc_blind {D : va_G} {cy : Nat → ClassId} {N : Nat} {L : Nat → Nat} {F : Nat → va_E} {sz : Nat} {av : List Value} : FrameBlind (va_Pc av (gPc D cy N L F sz)) := by
  intro a U g mk q
  obtain ⟨q0, q1, qP, qK, qD, qX, qS⟩ := q
  exact ⟨q0, q1, qP, va_K.moved (u := U) (U := U.calling g mk a) (Vm.Alike.refl U.vm) qK, qD, gX.same (s := U) (U := U.calling g mk a) rfl qX, gst.moved (u := U) (U := U.calling g mk a) (Vm.Alike.refl U.vm) qS⟩
theorem GM.ofW {l : Launch} {D : va_G} {cy : Nat → ClassId} {N : Nat} {L : Nat → Nat} {y : MethodName} {ws ws' : List Cond} {rm : Room} {av : List Value} {F : Nat → va_E} {Q : Option Value → (Nat → va_E) → Prop} {cc : ByteArray} {maxL : Nat} {ret : Option FieldType}
    (hy : plainName y.cls = true) (hw : ws = Cond.code y cc maxL ret :: ws') (hlen : (lg_sl av).length ≤ maxL)
    (body : ∀ (p : Program) (e : Env) (s : State) (m : MethodId) (below : List Frame) (meth : Method) (c : Code) (ls : Array Slot), p.tables.exec = Jvm.exec → c.code = cc → meth.sig.returnType = ret → (∀ w ∈ ws, w.before av.toArray s = true) → s.vm.findClass y.cls = some m.cls → meth.locks = false → c.maxLocals = maxL → gK D cy (gA N L s.heap.size) s → (∀ q, s.heap.size ≤ q → gA N L s.heap.size q) → GW D N L (gA N L s.heap.size) F s.heap → va_S (gA N L s.heap.size) s.heap s.heap [] → lv_has ls maxL (lv_args 0 av) →
      W p l e (headSpec ws rm).room s m av.toArray below meth c s.heap [] 0 0 (MQ below (gQ D cy N L s.heap.size Q) av.toArray s 0 0 (gA N L s.heap.size)) (F0 m 0 ls [])) : GMet l D cy N L y ws rm av F Q := by
  intro sz
  refine Met.ofW (cc := cc) (maxL := maxL) (ret := ret) hy hw ?_
  intro p e s m args below meth c s₁ B hml hv
  obtain ⟨rfl, hsz, hP, hK, hD0, hXX, hST⟩ := hv
  subst hsz
  have hts := atoms_spec (ws := ws) B.pre
  have hown : s.vm.findClass y.cls = some m.cls := findClass_of_methodNamed B.named
  have hl := lv_entry av (n := maxL) hlen
  rw [lg_entry_eq]
  exact body p e s m below meth c _ B.exec B.bytes B.returns hts hown B.notSynchronized hml ⟨hK, hXX, hST⟩ (fun q h => Or.inr h) ⟨hP, gw_D hD0 (fun i hi => Or.inl ⟨i, hi, rfl⟩)⟩ va_S.rf hl
section GR
variable {p : Program} {l : Launch} {e : Env} {R : Room} {s : State} {m : MethodId} {args : Array Value} {below : List Frame} {meth : Method} {c : Code} {H : Heap} {locs : List Loc} {cells slots : Nat} {Q : State → Prop}
variable {cc : ByteArray} {pc : Nat} {ls : Array Slot} {rest : List Value} {D : va_G} {cy : Nat → ClassId} {N : Nat} {L : Nat → Nat} {A : Nat → Prop} {F : Nat → va_E} {H0 : Heap}
theorem g_iret {Qv : Option Value → (Nat → va_E) → Prop} {v : Int32} {ty : FieldType} (hexec : p.tables.exec = Jvm.exec) (hb : c.code = cc) (hr : meth.sig.returnType = some ty) (hlocks : meth.locks = false) (hK : gK D cy (gA N L s.heap.size) s) (hG : GW D N L (gA N L s.heap.size) F H) (hS : va_S (gA N L s.heap.size) s.heap H locs) (hn : narrow ty (.int v) = .int v) (hdg : decode cc pc = .ok (.ireturn, 1)) (hq : Qv (some (.int v)) F) :
    W p l e R s m args below meth c H locs cells slots (MQ below (gQ D cy N L s.heap.size Qv) args s cells slots (gA N L s.heap.size)) (F0 m pc ls [.int v]) :=
  W.zret hexec hb hr hn (fun t ht hW => ⟨⟨_, F, rfl, hq, by rw [ht]; exact hG.1, va_K.moved hW.alike hK.1, hG.2⟩, hS.F ht⟩) hS.2.2 hdg hlocks
theorem g_lret {Qv : Option Value → (Nat → va_E) → Prop} {v : Int64} (hexec : p.tables.exec = Jvm.exec) (hb : c.code = cc) (hr : meth.sig.returnType = some .long) (hlocks : meth.locks = false) (hK : gK D cy (gA N L s.heap.size) s) (hG : GW D N L (gA N L s.heap.size) F H) (hS : va_S (gA N L s.heap.size) s.heap H locs) (hdg : decode cc pc = .ok (.lreturn, 1)) (hq : Qv (some (.long v)) F) :
    W p l e R s m args below meth c H locs cells slots (MQ below (gQ D cy N L s.heap.size Qv) args s cells slots (gA N L s.heap.size)) (F0 m pc ls [.long v]) :=
  W.lret hexec hb hr (fun t ht hW => ⟨⟨_, F, rfl, hq, by rw [ht]; exact hG.1, va_K.moved hW.alike hK.1, hG.2⟩, hS.F ht⟩) hS.2.2 hdg hlocks
theorem g_dret {Qv : Option Value → (Nat → va_E) → Prop} {v : UInt64} (hexec : p.tables.exec = Jvm.exec) (hb : c.code = cc) (hr : meth.sig.returnType = some .double) (hlocks : meth.locks = false) (hK : gK D cy (gA N L s.heap.size) s) (hG : GW D N L (gA N L s.heap.size) F H) (hS : va_S (gA N L s.heap.size) s.heap H locs) (hdg : decode cc pc = .ok (.dreturn, 1)) (hq : Qv (some (.double v)) F) :
    W p l e R s m args below meth c H locs cells slots (MQ below (gQ D cy N L s.heap.size Qv) args s cells slots (gA N L s.heap.size)) (F0 m pc ls [.double v]) :=
  W.dret hexec hb hr (fun t ht hW => ⟨⟨_, F, rfl, hq, by rw [ht]; exact hG.1, va_K.moved hW.alike hK.1, hG.2⟩, hS.F ht⟩) hS.2.2 hdg hlocks
theorem g_vret {Qv : Option Value → (Nat → va_E) → Prop} (hexec : p.tables.exec = Jvm.exec) (hb : c.code = cc) (hr : meth.sig.returnType = none) (hlocks : meth.locks = false) (hK : gK D cy (gA N L s.heap.size) s) (hG : GW D N L (gA N L s.heap.size) F H) (hS : va_S (gA N L s.heap.size) s.heap H locs) (hdg : decode cc pc = .ok (.return_, 1)) (hq : Qv none F) :
    W p l e R s m args below meth c H locs cells slots (MQ below (gQ D cy N L s.heap.size Qv) args s cells slots (gA N L s.heap.size)) (F0 m pc ls []) :=
  W.vret hexec hb hr (fun t ht hW => ⟨⟨_, F, rfl, hq, by rw [ht]; exact hG.1, va_K.moved hW.alike hK.1, hG.2⟩, hS.F ht⟩) hS.2.2 hdg hlocks
theorem g_AA (hG : GW D N L A F H) (hS : va_S A H0 H locs) (hA : ∀ q, H0.size ≤ q → A q) : ∀ q, gA N L H.size q → A q := by
  intro q h
  rcases h with ⟨i, hi, rfl⟩ | h
  · exact hG.2.2 i (L i, F i) (gw_at hi)
  · exact hA q (Nat.le_trans hS.1 h)
/-- behind a call -/
theorem g_back {st0 : List Value} {Qv : Option Value → (Nat → va_E) → Prop} {a : Array Value} {free : Addr → Prop} (hr : va_Run p l e R s m args below meth c H locs cells slots 0 0 (F0 m pc ls st0) rest (gQ D cy N L H.size Qv a) free) (hG : GW D N L A F H) (hS : va_S A H0 H locs) (hA : ∀ q, H0.size ≤ q → A q) (hfree : ∀ q, free q → gA N L H.size q)
    (kk : ∀ (v : Option Value) (F2 : Nat → va_E) (H1 : Heap) (locs1 : List Loc), Qv v F2 → GW D N L A F2 H1 → va_S A H0 H1 locs1 → W p l e R s m args below meth c H1 locs1 cells slots Q (F0 m (pc + 3) ls (v.toList ++ rest))) : W p l e R s m args below meth c H locs cells slots Q (F0 m pc ls st0) := by
  intro T hT X
  obtain ⟨v, st₀, t, T', Lc, h0, X', hL, e1, e2, ⟨⟨v2, F2, hv, hq, hP, -, hD⟩, hz, hk⟩, st⟩ := hr T hT X
  cases hv
  rw [h0] at hz hk
  have hAA : ∀ q, gA N L H.size q → A q := by
    intro q h
    rcases h with ⟨i, hi, rfl⟩ | h
    · exact hG.2.2 i (L i, F i) (gw_at hi)
    · exact hA q (Nat.le_trans hS.1 h)
  have hHz : H.size ≤ T'.heap.size := by rw [e1]; exact hz
  obtain ⟨t2, a1, b1⟩ := kk v F2 T'.heap (locs ++ Lc) hq ⟨by rw [e1]; exact hP, gw_D hD (fun i hi => hAA _ (Or.inl ⟨i, hi, rfl⟩))⟩
    ⟨Nat.le_trans hS.1 hHz, fun q h1 h2 => by rw [e1, hk q (Nat.lt_of_lt_of_le h1 hS.1) (fun z => h2 (hAA q z))]; exact hS.2.1 q h1 h2, fun q hq => by
      rcases List.mem_append.mp hq with h | h
      · exact hS.2.2 q h
      · exact hAA _ (hfree _ (hL q h))⟩ T' rfl X'
  exact ⟨t2, st t2 a1, b1⟩
/-- a call of an instance method on the object at the place i -/
theorem g_callV {y : MethodName} {bytes : ByteArray} {maxL nL n index : Nat} {ret : Option FieldType} {ws : List Cond} {rm : Room} {Ts : List Cond} {own C : String} {As st0 : List Value} {Qv : Option Value → (Nat → va_E) → Prop} {i ci : Nat} {fs : List Value} {q : vw_C}
    (hexec : p.tables.exec = Jvm.exec) (hb : c.code = cc) (hml : c.maxLocals = nL) (hown : s.vm.findClass own = some m.cls) (hts : ∀ w ∈ Ts, w.before args s = true) (hK : gK D cy A s) (hA : ∀ q, s.heap.size ≤ q → A q) (hG : GW D N L A F H) (hS : va_S A s.heap H locs)
    (hM : GMet l D cy N L y ws rm (.ref (L i) :: As) F Qv) (cw : CallW R s args own C index y bytes maxL ret ws rm 0 0 n) (hi : i < N) (hF : F i = .inr (ci, fs)) (hc : vwCl[ci]? = some q) (hqC : q.1 = C) (hst : st0 = As.reverse ++ .ref (L i) :: rest) (hn : As.length = n) (hsize : ls.size = nL) (hroom : (rest.map fun v => v.category).sum ≤ 8) (hdg : decode cc pc = .ok (.invokevirtual index, 3)) (hcl : cells ≤ R.cells ∧ slots ≤ R.slots)
    (kk : ∀ (v : Option Value) (F2 : Nat → va_E) (H1 : Heap) (locs1 : List Loc), Qv v F2 → GW D N L A F2 H1 → va_S A s.heap H1 locs1 → W p l e R s m args below meth c H1 locs1 cells slots Q (F0 m (pc + 3) ls (v.toList ++ rest))) : W p l e R s m args below meth c H locs cells slots Q (F0 m pc ls st0) := by
  have hDt : va_D (fun _ => True) (gw N L F) := gw_D hG.2 (fun _ _ => trivial)
  have hst9 : gst (gA N L H.size) s H := (hK.2.2.kept hS.2.1).narrow (g_AA hG hS hA)
  refine g_back (va_runV (As := As) (rest := rest) ⟨hexec, hb, hml, hown, hts⟩ (hM H.size) cw ⟨gPc_blind, hqC ▸ va_recv hK.1 hG.1 hc (by rw [gw_at hi, hF]), fun U hU hW => ⟨rfl, by rw [hU], by rw [hU]; exact hG.1, va_K.moved hW.alike hK.1, hDt, hK.2.1.warm hW, by rw [hU]; exact hst9.moved hW.alike⟩⟩ rfl hn hsize hst (lv_room hroom) hdg hcl) hG hS hA (fun q h => h) kk
theorem g_callS {y : MethodName} {bytes : ByteArray} {maxL nL n index : Nat} {ret : Option FieldType} {ws : List Cond} {rm : Room} {Ts : List Cond} {own : String} {As st0 : List Value} {Qv : Option Value → (Nat → va_E) → Prop}
    (hexec : p.tables.exec = Jvm.exec) (hb : c.code = cc) (hml : c.maxLocals = nL) (hown : s.vm.findClass own = some m.cls) (hts : ∀ w ∈ Ts, w.before args s = true) (hK : gK D cy A s) (hA : ∀ q, s.heap.size ≤ q → A q) (hG : GW D N L A F H) (hS : va_S A s.heap H locs)
    (hM : GMet l D cy N L y ws rm As F Qv) (cw : CallB R s args own index y bytes maxL ret ws rm 0 0 n ∧ (Cond.static y).before args s = true) (hst : st0 = As.reverse ++ rest) (hn : As.length = n) (hsize : ls.size = nL) (hroom : (rest.map fun v => v.category).sum ≤ 8) (hdg : decode cc pc = .ok (.invokestatic index, 3)) (hcl : cells ≤ R.cells ∧ slots ≤ R.slots)
    (kk : ∀ (v : Option Value) (F2 : Nat → va_E) (H1 : Heap) (locs1 : List Loc), Qv v F2 → GW D N L A F2 H1 → va_S A s.heap H1 locs1 → W p l e R s m args below meth c H1 locs1 cells slots Q (F0 m (pc + 3) ls (v.toList ++ rest))) : W p l e R s m args below meth c H locs cells slots Q (F0 m pc ls st0) := by
  have hDt : va_D (fun _ => True) (gw N L F) := gw_D hG.2 (fun _ _ => trivial)
  have hst9 : gst (gA N L H.size) s H := (hK.2.2.kept hS.2.1).narrow (g_AA hG hS hA)
  refine g_back (va_runS (As := As) (rest := rest) ⟨hexec, hb, hml, hown, hts⟩ (hM H.size) cw ⟨gPc_blind, fun U hU hW => ⟨rfl, by rw [hU], by rw [hU]; exact hG.1, va_K.moved hW.alike hK.1, hDt, hK.2.1.warm hW, by rw [hU]; exact hst9.moved hW.alike⟩⟩ rfl hn hsize hst (lv_room hroom) hdg hcl) hG hS hA (fun q h => h) kk
/-- the same for contracts whose answer and world are said -/
theorem g_cV {y : MethodName} {bytes : ByteArray} {maxL nL n index : Nat} {ret : Option FieldType} {ws : List Cond} {rm : Room} {Ts : List Cond} {own C : String} {As st0 : List Value} {rv : Option Value} {F2 : Nat → va_E} {i ci : Nat} {fs : List Value} {q : vw_C}
    (hexec : p.tables.exec = Jvm.exec) (hb : c.code = cc) (hml : c.maxLocals = nL) (hown : s.vm.findClass own = some m.cls) (hts : ∀ w ∈ Ts, w.before args s = true) (hK : gK D cy A s) (hA : ∀ q, s.heap.size ≤ q → A q) (hG : GW D N L A F H) (hS : va_S A s.heap H locs)
    (hM : GM l D cy N L y ws rm (.ref (L i) :: As) F rv F2) (cw : CallW R s args own C index y bytes maxL ret ws rm 0 0 n) (hi : i < N) (hF : F i = .inr (ci, fs)) (hc : vwCl[ci]? = some q) (hqC : q.1 = C) (hst : st0 = As.reverse ++ .ref (L i) :: rest) (hn : As.length = n) (hsize : ls.size = nL) (hroom : (rest.map fun v => v.category).sum ≤ 8) (hdg : decode cc pc = .ok (.invokevirtual index, 3)) (hcl : cells ≤ R.cells ∧ slots ≤ R.slots)
    (kk : ∀ (H1 : Heap) (locs1 : List Loc), GW D N L A F2 H1 → va_S A s.heap H1 locs1 → W p l e R s m args below meth c H1 locs1 cells slots Q (F0 m (pc + 3) ls (rv.toList ++ rest))) : W p l e R s m args below meth c H locs cells slots Q (F0 m pc ls st0) :=
  g_callV hexec hb hml hown hts hK hA hG hS hM cw hi hF hc hqC hst hn hsize hroom hdg hcl (fun v F3 H1 locs1 hq hG1 hS1 => by obtain ⟨rfl, rfl⟩ := hq; exact kk H1 locs1 hG1 hS1)
theorem g_cS {y : MethodName} {bytes : ByteArray} {maxL nL n index : Nat} {ret : Option FieldType} {ws : List Cond} {rm : Room} {Ts : List Cond} {own : String} {As st0 : List Value} {rv : Option Value} {F2 : Nat → va_E}
    (hexec : p.tables.exec = Jvm.exec) (hb : c.code = cc) (hml : c.maxLocals = nL) (hown : s.vm.findClass own = some m.cls) (hts : ∀ w ∈ Ts, w.before args s = true) (hK : gK D cy A s) (hA : ∀ q, s.heap.size ≤ q → A q) (hG : GW D N L A F H) (hS : va_S A s.heap H locs)
    (hM : GM l D cy N L y ws rm As F rv F2) (cw : CallB R s args own index y bytes maxL ret ws rm 0 0 n ∧ (Cond.static y).before args s = true) (hst : st0 = As.reverse ++ rest) (hn : As.length = n) (hsize : ls.size = nL) (hroom : (rest.map fun v => v.category).sum ≤ 8) (hdg : decode cc pc = .ok (.invokestatic index, 3)) (hcl : cells ≤ R.cells ∧ slots ≤ R.slots)
    (kk : ∀ (H1 : Heap) (locs1 : List Loc), GW D N L A F2 H1 → va_S A s.heap H1 locs1 → W p l e R s m args below meth c H1 locs1 cells slots Q (F0 m (pc + 3) ls (rv.toList ++ rest))) : W p l e R s m args below meth c H locs cells slots Q (F0 m pc ls st0) :=
  g_callS hexec hb hml hown hts hK hA hG hS hM cw hst hn hsize hroom hdg hcl (fun v F3 H1 locs1 hq hG1 hS1 => by obtain ⟨rfl, rfl⟩ := hq; exact kk H1 locs1 hG1 hS1)
theorem g_cVi {y : MethodName} {bytes : ByteArray} {maxL nL n index : Nat} {ret : Option FieldType} {ws : List Cond} {rm : Room} {Ts : List Cond} {own C : String} {As st0 : List Value} {r : Int32} {F2 : Nat → va_E} {i ci : Nat} {fs : List Value} {q : vw_C}
    (hexec : p.tables.exec = Jvm.exec) (hb : c.code = cc) (hml : c.maxLocals = nL) (hown : s.vm.findClass own = some m.cls) (hts : ∀ w ∈ Ts, w.before args s = true) (hK : gK D cy A s) (hA : ∀ q, s.heap.size ≤ q → A q) (hG : GW D N L A F H) (hS : va_S A s.heap H locs)
    (hM : GM l D cy N L y ws rm (.ref (L i) :: As) F (some (.int r)) F2) (cw : CallW R s args own C index y bytes maxL ret ws rm 0 0 n) (hi : i < N) (hF : F i = .inr (ci, fs)) (hc : vwCl[ci]? = some q) (hqC : q.1 = C) (hst : st0 = As.reverse ++ .ref (L i) :: rest) (hn : As.length = n) (hsize : ls.size = nL) (hroom : (rest.map fun v => v.category).sum ≤ 8) (hdg : decode cc pc = .ok (.invokevirtual index, 3)) (hcl : cells ≤ R.cells ∧ slots ≤ R.slots)
    (kk : ∀ (H1 : Heap) (locs1 : List Loc), GW D N L A F2 H1 → va_S A s.heap H1 locs1 → W p l e R s m args below meth c H1 locs1 cells slots Q (F0 m (pc + 3) ls (.int r :: rest))) : W p l e R s m args below meth c H locs cells slots Q (F0 m pc ls st0) :=
  g_cV hexec hb hml hown hts hK hA hG hS hM cw hi hF hc hqC hst hn hsize hroom hdg hcl kk
theorem g_cSi {y : MethodName} {bytes : ByteArray} {maxL nL n index : Nat} {ret : Option FieldType} {ws : List Cond} {rm : Room} {Ts : List Cond} {own : String} {As st0 : List Value} {r : Int32} {F2 : Nat → va_E}
    (hexec : p.tables.exec = Jvm.exec) (hb : c.code = cc) (hml : c.maxLocals = nL) (hown : s.vm.findClass own = some m.cls) (hts : ∀ w ∈ Ts, w.before args s = true) (hK : gK D cy A s) (hA : ∀ q, s.heap.size ≤ q → A q) (hG : GW D N L A F H) (hS : va_S A s.heap H locs)
    (hM : GM l D cy N L y ws rm As F (some (.int r)) F2) (cw : CallB R s args own index y bytes maxL ret ws rm 0 0 n ∧ (Cond.static y).before args s = true) (hst : st0 = As.reverse ++ rest) (hn : As.length = n) (hsize : ls.size = nL) (hroom : (rest.map fun v => v.category).sum ≤ 8) (hdg : decode cc pc = .ok (.invokestatic index, 3)) (hcl : cells ≤ R.cells ∧ slots ≤ R.slots)
    (kk : ∀ (H1 : Heap) (locs1 : List Loc), GW D N L A F2 H1 → va_S A s.heap H1 locs1 → W p l e R s m args below meth c H1 locs1 cells slots Q (F0 m (pc + 3) ls (.int r :: rest))) : W p l e R s m args below meth c H locs cells slots Q (F0 m pc ls st0) :=
  g_cS hexec hb hml hown hts hK hA hG hS hM cw hst hn hsize hroom hdg hcl kk
theorem g_cVl {y : MethodName} {bytes : ByteArray} {maxL nL n index : Nat} {ret : Option FieldType} {ws : List Cond} {rm : Room} {Ts : List Cond} {own C : String} {As st0 : List Value} {r : Int64} {F2 : Nat → va_E} {i ci : Nat} {fs : List Value} {q : vw_C}
    (hexec : p.tables.exec = Jvm.exec) (hb : c.code = cc) (hml : c.maxLocals = nL) (hown : s.vm.findClass own = some m.cls) (hts : ∀ w ∈ Ts, w.before args s = true) (hK : gK D cy A s) (hA : ∀ q, s.heap.size ≤ q → A q) (hG : GW D N L A F H) (hS : va_S A s.heap H locs)
    (hM : GM l D cy N L y ws rm (.ref (L i) :: As) F (some (.long r)) F2) (cw : CallW R s args own C index y bytes maxL ret ws rm 0 0 n) (hi : i < N) (hF : F i = .inr (ci, fs)) (hc : vwCl[ci]? = some q) (hqC : q.1 = C) (hst : st0 = As.reverse ++ .ref (L i) :: rest) (hn : As.length = n) (hsize : ls.size = nL) (hroom : (rest.map fun v => v.category).sum ≤ 8) (hdg : decode cc pc = .ok (.invokevirtual index, 3)) (hcl : cells ≤ R.cells ∧ slots ≤ R.slots)
    (kk : ∀ (H1 : Heap) (locs1 : List Loc), GW D N L A F2 H1 → va_S A s.heap H1 locs1 → W p l e R s m args below meth c H1 locs1 cells slots Q (F0 m (pc + 3) ls (.long r :: rest))) : W p l e R s m args below meth c H locs cells slots Q (F0 m pc ls st0) :=
  g_cV hexec hb hml hown hts hK hA hG hS hM cw hi hF hc hqC hst hn hsize hroom hdg hcl kk
theorem g_cSl {y : MethodName} {bytes : ByteArray} {maxL nL n index : Nat} {ret : Option FieldType} {ws : List Cond} {rm : Room} {Ts : List Cond} {own : String} {As st0 : List Value} {r : Int64} {F2 : Nat → va_E}
    (hexec : p.tables.exec = Jvm.exec) (hb : c.code = cc) (hml : c.maxLocals = nL) (hown : s.vm.findClass own = some m.cls) (hts : ∀ w ∈ Ts, w.before args s = true) (hK : gK D cy A s) (hA : ∀ q, s.heap.size ≤ q → A q) (hG : GW D N L A F H) (hS : va_S A s.heap H locs)
    (hM : GM l D cy N L y ws rm As F (some (.long r)) F2) (cw : CallB R s args own index y bytes maxL ret ws rm 0 0 n ∧ (Cond.static y).before args s = true) (hst : st0 = As.reverse ++ rest) (hn : As.length = n) (hsize : ls.size = nL) (hroom : (rest.map fun v => v.category).sum ≤ 8) (hdg : decode cc pc = .ok (.invokestatic index, 3)) (hcl : cells ≤ R.cells ∧ slots ≤ R.slots)
    (kk : ∀ (H1 : Heap) (locs1 : List Loc), GW D N L A F2 H1 → va_S A s.heap H1 locs1 → W p l e R s m args below meth c H1 locs1 cells slots Q (F0 m (pc + 3) ls (.long r :: rest))) : W p l e R s m args below meth c H locs cells slots Q (F0 m pc ls st0) :=
  g_cS hexec hb hml hown hts hK hA hG hS hM cw hst hn hsize hroom hdg hcl kk
theorem g_cVd {y : MethodName} {bytes : ByteArray} {maxL nL n index : Nat} {ret : Option FieldType} {ws : List Cond} {rm : Room} {Ts : List Cond} {own C : String} {As st0 : List Value} {r : UInt64} {F2 : Nat → va_E} {i ci : Nat} {fs : List Value} {q : vw_C}
    (hexec : p.tables.exec = Jvm.exec) (hb : c.code = cc) (hml : c.maxLocals = nL) (hown : s.vm.findClass own = some m.cls) (hts : ∀ w ∈ Ts, w.before args s = true) (hK : gK D cy A s) (hA : ∀ q, s.heap.size ≤ q → A q) (hG : GW D N L A F H) (hS : va_S A s.heap H locs)
    (hM : GM l D cy N L y ws rm (.ref (L i) :: As) F (some (.double r)) F2) (cw : CallW R s args own C index y bytes maxL ret ws rm 0 0 n) (hi : i < N) (hF : F i = .inr (ci, fs)) (hc : vwCl[ci]? = some q) (hqC : q.1 = C) (hst : st0 = As.reverse ++ .ref (L i) :: rest) (hn : As.length = n) (hsize : ls.size = nL) (hroom : (rest.map fun v => v.category).sum ≤ 8) (hdg : decode cc pc = .ok (.invokevirtual index, 3)) (hcl : cells ≤ R.cells ∧ slots ≤ R.slots)
    (kk : ∀ (H1 : Heap) (locs1 : List Loc), GW D N L A F2 H1 → va_S A s.heap H1 locs1 → W p l e R s m args below meth c H1 locs1 cells slots Q (F0 m (pc + 3) ls (.double r :: rest))) : W p l e R s m args below meth c H locs cells slots Q (F0 m pc ls st0) :=
  g_cV hexec hb hml hown hts hK hA hG hS hM cw hi hF hc hqC hst hn hsize hroom hdg hcl kk
theorem g_cSd {y : MethodName} {bytes : ByteArray} {maxL nL n index : Nat} {ret : Option FieldType} {ws : List Cond} {rm : Room} {Ts : List Cond} {own : String} {As st0 : List Value} {r : UInt64} {F2 : Nat → va_E}
    (hexec : p.tables.exec = Jvm.exec) (hb : c.code = cc) (hml : c.maxLocals = nL) (hown : s.vm.findClass own = some m.cls) (hts : ∀ w ∈ Ts, w.before args s = true) (hK : gK D cy A s) (hA : ∀ q, s.heap.size ≤ q → A q) (hG : GW D N L A F H) (hS : va_S A s.heap H locs)
    (hM : GM l D cy N L y ws rm As F (some (.double r)) F2) (cw : CallB R s args own index y bytes maxL ret ws rm 0 0 n ∧ (Cond.static y).before args s = true) (hst : st0 = As.reverse ++ rest) (hn : As.length = n) (hsize : ls.size = nL) (hroom : (rest.map fun v => v.category).sum ≤ 8) (hdg : decode cc pc = .ok (.invokestatic index, 3)) (hcl : cells ≤ R.cells ∧ slots ≤ R.slots)
    (kk : ∀ (H1 : Heap) (locs1 : List Loc), GW D N L A F2 H1 → va_S A s.heap H1 locs1 → W p l e R s m args below meth c H1 locs1 cells slots Q (F0 m (pc + 3) ls (.double r :: rest))) : W p l e R s m args below meth c H locs cells slots Q (F0 m pc ls st0) :=
  g_cS hexec hb hml hown hts hK hA hG hS hM cw hst hn hsize hroom hdg hcl kk
theorem g_cVv {y : MethodName} {bytes : ByteArray} {maxL nL n index : Nat} {ret : Option FieldType} {ws : List Cond} {rm : Room} {Ts : List Cond} {own C : String} {As st0 : List Value}  {F2 : Nat → va_E} {i ci : Nat} {fs : List Value} {q : vw_C}
    (hexec : p.tables.exec = Jvm.exec) (hb : c.code = cc) (hml : c.maxLocals = nL) (hown : s.vm.findClass own = some m.cls) (hts : ∀ w ∈ Ts, w.before args s = true) (hK : gK D cy A s) (hA : ∀ q, s.heap.size ≤ q → A q) (hG : GW D N L A F H) (hS : va_S A s.heap H locs)
    (hM : GM l D cy N L y ws rm (.ref (L i) :: As) F (none) F2) (cw : CallW R s args own C index y bytes maxL ret ws rm 0 0 n) (hi : i < N) (hF : F i = .inr (ci, fs)) (hc : vwCl[ci]? = some q) (hqC : q.1 = C) (hst : st0 = As.reverse ++ .ref (L i) :: rest) (hn : As.length = n) (hsize : ls.size = nL) (hroom : (rest.map fun v => v.category).sum ≤ 8) (hdg : decode cc pc = .ok (.invokevirtual index, 3)) (hcl : cells ≤ R.cells ∧ slots ≤ R.slots)
    (kk : ∀ (H1 : Heap) (locs1 : List Loc), GW D N L A F2 H1 → va_S A s.heap H1 locs1 → W p l e R s m args below meth c H1 locs1 cells slots Q (F0 m (pc + 3) ls rest)) : W p l e R s m args below meth c H locs cells slots Q (F0 m pc ls st0) :=
  g_cV hexec hb hml hown hts hK hA hG hS hM cw hi hF hc hqC hst hn hsize hroom hdg hcl kk
theorem g_cSv {y : MethodName} {bytes : ByteArray} {maxL nL n index : Nat} {ret : Option FieldType} {ws : List Cond} {rm : Room} {Ts : List Cond} {own : String} {As st0 : List Value}  {F2 : Nat → va_E}
    (hexec : p.tables.exec = Jvm.exec) (hb : c.code = cc) (hml : c.maxLocals = nL) (hown : s.vm.findClass own = some m.cls) (hts : ∀ w ∈ Ts, w.before args s = true) (hK : gK D cy A s) (hA : ∀ q, s.heap.size ≤ q → A q) (hG : GW D N L A F H) (hS : va_S A s.heap H locs)
    (hM : GM l D cy N L y ws rm As F (none) F2) (cw : CallB R s args own index y bytes maxL ret ws rm 0 0 n ∧ (Cond.static y).before args s = true) (hst : st0 = As.reverse ++ rest) (hn : As.length = n) (hsize : ls.size = nL) (hroom : (rest.map fun v => v.category).sum ≤ 8) (hdg : decode cc pc = .ok (.invokestatic index, 3)) (hcl : cells ≤ R.cells ∧ slots ≤ R.slots)
    (kk : ∀ (H1 : Heap) (locs1 : List Loc), GW D N L A F2 H1 → va_S A s.heap H1 locs1 → W p l e R s m args below meth c H1 locs1 cells slots Q (F0 m (pc + 3) ls rest)) : W p l e R s m args below meth c H locs cells slots Q (F0 m pc ls st0) :=
  g_cS hexec hb hml hown hts hK hA hG hS hM cw hst hn hsize hroom hdg hcl kk
theorem g_get (hexec : p.tables.exec = Jvm.exec) (hb : c.code = cc) {own ref C : String} {T : u_T} {M ci index i : Nat} {Ts : List Cond} (hts : ∀ w ∈ Ts, w.before args s = true) (hin : ∀ w ∈ u_ws C T M, w ∈ Ts) (hown : s.vm.findClass own = some m.cls) {B9 : Nat → Prop} (hK : gK D cy B9 s) (hG : GW D N L A F H) (hi : i < N) {fs : List Value} (hF : F i = .inr (ci, fs)) (hc : vwCl[ci]? = some (C, T, M)) (k : Nat) (hk : k < M) (hlink : (Cond.fieldLink own index ref (T k).2.1 (T k).2.2.1).before args s = true) (href : (T k).1 = ref) {v : Value} (hv : fs[k]? = some v) (hdg : decode cc pc = .ok (.getfield index, 3))
    (kk : W p l e R s m args below meth c H locs cells slots Q (F0 m (pc + 3) ls (v :: rest))) : W p l e R s m args below meth c H locs cells slots Q (F0 m pc ls (.ref (L i) :: rest)) :=
  va_get hexec hb hts hin hown hK.1 hG.1 i (by rw [gw_at hi, hF]) hc k hk hlink (fun x h => by rw [← href]; exact h) hv hdg kk
theorem g_put (hexec : p.tables.exec = Jvm.exec) (hb : c.code = cc) {own ref C : String} {T : u_T} {M ci index i : Nat} {Ts : List Cond} (hts : ∀ w ∈ Ts, w.before args s = true) (hin : ∀ w ∈ u_ws C T M, w ∈ Ts) (ty0 : Nat → FieldType) (hty : ∀ k, k < M → parseFieldDescriptor (T k).2.2.1 = some (ty0 k)) (hnm : ∀ a, a < M → ∀ b, b < M → a ≠ b → (T a).2.1 ≠ (T b).2.1) (hown : s.vm.findClass own = some m.cls) {B9 : Nat → Prop} (hK : gK D cy B9 s) (hG : GW D N L A F H) (hS : va_S A H0 H locs) (hi : i < N) {fs : List Value} (hF : F i = .inr (ci, fs)) (hc : vwCl[ci]? = some (C, T, M)) (k : Nat) (hk : k < M) (hlink : (Cond.fieldLink own index ref (T k).2.1 (T k).2.2.1).before args s = true) (href : (T k).1 = ref) (hfin : (T k).2.2.2 = false) {ty : FieldType} {v : Value} (hd : parseFieldDescriptor (T k).2.2.1 = some ty) (hn : narrow ty v = v) (hfit : fits ty v = true) (hl : k < fs.length)
    (hdg : decode cc pc = .ok (.putfield index, 3)) {fs2 : List Value} (h2 : fs.set k v = fs2) (kk : ∀ (H1 : Heap) (locs1 : List Loc), GW D N L A (gup F i (.inr (ci, fs2))) H1 → va_S A H0 H1 locs1 → W p l e R s m args below meth c H1 locs1 cells slots Q (F0 m (pc + 3) ls rest)) : W p l e R s m args below meth c H locs cells slots Q (F0 m pc ls (v :: .ref (L i) :: rest)) := by
  subst h2
  refine va_put hexec hb hts hin ty0 hty hnm hown hK.1 hG.1 hG.2 hS i (by rw [gw_at hi, hF]) hc k hk hlink (fun x h => by rw [← href]; exact h) hfin hd hn hfit hl hdg (fun H1 locs1 hP hD hS1 => ?_)
  rw [gw_set hi] at hP hD
  exact kk H1 locs1 ⟨hP, hD⟩ hS1
theorem g_iald (hexec : p.tables.exec = Jvm.exec) (hb : c.code = cc) {B9 : Nat → Prop} (hK : gK D cy B9 s) (hG : GW D N L A F H) {i n : Nat} {f : Nat → Int32} (hi : i < N) (hF : F i = .inl (cy 0, n, .inl f)) {x : Int32} {k : Nat} (hx : x = nI k) (hk : k < n) (hn : n < 2 ^ 31) (hdg : decode cc pc = .ok (.iaload, 1))
    (kk : W p l e R s m args below meth c H locs cells slots Q (F0 m (pc + 1) ls (.int (f k) :: rest))) : W p l e R s m args below meth c H locs cells slots Q (F0 m pc ls (.int x :: .ref (L i) :: rest)) := by
  subst hx
  refine va_iald hexec hb hK.1 hG.1 i 0 (by rw [gw_at hi, hF]) rfl (vp_in_nI hk hn) hdg ?_
  rw [nI_clamp (Nat.lt_trans hk hn)]
  exact kk
theorem g_iast (hexec : p.tables.exec = Jvm.exec) (hb : c.code = cc) {B9 : Nat → Prop} (hK : gK D cy B9 s) (hG : GW D N L A F H) (hS : va_S A H0 H locs) {i n : Nat} {f : Nat → Int32} (hi : i < N) (hF : F i = .inl (cy 0, n, .inl f)) {x v : Int32} {k : Nat} (hx : x = nI k) (hk : k < n) (hn : n < 2 ^ 31) (hdg : decode cc pc = .ok (.iastore, 1))
    (kk : ∀ (H1 : Heap) (locs1 : List Loc), GW D N L A (gup F i (.inl (cy 0, n, .inl (upd f k v)))) H1 → va_S A H0 H1 locs1 → W p l e R s m args below meth c H1 locs1 cells slots Q (F0 m (pc + 1) ls rest)) : W p l e R s m args below meth c H locs cells slots Q (F0 m pc ls (.int v :: .int x :: .ref (L i) :: rest)) := by
  subst hx
  refine va_iast hexec hb hK.1 hG.1 hG.2 hS i 0 (by rw [gw_at hi, hF]) rfl (vp_in_nI hk hn) hdg (fun H1 locs1 hP hD hS1 => ?_)
  rw [gw_set hi, nI_clamp (Nat.lt_trans hk hn)] at hP hD
  exact kk H1 locs1 ⟨hP, hD⟩ hS1
theorem g_alen (hexec : p.tables.exec = Jvm.exec) (hb : c.code = cc) {B9 : Nat → Prop} (hK : gK D cy B9 s) (hG : GW D N L A F H) {i t0 : Nat} {cA : ClassId} {ty : FieldType} {x : vp_A} (hi : i < N) (hF : F i = .inl (cA, x)) (ht : (gty cy)[t0]? = some (cA, ty)) {v : Int32} (hv : Int32.ofNat x.1 = v) (hdg : decode cc pc = .ok (.arraylength, 1))
    (kk : W p l e R s m args below meth c H locs cells slots Q (F0 m (pc + 1) ls (.int v :: rest))) : W p l e R s m args below meth c H locs cells slots Q (F0 m pc ls (.ref (L i) :: rest)) :=
  va_alen hexec hb hK.1 hG.1 i t0 (by rw [gw_at hi, hF]) ht hv hdg kk
/-- an array of references: the cell at its row k is the one at the place j -/
theorem g_aald (hexec : p.tables.exec = Jvm.exec) (hb : c.code = cc) {B9 : Nat → Prop} (hK : gK D cy B9 s) (hG : GW D N L A F H) {i n t0 : Nat} {cA : ClassId} {C : String} {f : Nat → Option Nat} (hi : i < N) (hF : F i = .inl (cA, n, .inr (.inr (.inr (.inr f))))) (ht : (gty cy)[t0]? = some (cA, .object C)) {x : Int32} {k j : Nat} (hx : x = nI k) (hk : k < n) (hn : n < 2 ^ 31) (hj : f k = some (L j)) (hdg : decode cc pc = .ok (.aaload, 1))
    (kk : W p l e R s m args below meth c H locs cells slots Q (F0 m (pc + 1) ls (.ref (L j) :: rest))) : W p l e R s m args below meth c H locs cells slots Q (F0 m pc ls (.int x :: .ref (L i) :: rest)) := by
  subst hx
  refine va_aldq hexec hb hK.1 hG.1 i t0 (by rw [gw_at hi, hF]) ht (vp_in_nI hk hn) hdg ?_
  rw [nI_clamp (Nat.lt_trans hk hn), hj]
  exact kk
theorem g_aast (hexec : p.tables.exec = Jvm.exec) (hb : c.code = cc) {B9 : Nat → Prop} (hK : gK D cy B9 s) (hG : GW D N L A F H) (hS : va_S A H0 H locs) {i n t0 j ci : Nat} {cA : ClassId} {r : vw_C} {vs : List Value} {f : Nat → Option Nat} (hi : i < N) (hF : F i = .inl (cA, n, .inr (.inr (.inr (.inr f))))) (ht : (gty cy)[t0]? = some (cA, .object r.1)) (hj : j < N) (hFj : F j = .inr (ci, vs)) (hc : vwCl[ci]? = some r) {x : Int32} {k : Nat} (hx : x = nI k) (hk : k < n) (hn : n < 2 ^ 31) (hdg : decode cc pc = .ok (.aastore, 1))
    (kk : ∀ (H1 : Heap) (locs1 : List Loc), GW D N L A (gup F i (.inl (cA, n, .inr (.inr (.inr (.inr (va_up f k (some (L j)))))))))  H1 → va_S A H0 H1 locs1 → W p l e R s m args below meth c H1 locs1 cells slots Q (F0 m (pc + 1) ls rest)) : W p l e R s m args below meth c H locs cells slots Q (F0 m pc ls (.ref (L j) :: .int x :: .ref (L i) :: rest)) := by
  subst hx
  refine va_astq hexec hb hK.1 hG.1 hG.2 hS i t0 j ci (by rw [gw_at hi, hF]) ht (by rw [gw_at hj, hFj]) hc (vp_in_nI hk hn) hdg (fun H1 locs1 hP hD hS1 => ?_)
  rw [gw_set hi, nI_clamp (Nat.lt_trans hk hn)] at hP hD
  exact kk H1 locs1 ⟨hP, hD⟩ hS1
theorem g_cSN {y : MethodName} {bytes : ByteArray} {maxL nL n index : Nat} {ret : Option FieldType} {ws : List Cond} {rm : Room} {Ts : List Cond} {own host : String} {As st0 : List Value} {r : Int32} {F2 : Nat → va_E}
    (hexec : p.tables.exec = Jvm.exec) (hb : c.code = cc) (hml : c.maxLocals = nL) (hown : s.vm.findClass own = some m.cls) (hts : ∀ w ∈ Ts, w.before args s = true) (hK : gK D cy A s) (hA : ∀ q, s.heap.size ≤ q → A q) (hG : GW D N L A F H) (hS : va_S A s.heap H locs)
    (hM : GM l D cy N L y ws rm As F (some (.int r)) F2) (cw : va_CN R s args own index y host bytes maxL ret ws rm 0 0 n ∧ (Cond.static y).before args s = true) (hst : st0 = As.reverse ++ rest) (hn : As.length = n) (hsize : ls.size = nL) (hroom : (rest.map fun v => v.category).sum ≤ 8) (hdg : decode cc pc = .ok (.invokestatic index, 3)) (hcl : cells ≤ R.cells ∧ slots ≤ R.slots)
    (kk : ∀ (H1 : Heap) (locs1 : List Loc), GW D N L A F2 H1 → va_S A s.heap H1 locs1 → W p l e R s m args below meth c H1 locs1 cells slots Q (F0 m (pc + 3) ls (.int r :: rest))) : W p l e R s m args below meth c H locs cells slots Q (F0 m pc ls st0) := by
  have hDt : va_D (fun _ => True) (gw N L F) := gw_D hG.2 (fun _ _ => trivial)
  have hst9 : gst (gA N L H.size) s H := (hK.2.2.kept hS.2.1).narrow (g_AA hG hS hA)
  refine g_back (va_runSN (As := As) (rest := rest) ⟨hexec, hb, hml, hown, hts⟩ (hM H.size) ⟨cw.1, cw.2, trivial⟩ ⟨gPc_blind, fun U hU hW => ⟨rfl, by rw [hU], by rw [hU]; exact hG.1, va_K.moved hW.alike hK.1, hDt, hK.2.1.warm hW, by rw [hU]; exact hst9.moved hW.alike⟩⟩ rfl hn hsize hst (lv_room hroom) hdg hcl) hG hS hA (fun q h => h) (fun v F3 H1 locs1 hq hG1 hS1 => by obtain ⟨rfl, rfl⟩ := hq; exact kk H1 locs1 hG1 hS1)
theorem lv_toN {x : Int32} {k : Nat} (h : x = nI k) (kk : W p l e R s m args below meth c H locs cells slots Q (F0 m pc ls (.int (nI k) :: rest))) : W p l e R s m args below meth c H locs cells slots Q (F0 m pc ls (.int x :: rest)) := by
  subst h
  exact kk
theorem lv_toI {x y : Int32} (h : x = y) (kk : W p l e R s m args below meth c H locs cells slots Q (F0 m pc ls (.int y :: rest))) : W p l e R s m args below meth c H locs cells slots Q (F0 m pc ls (.int x :: rest)) := by
  subst h
  exact kk
theorem g_gets {own ref : String} {n : String} {f : Nat → Int32} {index t : Nat} (hexec : p.tables.exec = Jvm.exec) (hb : c.code = cc) (hS : va_S A s.heap H locs) (hZ : va_Z "SiloPads" n "[I" (.ref t) A s s.heap) (hown : s.vm.findClass own = some m.cls) (hlink : (Cond.fieldLink own index "SiloPads" n "[I").before args s = true) (hdg : decode cc pc = .ok (.getstatic index, 3))
    (kk : W p l e R s m args below meth c H locs cells slots Q (F0 m (pc + 3) ls (.ref t :: rest))) : W p l e R s m args below meth c H locs cells slots Q (F0 m pc ls rest) :=
  va_gets hexec hb hZ hS hown hlink (fun x h => h) hdg kk
theorem g_sald {f : Nat → Int32} {t k : Nat} (hexec : p.tables.exec = Jvm.exec) (hb : c.code = cc) (hS : va_S A s.heap H locs) (hT : va_T .int t 4 (fun j => .int (f j)) A s s.heap) {x : Int32} (hx : x = nI k) (hk : k < 4) (hdg : decode cc pc = .ok (.iaload, 1))
    (kk : W p l e R s m args below meth c H locs cells slots Q (F0 m (pc + 1) ls (.int (f k) :: rest))) : W p l e R s m args below meth c H locs cells slots Q (F0 m pc ls (.int x :: .ref t :: rest)) := by
  subst hx
  obtain ⟨cell, h1, h2, h3, h4, -, h5, h6⟩ := hT
  refine W.iald (v := .int (f k)) hexec hb (by rw [hS.2.1 t (Array.getElem?_eq_some_iff.mp h1).1 h6]; exact h1) h2 h3 ?_ ?_ rfl rfl hdg kk
  · rw [nI_clamp (by omega)]
    intro q
    rcases q with q | q
    · exact nI_pos (by omega) q
    · omega
  · rw [nI_clamp (by omega)]
    exact h5 k hk
/-- a loop: a place of the code, what holds there of the loop's numbers x, and a measure that falls -/
theorem W.loop {σ : Type} {st : List Value} (P : σ → Heap → List Loc → Array Slot → Prop) (μ : σ → Nat) (x0 : σ) (h0 : P x0 H locs ls)
    (step : ∀ (x : σ) (H : Heap) (locs : List Loc) (ls : Array Slot), P x H locs ls → (∀ (y : σ) (H2 : Heap) (locs2 : List Loc) (ls2 : Array Slot), μ y < μ x → P y H2 locs2 ls2 → W p l e R s m args below meth c H2 locs2 cells slots Q (F0 m pc ls2 st)) → W p l e R s m args below meth c H locs cells slots Q (F0 m pc ls st)) : W p l e R s m args below meth c H locs cells slots Q (F0 m pc ls st) := by
  have h : ∀ (n : Nat) (x : σ) (H : Heap) (locs : List Loc) (ls : Array Slot), μ x < n → P x H locs ls → W p l e R s m args below meth c H locs cells slots Q (F0 m pc ls st) := by
    intro n
    induction n with
    | zero => intro x H locs ls h; exact absurd h (Nat.not_lt_zero _)
    | succ n ih => intro x H locs ls hx hP; exact step x H locs ls hP (fun y H2 locs2 ls2 hy hP2 => ih y H2 locs2 ls2 (by omega) hP2)
  exact h (μ x0 + 1) x0 H locs ls (Nat.lt_succ_self _) h0
/-- a place of the code where several ways meet -/
theorem W.cut {st st2 : List Value} {pc2 : Nat} {H : Heap} {locs : List Loc} (P : Heap → List Loc → Array Slot → Prop) (h : (∀ (H2 : Heap) (locs2 : List Loc) (ls2 : Array Slot), P H2 locs2 ls2 → W p l e R s m args below meth c H2 locs2 cells slots Q (F0 m pc2 ls2 st2)) → W p l e R s m args below meth c H locs cells slots Q (F0 m pc ls st))
    (h2 : ∀ (H2 : Heap) (locs2 : List Loc) (ls2 : Array Slot), P H2 locs2 ls2 → W p l e R s m args below meth c H2 locs2 cells slots Q (F0 m pc2 ls2 st2)) : W p l e R s m args below meth c H locs cells slots Q (F0 m pc ls st) := h h2
end GR
theorem lv_to {ls : Array Slot} {n : Nat} {a b : List (Nat × Value)} (h : lv_has ls n a) (e : a = b) : lv_has ls n b := e ▸ h
theorem g_cwS {R : Room} {s : State} {args : Array Value} {own : String} {index maxL : Nat} {y : MethodName} {bytes : ByteArray} {ret : Option FieldType} {Ts ws ws' : List Cond} {rm : Room} (n : Nat) (ht : ∀ w ∈ Ts, w.before args s = true) (hT : GoodIn Ts (va_wsS own index y ws)) (hw : ws = Cond.code y bytes maxL ret :: ws') (hrc : rm.cells = 0) (hrs : rm.slots = 0)
    (hd : y.cls ≠ "java/lang/invoke/MethodHandle" ∧ y.cls ≠ "java/lang/invoke/VarHandle" ∧ (parseMethodDescriptor y.desc).map (fun d => d.parameters.length) = some n) (hR : rm.frames + 1 ≤ R.frames ∧ 8 + (maxL + 11) + rm.locals ≤ R.locals) :
    CallB R s args own index y bytes maxL ret ws rm 0 0 n ∧ (Cond.static y).before args s = true := by
  have ok : ∀ w ∈ va_wsS own index y ws, w.before args s = true := fun w h => ht w (hT w h).1
  exact ⟨callB_of n ht (fun w h => hT w (by unfold va_wsS; exact List.mem_append_right _ h)) hw hrc hrs (ok _ (by simp [va_wsS])) (ok _ (by simp [va_wsS])) hd hR, ok _ (by simp [va_wsS])⟩
theorem lk_out2 {x : Int32} {k0 k1 : Int} {o0 o1 df : Int} (h0 : ¬ x = Int32.ofInt k0) (h1 : ¬ x = Int32.ofInt k1) : Op.lookupswitch.offset [(k0, o0), (k1, o1)] df x.toInt = df := by
  have e0 : ¬ x.toInt = k0 := fun h => h0 (by rw [← h, Int32.ofInt_toInt])
  have e1 : ¬ x.toInt = k1 := fun h => h1 (by rw [← h, Int32.ofInt_toInt])
  simp [Op.lookupswitch.offset, List.find?, e0, e1, Ne.symm]
end
section
/-! rows copied over rows, how hard -/
def g_min (a b : Int32) : Int32 := if b ≤ a then b else a
/-- n of g's rows from a on, put over f from d on -/
def cpN (f g : Nat → Int32) (d a n : Nat) : Nat → Int32 := fun j => if d ≤ j ∧ j < d + n then g (j - d + a) else f j
theorem cpN_0 {f g : Nat → Int32} {d a : Nat} : cpN f g d a 0 = f := by
  funext j
  simp only [cpN]
  rw [if_neg (by omega)]
theorem cpN_s {f g : Nat → Int32} {d a k : Nat} : upd (cpN f g d a k) (d + k) (g (k + a)) = cpN f g d a (k + 1) := by
  funext j
  by_cases h : j = d + k
  · subst h
    simp only [cpN, pk_us]
    rw [if_pos (by omega), show d + k - d + a = k + a by omega]
  · rw [pk_un h]
    simp only [cpN]
    by_cases h2 : d ≤ j ∧ j < d + k
    · rw [if_pos h2, if_pos (by omega)]
    · rw [if_neg h2, if_neg (by omega)]
theorem cpN_own {f g : Nat → Int32} {d a k j : Nat} (h : d + k ≤ j) : cpN f g d a k j = f j := by
  simp only [cpN]
  rw [if_neg (by omega)]
def g_set (a d : Int32) : Int32 := if d < a then (if 2 * d < a then 2 else 1) else 0
theorem sw_ne {x : Int32} {n : Nat} (hn : n < 2 ^ 31) (h : ¬ x = nI n) : x.toInt ≠ (n : Int) := fun q => h (Int32.toInt_inj.mp (by rw [q, nI_toInt hn]))
end
section
/-! THE CLASS'S OBJECTS, one at a place: a silo (object, tonnes, ages: three places), a ship, a reader -/
abbrev ST : Type := (Nat → Int32) × (Nat → Int32) × Nat × Int32 × Int32 × Int32
abbrev sT (v : ST) : Nat → Int32 := v.1
abbrev sA (v : ST) : Nat → Int32 := v.2.1
abbrev sN (v : ST) : Nat := v.2.2.1
abbrev sP (v : ST) : Int32 := v.2.2.2.1
abbrev sC (v : ST) : Int32 := v.2.2.2.2.1
abbrev sK (v : ST) : Int32 := v.2.2.2.2.2
abbrev HT : Type := Int32 × Int32
abbrev hT (h : HT) : Int32 := h.1
abbrev hH (h : HT) : Int32 := h.2
abbrev RT : Type := Int32 × Int32 × Int32 × Int32 × Int32
abbrev rP (r : RT) : Int32 := r.1
abbrev rS (r : RT) : Int32 := r.2.1
abbrev rH (r : RT) : Int32 := r.2.2.1
abbrev rK (r : RT) : Int32 := r.2.2.2.1
abbrev rN (r : RT) : Int32 := r.2.2.2.2
def sW (cy : Nat → ClassId) (L : Nat → Nat) (F : Nat → va_E) (b : Nat) (v : ST) : Nat → va_E := fun i =>
  if i = b then .inr (1, [.ref (L (b + 1)), .ref (L (b + 2)), .int (nI v.2.2.1), .int v.2.2.2.1, .int v.2.2.2.2.1, .int v.2.2.2.2.2])
  else if i = b + 1 then .inl (cy 0, 10, .inl v.1) else if i = b + 2 then .inl (cy 0, 10, .inl v.2.1) else F i
def hW (F : Nat → va_E) (b : Nat) (h : HT) : Nat → va_E := fun i => if i = b then .inr (0, [.int h.1, .int h.2]) else F i
def rW (F : Nat → va_E) (b : Nat) (r : RT) : Nat → va_E := fun i => if i = b then .inr (2, [.int r.1, .int r.2.1, .int r.2.2.1, .int r.2.2.2.1, .int r.2.2.2.2]) else F i
section CWL
variable {cy : Nat → ClassId} {L : Nat → Nat} {F : Nat → va_E} {b b2 : Nat} {v v2 : ST} {h h2 : HT} {r : RT}
theorem sW_o : sW cy L F b v b = .inr (1, [.ref (L (b + 1)), .ref (L (b + 2)), .int (nI v.2.2.1), .int v.2.2.2.1, .int v.2.2.2.2.1, .int v.2.2.2.2.2]) := by simp [sW]
theorem sW_t : sW cy L F b v (b + 1) = .inl (cy 0, 10, .inl v.1) := by simp [sW]
theorem sW_a : sW cy L F b v (b + 2) = .inl (cy 0, 10, .inl v.2.1) := by simp [sW]
theorem sW_n {i : Nat} (hi : i < b ∨ b + 3 ≤ i) : sW cy L F b v i = F i := by
  unfold sW
  rw [if_neg (by omega), if_neg (by omega), if_neg (by omega)]
theorem sW_uo {n : Nat} {p c k : Int32} : gup (sW cy L F b v) b (.inr (1, [.ref (L (b + 1)), .ref (L (b + 2)), .int (nI n), .int p, .int c, .int k])) = sW cy L F b (v.1, v.2.1, n, p, c, k) := by
  funext i
  by_cases h : i = b <;> simp [gup, sW, h]
theorem sW_ut {f : Nat → Int32} : gup (sW cy L F b v) (b + 1) (.inl (cy 0, 10, .inl f)) = sW cy L F b (f, v.2) := by
  funext i
  by_cases h : i = b + 1 <;> simp [gup, sW, h]
theorem sW_ua {f : Nat → Int32} : gup (sW cy L F b v) (b + 2) (.inl (cy 0, 10, .inl f)) = sW cy L F b (v.1, f, v.2.2) := by
  funext i
  by_cases h : i = b + 2 <;> simp [gup, sW, h]
theorem sW_c {i : Nat} {e : va_E} (hi : i < b ∨ b + 3 ≤ i) : gup (sW cy L F b v) i e = sW cy L (gup F i e) b v := by
  funext j
  by_cases h : j = i
  · subst h
    rw [gup_s, sW_n hi, gup_s]
  · rw [gup_n h]
    unfold sW
    rw [gup_n h]
theorem hW_o : hW F b h b = .inr (0, [.int h.1, .int h.2]) := by simp [hW]
theorem hW_n {i : Nat} (hi : i ≠ b) : hW F b h i = F i := by
  unfold hW
  rw [if_neg hi]
theorem hW_uo {t q : Int32} : gup (hW F b h) b (.inr (0, [.int t, .int q])) = hW F b (t, q) := by
  funext i
  by_cases h : i = b <;> simp [gup, hW, h]
theorem hW_c {i : Nat} {e : va_E} (hi : i ≠ b) : gup (hW F b h) i e = hW (gup F i e) b h := by
  funext j
  by_cases h : j = i
  · subst h
    rw [gup_s, hW_n hi, gup_s]
  · rw [gup_n h]
    unfold hW
    rw [gup_n h]
theorem rW_o : rW F b r b = .inr (2, [.int r.1, .int r.2.1, .int r.2.2.1, .int r.2.2.2.1, .int r.2.2.2.2]) := by simp [rW]
theorem rW_n {i : Nat} (hi : i ≠ b) : rW F b r i = F i := by
  unfold rW
  rw [if_neg hi]
theorem rW_uo {p s q k n : Int32} : gup (rW F b r) b (.inr (2, [.int p, .int s, .int q, .int k, .int n])) = rW F b (p, s, q, k, n) := by
  funext i
  by_cases h : i = b <;> simp [gup, rW, h]
/-- a silo and a ship, a silo and a silo, a ship and a ship: in any order -/
theorem hs_comm (hd : b2 < b ∨ b + 3 ≤ b2) : hW (sW cy L F b v) b2 h = sW cy L (hW F b2 h) b v := by
  funext i
  by_cases h1 : i = b2
  · subst h1
    rw [hW_o, sW_n hd, hW_o]
  · rw [hW_n h1]
    unfold sW
    rw [hW_n h1]
theorem ss_comm (hd : b2 + 3 ≤ b ∨ b + 3 ≤ b2) : sW cy L (sW cy L F b v) b2 v2 = sW cy L (sW cy L F b2 v2) b v := by
  funext i
  by_cases h1 : i < b2 ∨ b2 + 3 ≤ i
  · rw [sW_n h1]
    unfold sW
    rw [if_neg (show ¬ i = b2 by omega), if_neg (show ¬ i = b2 + 1 by omega), if_neg (show ¬ i = b2 + 2 by omega)]
  · rw [sW_n (b := b) (by omega)]
    unfold sW
    rw [if_neg (show ¬ i = b by omega), if_neg (show ¬ i = b + 1 by omega), if_neg (show ¬ i = b + 2 by omega)]
end CWL
end
section
/-! WHAT A SILO'S METHODS ANSWER -/
theorem cpN_z {f g : Nat → Int32} {k : Nat} : upd (cpN f g (0) (0) k) k (g k) = cpN f g (0) (0) (k + 1) := by
  simpa using cpN_s (f := f) (g := g) (d := 0) (a := 0) (k := k)
def s_sum (t : Nat → Int32) (j : Nat) : Nat → Int32
  | 0 => 0
  | n + 1 => s_sum t j n + t (j + n)
def s_total (v : ST) : Int32 := s_sum (sT v) 0 (sN v - 0)
def s_held (v : ST) : Int32 := if sC v = 2 then s_sum (sT v) 0 (sN v - 0) else s_sum (sT v) 1 (sN v - 1)
def s_can (v : ST) : Int32 := if sN v < 2 then 0 else if sC v = 0 then 1 else 0
theorem s_can_nar {v : ST} : narrow .boolean (.int (s_can v)) = .int (s_can v) := by
  unfold s_can
  split
  · rfl
  · split <;> rfl
def s_onTop (v : ST) : Int32 := if sN v = 0 then 0 else if sA v (sN v - 1) = 0 then 500 - sT v (sN v - 1) else 0
def s_place (v : ST) : Int32 :=
  if (s_onTop v + (if 10 ≤ sN v then 0 else 500)) < (1200 - s_total v) then (s_onTop v + (if 10 ≤ sN v then 0 else 500)) else (1200 - s_total v)
def s_top (v : ST) (a : Int32) : Int32 := if s_onTop v < a then s_onTop v else a
def s_fillT (v : ST) (a : Int32) : Nat → Int32 := if s_top v a ≤ 0 then sT v else if sN v ≤ 0 then sT v else upd (sT v) (sN v - 1) (sT v (sN v - 1) + s_top v a)
def s_rest (v : ST) (a : Int32) : Int32 := a - s_top v a
def s_fill (v : ST) (a : Int32) : ST :=
  if s_rest v a ≤ 0 then (s_fillT v a, sA v, sN v, sP v, sC v, sK v)
  else if 10 ≤ sN v then (s_fillT v a, sA v, sN v, sP v, sC v, sK v)
  else (upd (s_fillT v a) (sN v) (s_rest v a), upd (sA v) (sN v) 0, sN v + 1, sP v, sC v, 0)
def s_tk (v : ST) (o : Int32) : Nat → Int32 := upd (sT v) 0 (sT v 0 - o)
def s_gone (v : ST) (o : Int32) : ST :=
  (cpN (upd (sT v) 0 (sT v 0 - o)) (upd (sT v) 0 (sT v 0 - o)) (0) (1) (sN v - 1), cpN (sA v) (sA v) (0) (1) (sN v - 1), sN v - 1, sP v, (if sC v = 1 then 2 else sC v), sK v)
def s_take (v : ST) (o : Int32) : ST :=
  if (upd (sT v) 0 (sT v 0 - o)) 0 ≤ 0 then s_gone v o else (upd (sT v) 0 (sT v 0 - o), sA v, sN v, sP v, sC v, sK v)
theorem s_take_step {f : Nat → Int32} {i : Nat} (h : 1 ≤ i) : upd (cpN f f (0) (1) (i - 1)) (i - 1) (f i) = cpN f f (0) (1) (i + 1 - 1) := by
  have h2 := cpN_s (f := f) (g := f) (d := 0) (a := 1) (k := i - 1)
  rw [Nat.zero_add, show i - 1 + 1 = i by omega] at h2
  rw [show i + 1 - 1 = i by omega]
  exact h2
def s_old (a : Nat → Int32) : Nat → Nat → Int32
  | 0 => a
  | i + 1 => upd (s_old a i) i (s_old a i i + 1)
def s_young (a : Nat → Int32) : Nat → Int32 := upd a 0 (if (0 : Int32) < a 0 - 1 then a 0 - 1 else 0)
end
section
set_option maxHeartbeats 4000000 in
set_option maxRecDepth 100000 in
theorem k_X0_room (l : Launch) (D : va_G) (cy : Nat → ClassId) (N : Nat) (L : Nat → Nat) (F : Nat → va_E) (b : Nat) (h : HT) (hb : b < N)    : GM l D cy N L yX0_room wsX0_room ({ frames := 0, cells := 0, slots := 0, locals := 0 }) [.ref (L b)] (hW F b h) (some (.int (hH h - hT h))) (hW F b h) := by
  refine GM.ofW (cc := cX0_room) (maxL := 1) (ret := (some .int)) (by decide) rfl (Nat.le_of_ble_eq_true rfl) ?_
  intro p e s m below meth c ls hx hb hr hts hown hlocks hml hK hA hG hS hl
  have hl : lv_has ls 1 [(0, .ref (L b))] := hl
  have i_q0_0 : b < N := by omega
  have hf15 := hts (.fieldLink RX0 15 "SiloPads$Ship" "hold" "I") (by decide +kernel)
  have hinX0 : ∀ w ∈ u_ws RX0 TX0 2, w ∈ wsX0_room := by decide +kernel
  have hf9 := hts (.fieldLink RX0 9 "SiloPads$Ship" "tonnes" "I") (by decide +kernel)
  refine lv_aload_n hx hb dX0_room_0 rfl (lv_at hl 0 rfl) ?_
  refine g_get (ci := 0) (C := RX0) (T := TX0) (M := 2) hx hb hts hinX0 hown hK hG i_q0_0 hW_o rfl 1 (by decide) hf15 rfl rfl dX0_room_1 ?_
  refine lv_aload_n hx hb dX0_room_4 rfl (lv_at hl 0 rfl) ?_
  refine g_get (ci := 0) (C := RX0) (T := TX0) (M := 2) hx hb hts hinX0 hown hK hG i_q0_0 hW_o rfl 0 (by decide) hf9 rfl rfl dX0_room_5 ?_
  refine lv_isub hx hb dX0_room_8 ?_
  exact g_iret hx hb hr hlocks hK hG hS rfl dX0_room_9 ⟨(congrArg (fun z9 => some (Value.int z9)) (by rfl)), rfl⟩
set_option maxHeartbeats 4000000 in
set_option maxRecDepth 100000 in
theorem k_X0_becomeLike (l : Launch) (D : va_G) (cy : Nat → ClassId) (N : Nat) (L : Nat → Nat) (F : Nat → va_E) (b2 : Nat) (h2 : HT) (b : Nat) (h : HT) (hb : b < N) (hb2 : b2 < N) (hd : b2 ≠ b)    : GM l D cy N L yX0_becomeLike wsX0_becomeLike ({ frames := 0, cells := 0, slots := 0, locals := 0 }) [.ref (L b), .ref (L b2)] (hW (hW F b2 h2) b h) (none) (hW (hW F b2 h2) b (hT h2, hH h2)) := by
  refine GM.ofW (cc := cX0_becomeLike) (maxL := 2) (ret := none) (by decide) rfl (Nat.le_of_ble_eq_true rfl) ?_
  intro p e s m below meth c ls hx hb hr hts hown hlocks hml hK hA hG hS hl
  have hl : lv_has ls 2 [(0, .ref (L b)), (1, .ref (L b2))] := hl
  have i_q0_0 : b2 < N := by omega
  have i_q1_0 : b < N := by omega
  have hf9 := hts (.fieldLink RX0 9 "SiloPads$Ship" "tonnes" "I") (by decide +kernel)
  have hinX0 : ∀ w ∈ u_ws RX0 TX0 2, w ∈ wsX0_becomeLike := by decide +kernel
  have hf15 := hts (.fieldLink RX0 15 "SiloPads$Ship" "hold" "I") (by decide +kernel)
  refine lv_aload_n hx hb dX0_becomeLike_0 rfl (lv_at hl 0 rfl) ?_
  refine lv_aload_n hx hb dX0_becomeLike_1 rfl (lv_at hl 1 rfl) ?_
  refine g_get (ci := 0) (C := RX0) (T := TX0) (M := 2) hx hb hts hinX0 hown hK hG i_q0_0 (by rw [hW_n (by omega)]; exact hW_o) rfl 0 (by decide) hf9 rfl rfl dX0_becomeLike_2 ?_
  refine g_put (ci := 0) (C := RX0) (T := TX0) (M := 2) (ty := .int) hx hb hts hinX0 tyX0 tyX0_ok nmX0 hown hK hG hS i_q1_0 hW_o rfl 0 (by decide) hf9 rfl rfl rfl rfl rfl (Nat.le_of_ble_eq_true rfl) dX0_becomeLike_5 rfl (fun H locs hG hS => ?_)
  have hG : GW D N L (gA N L s.heap.size) (hW (hW F b2 h2) b (hT h2, hH h)) H := hG.to hW_uo
  refine lv_aload_n hx hb dX0_becomeLike_8 rfl (lv_at hl 0 rfl) ?_
  refine lv_aload_n hx hb dX0_becomeLike_9 rfl (lv_at hl 1 rfl) ?_
  refine g_get (ci := 0) (C := RX0) (T := TX0) (M := 2) hx hb hts hinX0 hown hK hG i_q0_0 (by rw [hW_n (by omega)]; exact hW_o) rfl 1 (by decide) hf15 rfl rfl dX0_becomeLike_10 ?_
  refine g_put (ci := 0) (C := RX0) (T := TX0) (M := 2) (ty := .int) hx hb hts hinX0 tyX0 tyX0_ok nmX0 hown hK hG hS i_q1_0 hW_o rfl 1 (by decide) hf15 rfl rfl rfl rfl rfl (Nat.le_of_ble_eq_true rfl) dX0_becomeLike_13 rfl (fun H locs hG hS => ?_)
  have hG : GW D N L (gA N L s.heap.size) (hW (hW F b2 h2) b (hT h2, hH h2)) H := hG.to hW_uo
  exact g_vret hx hb hr hlocks hK hG hS dX0_becomeLike_16 ⟨rfl, rfl⟩
set_option maxHeartbeats 4000000 in
set_option maxRecDepth 100000 in
theorem k_X1_totalFrom (l : Launch) (D : va_G) (cy : Nat → ClassId) (N : Nat) (L : Nat → Nat) (F : Nat → va_E) (b : Nat) (v : ST) (hb : b + 3 ≤ N)  (j : Nat) (hn : sN v ≤ 10) (hj : j ≤ sN v) : GM l D cy N L yX1_totalFrom wsX1_totalFrom ({ frames := 0, cells := 0, slots := 0, locals := 0 }) [.ref (L b), .int (nI j)] (sW cy L F b v) (some (.int (s_sum (sT v) j (sN v - j)))) (sW cy L F b v) := by
  refine GM.ofW (cc := cX1_totalFrom) (maxL := 4) (ret := (some .int)) (by decide) rfl (Nat.le_of_ble_eq_true rfl) ?_
  intro p e s m below meth c ls hx hb hr hts hown hlocks hml hK hA hG hS hl
  have hl : lv_has ls 4 [(0, .ref (L b)), (1, .int (nI j))] := hl
  have i_q0_0 : b < N := by omega
  have i_q0_1 : b + 1 < N := by omega
  have i_q0_2 : b + 2 < N := by omega
  have hf18 := hts (.fieldLink RX1 18 "SiloPads$Silo" "layers" "I") (by decide +kernel)
  have hinX1 : ∀ w ∈ u_ws RX1 TX1 6, w ∈ wsX1_totalFrom := by decide +kernel
  have hf9 := hts (.fieldLink RX1 9 "SiloPads$Silo" "tonnes" "[I") (by decide +kernel)
  refine lv_iconst (v := 0) hx hb dX1_totalFrom_0 (by decide) ?_
  refine lv_istore_n (lv' := [(2, .int 0), (0, .ref (L b)), (1, .int (nI j))]) hx hb dX1_totalFrom_1 rfl hl (by decide) rfl (fun ls hl => ?_)
  refine lv_iload_n hx hb dX1_totalFrom_2 rfl (lv_at hl 2 rfl) ?_
  refine lv_istore_n (lv' := [(3, .int (nI j)), (2, .int 0), (0, .ref (L b)), (1, .int (nI j))]) hx hb dX1_totalFrom_3 rfl hl (by decide) rfl (fun ls hl => ?_)
  refine W.loop (σ := Nat) (fun d H locs ls => (j + d ≤ sN v) ∧ GW D N L (gA N L s.heap.size) (sW cy L F b v) H ∧ va_S (gA N L s.heap.size) s.heap H locs ∧ lv_has ls 4 [(2, .int (s_sum (sT v) j d)), (3, .int (nI (j + d))), (0, .ref (L b)), (1, .int (nI j))]) (fun d => sN v - (j + d)) 0 ⟨by omega, hG.to (rfl), hS, lv_to (lv_sub hl [1, 0, 2, 3] rfl) (rfl)⟩ ?_
  intro d H locs ls hP9 ih4
  obtain ⟨hd9, hG, hS, hl⟩ := hP9
  refine lv_iload_n hx hb dX1_totalFrom_4 rfl (lv_at hl 1 rfl) ?_
  refine lv_aload_n hx hb dX1_totalFrom_5 rfl (lv_at hl 2 rfl) ?_
  refine g_get (ci := 1) (C := RX1) (T := TX1) (M := 6) hx hb hts hinX1 hown hK hG i_q0_0 sW_o rfl 2 (by decide) hf18 rfl rfl dX1_totalFrom_6 ?_
  refine lv_icmp_ge (tgt := 27) hx hb dX1_totalFrom_9 (by decide) (fun c_9 => ?_) (fun c_9 => ?_)
  · skip
    have c_9 : (sN v) ≤ (j + d) := (nI_leI (a := sN v) (b := j + d) (by omega) (by omega)).mp c_9
    refine lv_iload_n hx hb dX1_totalFrom_27 rfl (lv_at hl 0 rfl) ?_
    exact g_iret hx hb hr hlocks hK hG hS rfl dX1_totalFrom_28 ⟨(congrArg (fun z9 => some (Value.int z9)) (by rw [show d = sN v - j by omega])), rfl⟩
  · skip
    have c_9 : ¬ (sN v) ≤ (j + d) := fun h9 => c_9 ((nI_leI (a := sN v) (b := j + d) (by omega) (by omega)).mpr h9)
    refine lv_iload_n hx hb dX1_totalFrom_12 rfl (lv_at hl 0 rfl) ?_
    refine lv_aload_n hx hb dX1_totalFrom_13 rfl (lv_at hl 2 rfl) ?_
    refine g_get (ci := 1) (C := RX1) (T := TX1) (M := 6) hx hb hts hinX1 hown hK hG i_q0_0 sW_o rfl 0 (by decide) hf9 rfl rfl dX1_totalFrom_14 ?_
    refine lv_iload_n hx hb dX1_totalFrom_17 rfl (lv_at hl 1 rfl) ?_
    refine g_iald hx hb hK hG i_q0_1 sW_t (k := j + d) rfl (by omega) (by decide) dX1_totalFrom_18 ?_
    refine lv_iadd hx hb dX1_totalFrom_19 ?_
    refine lv_istore_n (lv' := [(2, .int ((s_sum (sT v) j d) + ((sT v) (j + d)))), (3, .int (nI (j + d))), (0, .ref (L b)), (1, .int (nI j))]) hx hb dX1_totalFrom_20 rfl hl (by decide) rfl (fun ls hl => ?_)
    refine lv_iinc (v := nI ((j + d) + 1)) (lv' := [(3, .int (nI ((j + d) + 1))), (2, .int ((s_sum (sT v) j d) + ((sT v) (j + d)))), (0, .ref (L b)), (1, .int (nI j))]) hx hb dX1_totalFrom_21 hl (k := 1) rfl (nI_add (j + d) 1) (by decide) rfl (fun ls hl => ?_)
    refine lv_goto (tgt := 4) hx hb dX1_totalFrom_24 (by decide) ?_
    have hl : lv_has ls 4 [(2, .int ((s_sum (sT v) j d) + ((sT v) (j + d)))), (3, .int (nI ((j + d) + 1))), (0, .ref (L b)), (1, .int (nI j))] := lv_sub hl [1, 0, 2, 3] rfl
    exact ih4 (d + 1) _ _ _ (by omega) ⟨by omega, hG.to (rfl), hS, lv_to hl (rfl)⟩
set_option maxHeartbeats 4000000 in
set_option maxRecDepth 100000 in
theorem k_X1_total (l : Launch) (D : va_G) (cy : Nat → ClassId) (N : Nat) (L : Nat → Nat) (F : Nat → va_E) (b : Nat) (v : ST) (hb : b + 3 ≤ N)   (hn : sN v ≤ 10) : GM l D cy N L yX1_total wsX1_total ({ frames := 1, cells := 0, slots := 0, locals := 23 }) [.ref (L b)] (sW cy L F b v) (some (.int (s_total v))) (sW cy L F b v) := by
  refine GM.ofW (cc := cX1_total) (maxL := 1) (ret := (some .int)) (by decide) rfl (Nat.le_of_ble_eq_true rfl) ?_
  intro p e s m below meth c ls hx hb hr hts hown hlocks hml hK hA hG hS hl
  have hl : lv_has ls 1 [(0, .ref (L b))] := hl
  have i_q0_0 : b < N := by omega
  have i_q0_1 : b + 1 < N := by omega
  have i_q0_2 : b + 2 < N := by omega
  refine lv_aload_n hx hb dX1_total_0 rfl (lv_at hl 0 rfl) ?_
  refine lv_iconst (v := 0) hx hb dX1_total_1 (by decide) ?_
  refine g_cVi (As := [.int 0]) (rest := []) hx hb hml hown hts hK hA hG hS (k_X1_totalFrom l D cy N L _ _ _ (by omega) 0 (by omega) (by omega)) (cwV 1 hts gX1_total_X1_totalFrom rfl rfl rfl (by decide +kernel) ⟨Nat.le_of_ble_eq_true rfl, Nat.le_of_ble_eq_true rfl⟩) i_q0_0 sW_o (ci := 1) rfl rfl rfl rfl hl.1 (Nat.le_of_ble_eq_true rfl) dX1_total_2 ⟨Nat.zero_le _, Nat.zero_le _⟩ (fun H locs hG hS => ?_)
  exact g_iret hx hb hr hlocks hK hG hS rfl dX1_total_5 ⟨(congrArg (fun z9 => some (Value.int z9)) (rfl)), rfl⟩
set_option maxHeartbeats 4000000 in
set_option maxRecDepth 100000 in
theorem k_X1_tonnesHeld (l : Launch) (D : va_G) (cy : Nat → ClassId) (N : Nat) (L : Nat → Nat) (F : Nat → va_E) (b : Nat) (v : ST) (hb : b + 3 ≤ N)   (hn : sN v ≤ 10) (hn1 : 1 ≤ sN v ∨ sC v = 2) : GM l D cy N L yX1_tonnesHeld wsX1_tonnesHeld ({ frames := 1, cells := 0, slots := 0, locals := 23 }) [.ref (L b)] (sW cy L F b v) (some (.int (s_held v))) (sW cy L F b v) := by
  refine GM.ofW (cc := cX1_tonnesHeld) (maxL := 1) (ret := (some .int)) (by decide) rfl (Nat.le_of_ble_eq_true rfl) ?_
  intro p e s m below meth c ls hx hb hr hts hown hlocks hml hK hA hG hS hl
  have hl : lv_has ls 1 [(0, .ref (L b))] := hl
  have i_q0_0 : b < N := by omega
  have i_q0_1 : b + 1 < N := by omega
  have i_q0_2 : b + 2 < N := by omega
  have hf25 := hts (.fieldLink RX1 25 "SiloPads$Silo" "arch" "I") (by decide +kernel)
  have hinX1 : ∀ w ∈ u_ws RX1 TX1 6, w ∈ wsX1_tonnesHeld := by decide +kernel
  refine lv_aload_n hx hb dX1_tonnesHeld_0 rfl (lv_at hl 0 rfl) ?_
  refine lv_aload_n hx hb dX1_tonnesHeld_1 rfl (lv_at hl 0 rfl) ?_
  refine g_get (ci := 1) (C := RX1) (T := TX1) (M := 6) hx hb hts hinX1 hown hK hG i_q0_0 sW_o rfl 4 (by decide) hf25 rfl rfl dX1_tonnesHeld_2 ?_
  refine lv_iconst (v := 2) hx hb dX1_tonnesHeld_5 (by decide) ?_
  refine lv_icmp_ne (tgt := 13) hx hb dX1_tonnesHeld_6 (by decide) (fun c_6 => ?_) (fun c_6 => ?_)
  · skip
    refine lv_iconst (v := 1) hx hb dX1_tonnesHeld_13 (by decide) ?_
    refine g_cVi (As := [.int 1]) (rest := []) hx hb hml hown hts hK hA hG hS (k_X1_totalFrom l D cy N L _ _ _ (by omega) 1 (hn) (by first | omega | (rcases hn1 with h9 | h9 <;> first | omega | (exact absurd h9 c_6)))) (cwV 1 hts gX1_tonnesHeld_X1_totalFrom rfl rfl rfl (by decide +kernel) ⟨Nat.le_of_ble_eq_true rfl, Nat.le_of_ble_eq_true rfl⟩) i_q0_0 sW_o (ci := 1) rfl rfl rfl rfl hl.1 (Nat.le_of_ble_eq_true rfl) dX1_tonnesHeld_14 ⟨Nat.zero_le _, Nat.zero_le _⟩ (fun H locs hG hS => ?_)
    exact g_iret hx hb hr hlocks hK hG hS rfl dX1_tonnesHeld_17 ⟨(congrArg (fun z9 => some (Value.int z9)) (by first | (simp only [s_held, c_6, if_true, if_false, not_true_eq_false, not_false_eq_true]; done) | (simp [s_held, c_6]; done) | rfl)), rfl⟩
  · skip
    refine lv_iconst (v := 0) hx hb dX1_tonnesHeld_9 (by decide) ?_
    refine lv_goto (tgt := 14) hx hb dX1_tonnesHeld_10 (by decide) ?_
    refine g_cVi (As := [.int 0]) (rest := []) hx hb hml hown hts hK hA hG hS (k_X1_totalFrom l D cy N L _ _ _ (by omega) 0 (hn) (by first | omega | (rcases hn1 with h9 | h9 <;> first | omega | (exact absurd h9 c_6)))) (cwV 1 hts gX1_tonnesHeld_X1_totalFrom rfl rfl rfl (by decide +kernel) ⟨Nat.le_of_ble_eq_true rfl, Nat.le_of_ble_eq_true rfl⟩) i_q0_0 sW_o (ci := 1) rfl rfl rfl rfl hl.1 (Nat.le_of_ble_eq_true rfl) dX1_tonnesHeld_14 ⟨Nat.zero_le _, Nat.zero_le _⟩ (fun H locs hG hS => ?_)
    exact g_iret hx hb hr hlocks hK hG hS rfl dX1_tonnesHeld_17 ⟨(congrArg (fun z9 => some (Value.int z9)) (by first | (simp only [s_held, eq_true c_6, if_true, if_false, not_true_eq_false, not_false_eq_true]; done) | (simp [s_held, eq_true c_6]; done) | rfl)), rfl⟩
set_option maxHeartbeats 4000000 in
set_option maxRecDepth 100000 in
theorem k_X1_canGetArch (l : Launch) (D : va_G) (cy : Nat → ClassId) (N : Nat) (L : Nat → Nat) (F : Nat → va_E) (b : Nat) (v : ST) (hb : b + 3 ≤ N)   (hn : sN v ≤ 10) : GM l D cy N L yX1_canGetArch wsX1_canGetArch ({ frames := 0, cells := 0, slots := 0, locals := 0 }) [.ref (L b)] (sW cy L F b v) (some (.int (s_can v))) (sW cy L F b v) := by
  refine GM.ofW (cc := cX1_canGetArch) (maxL := 1) (ret := (some .boolean)) (by decide) rfl (Nat.le_of_ble_eq_true rfl) ?_
  intro p e s m below meth c ls hx hb hr hts hown hlocks hml hK hA hG hS hl
  have hl : lv_has ls 1 [(0, .ref (L b))] := hl
  have i_q0_0 : b < N := by omega
  have i_q0_1 : b + 1 < N := by omega
  have i_q0_2 : b + 2 < N := by omega
  have hf18 := hts (.fieldLink RX1 18 "SiloPads$Silo" "layers" "I") (by decide +kernel)
  have hinX1 : ∀ w ∈ u_ws RX1 TX1 6, w ∈ wsX1_canGetArch := by decide +kernel
  have hf25 := hts (.fieldLink RX1 25 "SiloPads$Silo" "arch" "I") (by decide +kernel)
  refine lv_aload_n hx hb dX1_canGetArch_0 rfl (lv_at hl 0 rfl) ?_
  refine g_get (ci := 1) (C := RX1) (T := TX1) (M := 6) hx hb hts hinX1 hown hK hG i_q0_0 sW_o rfl 2 (by decide) hf18 rfl rfl dX1_canGetArch_1 ?_
  refine lv_iconst (v := 2) hx hb dX1_canGetArch_4 (by decide) ?_
  refine lv_icmp_lt (tgt := 19) hx hb dX1_canGetArch_5 (by decide) (fun c_5 => ?_) (fun c_5 => ?_)
  · skip
    have c_5 : (sN v) < 2 := (nI_ltI (a := sN v) (b := 2) (by omega) (by omega)).mp c_5
    refine lv_iconst (v := 0) hx hb dX1_canGetArch_19 (by decide) ?_
    exact g_iret hx hb hr hlocks hK hG hS rfl dX1_canGetArch_20 ⟨(congrArg (fun z9 => some (Value.int z9)) (by first | (simp only [s_can, c_5, if_true, if_false, not_true_eq_false, not_false_eq_true]; done) | (simp [s_can, c_5]; done) | rfl)), rfl⟩
  · skip
    have c_5 : ¬ (sN v) < 2 := fun h9 => c_5 ((nI_ltI (a := sN v) (b := 2) (by omega) (by omega)).mpr h9)
    refine lv_aload_n hx hb dX1_canGetArch_8 rfl (lv_at hl 0 rfl) ?_
    refine g_get (ci := 1) (C := RX1) (T := TX1) (M := 6) hx hb hts hinX1 hown hK hG i_q0_0 sW_o rfl 4 (by decide) hf25 rfl rfl dX1_canGetArch_9 ?_
    refine lv_if_ne (tgt := 19) hx hb dX1_canGetArch_12 (by decide) (fun c_12 => ?_) (fun c_12 => ?_)
    · skip
      refine lv_iconst (v := 0) hx hb dX1_canGetArch_19 (by decide) ?_
      exact g_iret hx hb hr hlocks hK hG hS rfl dX1_canGetArch_20 ⟨(congrArg (fun z9 => some (Value.int z9)) (by first | (simp only [s_can, c_5, c_12, if_true, if_false, not_true_eq_false, not_false_eq_true]; done) | (simp [s_can, c_5, c_12]; done) | rfl)), rfl⟩
    · skip
      refine lv_iconst (v := 1) hx hb dX1_canGetArch_15 (by decide) ?_
      refine lv_goto (tgt := 20) hx hb dX1_canGetArch_16 (by decide) ?_
      exact g_iret hx hb hr hlocks hK hG hS rfl dX1_canGetArch_20 ⟨(congrArg (fun z9 => some (Value.int z9)) (by first | (simp only [s_can, c_5, eq_true c_12, if_true, if_false, not_true_eq_false, not_false_eq_true]; done) | (simp [s_can, c_5, eq_true c_12]; done) | rfl)), rfl⟩
set_option maxHeartbeats 4000000 in
set_option maxRecDepth 100000 in
theorem k_X1_placeOnTop (l : Launch) (D : va_G) (cy : Nat → ClassId) (N : Nat) (L : Nat → Nat) (F : Nat → va_E) (b : Nat) (v : ST) (hb : b + 3 ≤ N)   (hn : sN v ≤ 10) : GM l D cy N L yX1_placeOnTop wsX1_placeOnTop ({ frames := 0, cells := 0, slots := 0, locals := 0 }) [.ref (L b)] (sW cy L F b v) (some (.int (s_onTop v))) (sW cy L F b v) := by
  refine GM.ofW (cc := cX1_placeOnTop) (maxL := 1) (ret := (some .int)) (by decide) rfl (Nat.le_of_ble_eq_true rfl) ?_
  intro p e s m below meth c ls hx hb hr hts hown hlocks hml hK hA hG hS hl
  have hl : lv_has ls 1 [(0, .ref (L b))] := hl
  have i_q0_0 : b < N := by omega
  have i_q0_1 : b + 1 < N := by omega
  have i_q0_2 : b + 2 < N := by omega
  have hf18 := hts (.fieldLink RX1 18 "SiloPads$Silo" "layers" "I") (by decide +kernel)
  have hinX1 : ∀ w ∈ u_ws RX1 TX1 6, w ∈ wsX1_placeOnTop := by decide +kernel
  have hf15 := hts (.fieldLink RX1 15 "SiloPads$Silo" "ages" "[I") (by decide +kernel)
  have hf9 := hts (.fieldLink RX1 9 "SiloPads$Silo" "tonnes" "[I") (by decide +kernel)
  refine lv_aload_n hx hb dX1_placeOnTop_0 rfl (lv_at hl 0 rfl) ?_
  refine g_get (ci := 1) (C := RX1) (T := TX1) (M := 6) hx hb hts hinX1 hown hK hG i_q0_0 sW_o rfl 2 (by decide) hf18 rfl rfl dX1_placeOnTop_1 ?_
  refine lv_if_eq (tgt := 21) hx hb dX1_placeOnTop_4 (by decide) (fun c_4 => ?_) (fun c_4 => ?_)
  · skip
    have c_4 : (sN v) = 0 := (nI_eq (a := sN v) (b := 0) (by omega) (by omega)).mp c_4
    refine lv_iconst (v := 0) hx hb dX1_placeOnTop_21 (by decide) ?_
    exact g_iret hx hb hr hlocks hK hG hS rfl dX1_placeOnTop_22 ⟨(congrArg (fun z9 => some (Value.int z9)) (by first | (simp only [s_onTop, eq_true c_4, if_true, if_false, not_true_eq_false, not_false_eq_true]; done) | (simp [s_onTop, eq_true c_4]; done) | rfl)), rfl⟩
  · skip
    have c_4 : ¬ (sN v) = 0 := fun h9 => c_4 ((nI_eq (a := sN v) (b := 0) (by omega) (by omega)).mpr h9)
    refine lv_aload_n hx hb dX1_placeOnTop_7 rfl (lv_at hl 0 rfl) ?_
    refine g_get (ci := 1) (C := RX1) (T := TX1) (M := 6) hx hb hts hinX1 hown hK hG i_q0_0 sW_o rfl 1 (by decide) hf15 rfl rfl dX1_placeOnTop_8 ?_
    refine lv_aload_n hx hb dX1_placeOnTop_11 rfl (lv_at hl 0 rfl) ?_
    refine g_get (ci := 1) (C := RX1) (T := TX1) (M := 6) hx hb hts hinX1 hown hK hG i_q0_0 sW_o rfl 2 (by decide) hf18 rfl rfl dX1_placeOnTop_12 ?_
    refine lv_iconst (v := 1) hx hb dX1_placeOnTop_15 (by decide) ?_
    refine lv_isub hx hb dX1_placeOnTop_16 ?_
    refine lv_toN (k := (sN v) - 1) (pk_sub (a := sN v) (b := 1) (by omega)) ?_
    refine g_iald hx hb hK hG i_q0_2 sW_a (k := (sN v) - 1) rfl (by omega) (by decide) dX1_placeOnTop_17 ?_
    refine lv_if_eq (tgt := 23) hx hb dX1_placeOnTop_18 (by decide) (fun c_18 => ?_) (fun c_18 => ?_)
    · skip
      refine lv_sipush (v := 500) hx hb dX1_placeOnTop_23 (by decide) ?_
      refine lv_aload_n hx hb dX1_placeOnTop_26 rfl (lv_at hl 0 rfl) ?_
      refine g_get (ci := 1) (C := RX1) (T := TX1) (M := 6) hx hb hts hinX1 hown hK hG i_q0_0 sW_o rfl 0 (by decide) hf9 rfl rfl dX1_placeOnTop_27 ?_
      refine lv_aload_n hx hb dX1_placeOnTop_30 rfl (lv_at hl 0 rfl) ?_
      refine g_get (ci := 1) (C := RX1) (T := TX1) (M := 6) hx hb hts hinX1 hown hK hG i_q0_0 sW_o rfl 2 (by decide) hf18 rfl rfl dX1_placeOnTop_31 ?_
      refine lv_iconst (v := 1) hx hb dX1_placeOnTop_34 (by decide) ?_
      refine lv_isub hx hb dX1_placeOnTop_35 ?_
      refine lv_toN (k := (sN v) - 1) (pk_sub (a := sN v) (b := 1) (by omega)) ?_
      refine g_iald hx hb hK hG i_q0_1 sW_t (k := (sN v) - 1) rfl (by omega) (by decide) dX1_placeOnTop_36 ?_
      refine lv_isub hx hb dX1_placeOnTop_37 ?_
      exact g_iret hx hb hr hlocks hK hG hS rfl dX1_placeOnTop_38 ⟨(congrArg (fun z9 => some (Value.int z9)) (by first | (simp only [s_onTop, c_4, eq_true c_18, if_true, if_false, not_true_eq_false, not_false_eq_true]; done) | (simp [s_onTop, c_4, eq_true c_18]; done) | rfl)), rfl⟩
    · skip
      refine lv_iconst (v := 0) hx hb dX1_placeOnTop_21 (by decide) ?_
      exact g_iret hx hb hr hlocks hK hG hS rfl dX1_placeOnTop_22 ⟨(congrArg (fun z9 => some (Value.int z9)) (by first | (simp only [s_onTop, c_4, c_18, if_true, if_false, not_true_eq_false, not_false_eq_true]; done) | (simp [s_onTop, c_4, c_18]; done) | rfl)), rfl⟩
set_option maxHeartbeats 4000000 in
set_option maxRecDepth 100000 in
theorem k_X1_place (l : Launch) (D : va_G) (cy : Nat → ClassId) (N : Nat) (L : Nat → Nat) (F : Nat → va_E) (b : Nat) (v : ST) (hb : b + 3 ≤ N)   (hn : sN v ≤ 10) : GM l D cy N L yX1_place wsX1_place ({ frames := 2, cells := 0, slots := 0, locals := 43 }) [.ref (L b)] (sW cy L F b v) (some (.int (s_place v))) (sW cy L F b v) := by
  refine GM.ofW (cc := cX1_place) (maxL := 2) (ret := (some .int)) (by decide) rfl (Nat.le_of_ble_eq_true rfl) ?_
  intro p e s m below meth c ls hx hb hr hts hown hlocks hml hK hA hG hS hl
  have hl : lv_has ls 2 [(0, .ref (L b))] := hl
  have i_q0_0 : b < N := by omega
  have i_q0_1 : b + 1 < N := by omega
  have i_q0_2 : b + 2 < N := by omega
  have hf18 := hts (.fieldLink RX1 18 "SiloPads$Silo" "layers" "I") (by decide +kernel)
  have hinX1 : ∀ w ∈ u_ws RX1 TX1 6, w ∈ wsX1_place := by decide +kernel
  have hm42 := hts (.methodLink RX1 42 Lib.Math.min.name) (by decide +kernel)
  have hmsmin := hts (.static Lib.Math.min.name) (by decide +kernel)
  have hmcmin := hts (.code Lib.Math.min.name Lib.Math.min.code 2 (some .int)) (by decide +kernel)
  have hmi := hts (.initialized "java/lang/Math") (by decide +kernel)
  refine lv_aload_n hx hb dX1_place_0 rfl (lv_at hl 0 rfl) ?_
  refine g_get (ci := 1) (C := RX1) (T := TX1) (M := 6) hx hb hts hinX1 hown hK hG i_q0_0 sW_o rfl 2 (by decide) hf18 rfl rfl dX1_place_1 ?_
  refine lv_bipush (v := 10) hx hb dX1_place_4 (by decide) ?_
  refine lv_icmp_ge (tgt := 15) hx hb dX1_place_6 (by decide) (fun c_6 => ?_) (fun c_6 => ?_)
  · skip
    have c_6 : 10 ≤ (sN v) := (nI_leI (a := 10) (b := sN v) (by omega) (by omega)).mp c_6
    refine lv_iconst (v := 0) hx hb dX1_place_15 (by decide) ?_
    refine lv_istore_n (lv' := [(1, .int 0), (0, .ref (L b))]) hx hb dX1_place_16 rfl hl (by decide) rfl (fun ls hl => ?_)
    refine lv_sipush (v := 1200) hx hb dX1_place_17 (by decide) ?_
    refine lv_aload_n hx hb dX1_place_20 rfl (lv_at hl 1 rfl) ?_
    refine g_cVi (As := []) (rest := [.int 1200]) hx hb hml hown hts hK hA hG hS (k_X1_total l D cy N L _ _ _ (by omega)  (hn)) (cwV 0 hts gX1_place_X1_total rfl rfl rfl (by decide +kernel) ⟨Nat.le_of_ble_eq_true rfl, Nat.le_of_ble_eq_true rfl⟩) i_q0_0 sW_o (ci := 1) rfl rfl rfl rfl hl.1 (Nat.le_of_ble_eq_true rfl) dX1_place_21 ⟨Nat.zero_le _, Nat.zero_le _⟩ (fun H locs hG hS => ?_)
    refine lv_isub hx hb dX1_place_24 ?_
    refine lv_aload_n hx hb dX1_place_25 rfl (lv_at hl 1 rfl) ?_
    refine g_cVi (As := []) (rest := [.int (1200 - (s_total v))]) hx hb hml hown hts hK hA hG hS (k_X1_placeOnTop l D cy N L _ _ _ (by omega)  (hn)) (cwV 0 hts gX1_place_X1_placeOnTop rfl rfl rfl (by decide +kernel) ⟨Nat.le_of_ble_eq_true rfl, Nat.le_of_ble_eq_true rfl⟩) i_q0_0 sW_o (ci := 1) rfl rfl rfl rfl hl.1 (Nat.le_of_ble_eq_true rfl) dX1_place_26 ⟨Nat.zero_le _, Nat.zero_le _⟩ (fun H locs hG hS => ?_)
    refine lv_iload_n hx hb dX1_place_29 rfl (lv_at hl 0 rfl) ?_
    refine lv_iadd hx hb dX1_place_30 ?_
    refine va_mmin hx hb (hml.trans hl.1.symm) hown hm42 hmsmin hmi hmcmin (Nat.le_of_ble_eq_true rfl) (Nat.le_of_ble_eq_true rfl) (Nat.zero_le _) (Nat.zero_le _) dX1_place_31 ?_
    exact g_iret hx hb hr hlocks hK hG hS rfl dX1_place_34 ⟨(congrArg (fun z9 => some (Value.int z9)) (by first | (simp only [s_place, c_6, if_true, if_false, not_true_eq_false, not_false_eq_true]; done) | (simp [s_place, c_6]; done) | rfl)), rfl⟩
  · skip
    have c_6 : ¬ 10 ≤ (sN v) := fun h9 => c_6 ((nI_leI (a := 10) (b := sN v) (by omega) (by omega)).mpr h9)
    refine lv_sipush (v := 500) hx hb dX1_place_9 (by decide) ?_
    refine lv_goto (tgt := 16) hx hb dX1_place_12 (by decide) ?_
    refine lv_istore_n (lv' := [(1, .int 500), (0, .ref (L b))]) hx hb dX1_place_16 rfl hl (by decide) rfl (fun ls hl => ?_)
    refine lv_sipush (v := 1200) hx hb dX1_place_17 (by decide) ?_
    refine lv_aload_n hx hb dX1_place_20 rfl (lv_at hl 1 rfl) ?_
    refine g_cVi (As := []) (rest := [.int 1200]) hx hb hml hown hts hK hA hG hS (k_X1_total l D cy N L _ _ _ (by omega)  (hn)) (cwV 0 hts gX1_place_X1_total rfl rfl rfl (by decide +kernel) ⟨Nat.le_of_ble_eq_true rfl, Nat.le_of_ble_eq_true rfl⟩) i_q0_0 sW_o (ci := 1) rfl rfl rfl rfl hl.1 (Nat.le_of_ble_eq_true rfl) dX1_place_21 ⟨Nat.zero_le _, Nat.zero_le _⟩ (fun H locs hG hS => ?_)
    refine lv_isub hx hb dX1_place_24 ?_
    refine lv_aload_n hx hb dX1_place_25 rfl (lv_at hl 1 rfl) ?_
    refine g_cVi (As := []) (rest := [.int (1200 - (s_total v))]) hx hb hml hown hts hK hA hG hS (k_X1_placeOnTop l D cy N L _ _ _ (by omega)  (hn)) (cwV 0 hts gX1_place_X1_placeOnTop rfl rfl rfl (by decide +kernel) ⟨Nat.le_of_ble_eq_true rfl, Nat.le_of_ble_eq_true rfl⟩) i_q0_0 sW_o (ci := 1) rfl rfl rfl rfl hl.1 (Nat.le_of_ble_eq_true rfl) dX1_place_26 ⟨Nat.zero_le _, Nat.zero_le _⟩ (fun H locs hG hS => ?_)
    refine lv_iload_n hx hb dX1_place_29 rfl (lv_at hl 0 rfl) ?_
    refine lv_iadd hx hb dX1_place_30 ?_
    refine va_mmin hx hb (hml.trans hl.1.symm) hown hm42 hmsmin hmi hmcmin (Nat.le_of_ble_eq_true rfl) (Nat.le_of_ble_eq_true rfl) (Nat.zero_le _) (Nat.zero_le _) dX1_place_31 ?_
    exact g_iret hx hb hr hlocks hK hG hS rfl dX1_place_34 ⟨(congrArg (fun z9 => some (Value.int z9)) (by first | (simp only [s_place, c_6, if_true, if_false, not_true_eq_false, not_false_eq_true]; done) | (simp [s_place, c_6]; done) | rfl)), rfl⟩
set_option maxHeartbeats 4000000 in
set_option maxRecDepth 100000 in
theorem k_X1_fill (l : Launch) (D : va_G) (cy : Nat → ClassId) (N : Nat) (L : Nat → Nat) (F : Nat → va_E) (b : Nat) (v : ST) (hb : b + 3 ≤ N)  (a : Int32) (hn : sN v ≤ 10) : GM l D cy N L yX1_fill wsX1_fill ({ frames := 1, cells := 0, slots := 0, locals := 21 }) [.ref (L b), .int a] (sW cy L F b v) (none) (sW cy L F b (s_fill v a)) := by
  refine GM.ofW (cc := cX1_fill) (maxL := 4) (ret := none) (by decide) rfl (Nat.le_of_ble_eq_true rfl) ?_
  intro p e s m below meth c ls hx hb hr hts hown hlocks hml hK hA hG hS hl
  have hl : lv_has ls 4 [(0, .ref (L b)), (1, .int a)] := hl
  have i_q0_0 : b < N := by omega
  have i_q0_1 : b + 1 < N := by omega
  have i_q0_2 : b + 2 < N := by omega
  have hm42 := hts (.methodLink RX1 42 Lib.Math.min.name) (by decide +kernel)
  have hmsmin := hts (.static Lib.Math.min.name) (by decide +kernel)
  have hmcmin := hts (.code Lib.Math.min.name Lib.Math.min.code 2 (some .int)) (by decide +kernel)
  have hmi := hts (.initialized "java/lang/Math") (by decide +kernel)
  have hf18 := hts (.fieldLink RX1 18 "SiloPads$Silo" "layers" "I") (by decide +kernel)
  have hinX1 : ∀ w ∈ u_ws RX1 TX1 6, w ∈ wsX1_fill := by decide +kernel
  have hf9 := hts (.fieldLink RX1 9 "SiloPads$Silo" "tonnes" "[I") (by decide +kernel)
  have hf15 := hts (.fieldLink RX1 15 "SiloPads$Silo" "ages" "[I") (by decide +kernel)
  have hf28 := hts (.fieldLink RX1 28 "SiloPads$Silo" "shakes" "I") (by decide +kernel)
  refine lv_iload_n hx hb dX1_fill_0 rfl (lv_at hl 1 rfl) ?_
  refine lv_aload_n hx hb dX1_fill_1 rfl (lv_at hl 0 rfl) ?_
  refine g_cVi (As := []) (rest := [.int a]) hx hb hml hown hts hK hA hG hS (k_X1_placeOnTop l D cy N L _ _ _ (by omega)  (hn)) (cwV 0 hts gX1_fill_X1_placeOnTop rfl rfl rfl (by decide +kernel) ⟨Nat.le_of_ble_eq_true rfl, Nat.le_of_ble_eq_true rfl⟩) i_q0_0 sW_o (ci := 1) rfl rfl rfl rfl hl.1 (Nat.le_of_ble_eq_true rfl) dX1_fill_2 ⟨Nat.zero_le _, Nat.zero_le _⟩ (fun H locs hG hS => ?_)
  refine va_mmin hx hb (hml.trans hl.1.symm) hown hm42 hmsmin hmi hmcmin (Nat.le_of_ble_eq_true rfl) (Nat.le_of_ble_eq_true rfl) (Nat.zero_le _) (Nat.zero_le _) dX1_fill_5 ?_
  refine lv_toI (y := s_top v a) (rfl) ?_
  refine lv_istore_n (lv' := [(2, .int (s_top v a)), (0, .ref (L b)), (1, .int a)]) hx hb dX1_fill_8 rfl hl (by decide) rfl (fun ls hl => ?_)
  refine lv_iload_n hx hb dX1_fill_9 rfl (lv_at hl 0 rfl) ?_
  refine lv_if_le (tgt := 35) hx hb dX1_fill_10 (by decide) (fun c_10 => ?_) (fun c_10 => ?_)
  · skip
    refine lv_iload_n hx hb dX1_fill_35 rfl (lv_at hl 2 rfl) ?_
    refine lv_iload_n hx hb dX1_fill_36 rfl (lv_at hl 0 rfl) ?_
    refine lv_isub hx hb dX1_fill_37 ?_
    refine lv_istore_n (lv' := [(3, .int (a - (s_top v a))), (2, .int (s_top v a)), (0, .ref (L b)), (1, .int a)]) hx hb dX1_fill_38 rfl hl (by decide) rfl (fun ls hl => ?_)
    refine lv_iload_n hx hb dX1_fill_39 rfl (lv_at hl 0 rfl) ?_
    refine lv_if_le (tgt := 87) hx hb dX1_fill_40 (by decide) (fun c_40 => ?_) (fun c_40 => ?_)
    · skip
      exact g_vret hx hb hr hlocks hK hG hS dX1_fill_87 ⟨rfl, (by first | (simp only [s_fill, s_fillT, s_rest, c_10, c_40, if_true, if_false, not_true_eq_false, not_false_eq_true]; done) | (simp [s_fill, s_fillT, s_rest, c_10, c_40]; done) | rfl)⟩
    · skip
      refine lv_aload_n hx hb dX1_fill_43 rfl (lv_at hl 2 rfl) ?_
      refine g_get (ci := 1) (C := RX1) (T := TX1) (M := 6) hx hb hts hinX1 hown hK hG i_q0_0 sW_o rfl 2 (by decide) hf18 rfl rfl dX1_fill_44 ?_
      refine lv_bipush (v := 10) hx hb dX1_fill_47 (by decide) ?_
      refine lv_icmp_ge (tgt := 87) hx hb dX1_fill_49 (by decide) (fun c_49 => ?_) (fun c_49 => ?_)
      · skip
        have c_49 : 10 ≤ (sN v) := (nI_leI (a := 10) (b := sN v) (by omega) (by omega)).mp c_49
        exact g_vret hx hb hr hlocks hK hG hS dX1_fill_87 ⟨rfl, (by first | (simp only [s_fill, s_fillT, s_rest, c_10, c_40, c_49, if_true, if_false, not_true_eq_false, not_false_eq_true]; done) | (simp [s_fill, s_fillT, s_rest, c_10, c_40, c_49]; done) | rfl)⟩
      · skip
        have c_49 : ¬ 10 ≤ (sN v) := fun h9 => c_49 ((nI_leI (a := 10) (b := sN v) (by omega) (by omega)).mpr h9)
        refine lv_aload_n hx hb dX1_fill_52 rfl (lv_at hl 2 rfl) ?_
        refine g_get (ci := 1) (C := RX1) (T := TX1) (M := 6) hx hb hts hinX1 hown hK hG i_q0_0 sW_o rfl 0 (by decide) hf9 rfl rfl dX1_fill_53 ?_
        refine lv_aload_n hx hb dX1_fill_56 rfl (lv_at hl 2 rfl) ?_
        refine g_get (ci := 1) (C := RX1) (T := TX1) (M := 6) hx hb hts hinX1 hown hK hG i_q0_0 sW_o rfl 2 (by decide) hf18 rfl rfl dX1_fill_57 ?_
        refine lv_iload_n hx hb dX1_fill_60 rfl (lv_at hl 0 rfl) ?_
        refine g_iast hx hb hK hG hS i_q0_1 sW_t (k := sN v) rfl (by omega) (by decide) dX1_fill_61 (fun H locs hG hS => ?_)
        have hG : GW D N L (gA N L s.heap.size) (sW cy L F b (upd (sT v) (sN v) (a - (s_top v a)), sA v, sN v, sP v, sC v, sK v)) H := hG.to sW_ut
        refine lv_aload_n hx hb dX1_fill_62 rfl (lv_at hl 2 rfl) ?_
        refine g_get (ci := 1) (C := RX1) (T := TX1) (M := 6) hx hb hts hinX1 hown hK hG i_q0_0 sW_o rfl 1 (by decide) hf15 rfl rfl dX1_fill_63 ?_
        refine lv_aload_n hx hb dX1_fill_66 rfl (lv_at hl 2 rfl) ?_
        refine g_get (ci := 1) (C := RX1) (T := TX1) (M := 6) hx hb hts hinX1 hown hK hG i_q0_0 sW_o rfl 2 (by decide) hf18 rfl rfl dX1_fill_67 ?_
        refine lv_iconst (v := 0) hx hb dX1_fill_70 (by decide) ?_
        refine g_iast hx hb hK hG hS i_q0_2 sW_a (k := sN v) rfl (by omega) (by decide) dX1_fill_71 (fun H locs hG hS => ?_)
        have hG : GW D N L (gA N L s.heap.size) (sW cy L F b (upd (sT v) (sN v) (a - (s_top v a)), upd (sA v) (sN v) 0, sN v, sP v, sC v, sK v)) H := hG.to sW_ua
        refine lv_aload_n hx hb dX1_fill_72 rfl (lv_at hl 2 rfl) ?_
        refine lv_dup hx hb dX1_fill_73 rfl ?_
        refine g_get (ci := 1) (C := RX1) (T := TX1) (M := 6) hx hb hts hinX1 hown hK hG i_q0_0 sW_o rfl 2 (by decide) hf18 rfl rfl dX1_fill_74 ?_
        refine lv_iconst (v := 1) hx hb dX1_fill_77 (by decide) ?_
        refine lv_iadd hx hb dX1_fill_78 ?_
        refine lv_toN (k := (sN v) + 1) (nI_add (sN v) 1) ?_
        refine g_put (ci := 1) (C := RX1) (T := TX1) (M := 6) (ty := .int) hx hb hts hinX1 tyX1 tyX1_ok nmX1 hown hK hG hS i_q0_0 sW_o rfl 2 (by decide) hf18 rfl rfl rfl rfl rfl (Nat.le_of_ble_eq_true rfl) dX1_fill_79 rfl (fun H locs hG hS => ?_)
        have hG : GW D N L (gA N L s.heap.size) (sW cy L F b (upd (sT v) (sN v) (a - (s_top v a)), upd (sA v) (sN v) 0, (sN v) + 1, sP v, sC v, sK v)) H := hG.to sW_uo
        refine lv_aload_n hx hb dX1_fill_82 rfl (lv_at hl 2 rfl) ?_
        refine lv_iconst (v := 0) hx hb dX1_fill_83 (by decide) ?_
        refine g_put (ci := 1) (C := RX1) (T := TX1) (M := 6) (ty := .int) hx hb hts hinX1 tyX1 tyX1_ok nmX1 hown hK hG hS i_q0_0 sW_o rfl 5 (by decide) hf28 rfl rfl rfl rfl rfl (Nat.le_of_ble_eq_true rfl) dX1_fill_84 rfl (fun H locs hG hS => ?_)
        have hG : GW D N L (gA N L s.heap.size) (sW cy L F b (upd (sT v) (sN v) (a - (s_top v a)), upd (sA v) (sN v) 0, (sN v) + 1, sP v, sC v, 0)) H := hG.to sW_uo
        exact g_vret hx hb hr hlocks hK hG hS dX1_fill_87 ⟨rfl, (by first | (simp only [s_fill, s_fillT, s_rest, c_10, c_40, c_49, if_true, if_false, not_true_eq_false, not_false_eq_true]; done) | (simp [s_fill, s_fillT, s_rest, c_10, c_40, c_49]; done) | rfl)⟩
  · skip
    refine lv_aload_n hx hb dX1_fill_13 rfl (lv_at hl 1 rfl) ?_
    refine g_get (ci := 1) (C := RX1) (T := TX1) (M := 6) hx hb hts hinX1 hown hK hG i_q0_0 sW_o rfl 2 (by decide) hf18 rfl rfl dX1_fill_14 ?_
    refine lv_if_le (tgt := 35) hx hb dX1_fill_17 (by decide) (fun c_17 => ?_) (fun c_17 => ?_)
    · skip
      have c_17 : (sN v) ≤ 0 := (nI_leI (a := sN v) (b := 0) (by omega) (by omega)).mp c_17
      refine lv_iload_n hx hb dX1_fill_35 rfl (lv_at hl 2 rfl) ?_
      refine lv_iload_n hx hb dX1_fill_36 rfl (lv_at hl 0 rfl) ?_
      refine lv_isub hx hb dX1_fill_37 ?_
      refine lv_istore_n (lv' := [(3, .int (a - (s_top v a))), (2, .int (s_top v a)), (0, .ref (L b)), (1, .int a)]) hx hb dX1_fill_38 rfl hl (by decide) rfl (fun ls hl => ?_)
      refine lv_iload_n hx hb dX1_fill_39 rfl (lv_at hl 0 rfl) ?_
      refine lv_if_le (tgt := 87) hx hb dX1_fill_40 (by decide) (fun c_40 => ?_) (fun c_40 => ?_)
      · skip
        exact g_vret hx hb hr hlocks hK hG hS dX1_fill_87 ⟨rfl, (by first | (simp only [s_fill, s_fillT, s_rest, c_10, c_17, c_40, if_true, if_false, not_true_eq_false, not_false_eq_true]; done) | (simp [s_fill, s_fillT, s_rest, c_10, c_17, c_40]; done) | rfl)⟩
      · skip
        refine lv_aload_n hx hb dX1_fill_43 rfl (lv_at hl 2 rfl) ?_
        refine g_get (ci := 1) (C := RX1) (T := TX1) (M := 6) hx hb hts hinX1 hown hK hG i_q0_0 sW_o rfl 2 (by decide) hf18 rfl rfl dX1_fill_44 ?_
        refine lv_bipush (v := 10) hx hb dX1_fill_47 (by decide) ?_
        refine lv_icmp_ge (tgt := 87) hx hb dX1_fill_49 (by decide) (fun c_49 => ?_) (fun c_49 => ?_)
        · skip
          have c_49 : 10 ≤ (sN v) := (nI_leI (a := 10) (b := sN v) (by omega) (by omega)).mp c_49
          exact g_vret hx hb hr hlocks hK hG hS dX1_fill_87 ⟨rfl, (by first | (simp only [s_fill, s_fillT, s_rest, c_10, c_17, c_40, c_49, if_true, if_false, not_true_eq_false, not_false_eq_true]; done) | (simp [s_fill, s_fillT, s_rest, c_10, c_17, c_40, c_49]; done) | rfl)⟩
        · skip
          have c_49 : ¬ 10 ≤ (sN v) := fun h9 => c_49 ((nI_leI (a := 10) (b := sN v) (by omega) (by omega)).mpr h9)
          refine lv_aload_n hx hb dX1_fill_52 rfl (lv_at hl 2 rfl) ?_
          refine g_get (ci := 1) (C := RX1) (T := TX1) (M := 6) hx hb hts hinX1 hown hK hG i_q0_0 sW_o rfl 0 (by decide) hf9 rfl rfl dX1_fill_53 ?_
          refine lv_aload_n hx hb dX1_fill_56 rfl (lv_at hl 2 rfl) ?_
          refine g_get (ci := 1) (C := RX1) (T := TX1) (M := 6) hx hb hts hinX1 hown hK hG i_q0_0 sW_o rfl 2 (by decide) hf18 rfl rfl dX1_fill_57 ?_
          refine lv_iload_n hx hb dX1_fill_60 rfl (lv_at hl 0 rfl) ?_
          refine g_iast hx hb hK hG hS i_q0_1 sW_t (k := sN v) rfl (by omega) (by decide) dX1_fill_61 (fun H locs hG hS => ?_)
          have hG : GW D N L (gA N L s.heap.size) (sW cy L F b (upd (sT v) (sN v) (a - (s_top v a)), sA v, sN v, sP v, sC v, sK v)) H := hG.to sW_ut
          refine lv_aload_n hx hb dX1_fill_62 rfl (lv_at hl 2 rfl) ?_
          refine g_get (ci := 1) (C := RX1) (T := TX1) (M := 6) hx hb hts hinX1 hown hK hG i_q0_0 sW_o rfl 1 (by decide) hf15 rfl rfl dX1_fill_63 ?_
          refine lv_aload_n hx hb dX1_fill_66 rfl (lv_at hl 2 rfl) ?_
          refine g_get (ci := 1) (C := RX1) (T := TX1) (M := 6) hx hb hts hinX1 hown hK hG i_q0_0 sW_o rfl 2 (by decide) hf18 rfl rfl dX1_fill_67 ?_
          refine lv_iconst (v := 0) hx hb dX1_fill_70 (by decide) ?_
          refine g_iast hx hb hK hG hS i_q0_2 sW_a (k := sN v) rfl (by omega) (by decide) dX1_fill_71 (fun H locs hG hS => ?_)
          have hG : GW D N L (gA N L s.heap.size) (sW cy L F b (upd (sT v) (sN v) (a - (s_top v a)), upd (sA v) (sN v) 0, sN v, sP v, sC v, sK v)) H := hG.to sW_ua
          refine lv_aload_n hx hb dX1_fill_72 rfl (lv_at hl 2 rfl) ?_
          refine lv_dup hx hb dX1_fill_73 rfl ?_
          refine g_get (ci := 1) (C := RX1) (T := TX1) (M := 6) hx hb hts hinX1 hown hK hG i_q0_0 sW_o rfl 2 (by decide) hf18 rfl rfl dX1_fill_74 ?_
          refine lv_iconst (v := 1) hx hb dX1_fill_77 (by decide) ?_
          refine lv_iadd hx hb dX1_fill_78 ?_
          refine lv_toN (k := (sN v) + 1) (nI_add (sN v) 1) ?_
          refine g_put (ci := 1) (C := RX1) (T := TX1) (M := 6) (ty := .int) hx hb hts hinX1 tyX1 tyX1_ok nmX1 hown hK hG hS i_q0_0 sW_o rfl 2 (by decide) hf18 rfl rfl rfl rfl rfl (Nat.le_of_ble_eq_true rfl) dX1_fill_79 rfl (fun H locs hG hS => ?_)
          have hG : GW D N L (gA N L s.heap.size) (sW cy L F b (upd (sT v) (sN v) (a - (s_top v a)), upd (sA v) (sN v) 0, (sN v) + 1, sP v, sC v, sK v)) H := hG.to sW_uo
          refine lv_aload_n hx hb dX1_fill_82 rfl (lv_at hl 2 rfl) ?_
          refine lv_iconst (v := 0) hx hb dX1_fill_83 (by decide) ?_
          refine g_put (ci := 1) (C := RX1) (T := TX1) (M := 6) (ty := .int) hx hb hts hinX1 tyX1 tyX1_ok nmX1 hown hK hG hS i_q0_0 sW_o rfl 5 (by decide) hf28 rfl rfl rfl rfl rfl (Nat.le_of_ble_eq_true rfl) dX1_fill_84 rfl (fun H locs hG hS => ?_)
          have hG : GW D N L (gA N L s.heap.size) (sW cy L F b (upd (sT v) (sN v) (a - (s_top v a)), upd (sA v) (sN v) 0, (sN v) + 1, sP v, sC v, 0)) H := hG.to sW_uo
          exact g_vret hx hb hr hlocks hK hG hS dX1_fill_87 ⟨rfl, (by first | (simp only [s_fill, s_fillT, s_rest, c_10, c_17, c_40, c_49, if_true, if_false, not_true_eq_false, not_false_eq_true]; done) | (simp [s_fill, s_fillT, s_rest, c_10, c_17, c_40, c_49]; done) | rfl)⟩
    · skip
      have c_17 : ¬ (sN v) ≤ 0 := fun h9 => c_17 ((nI_leI (a := sN v) (b := 0) (by omega) (by omega)).mpr h9)
      refine lv_aload_n hx hb dX1_fill_20 rfl (lv_at hl 1 rfl) ?_
      refine g_get (ci := 1) (C := RX1) (T := TX1) (M := 6) hx hb hts hinX1 hown hK hG i_q0_0 sW_o rfl 0 (by decide) hf9 rfl rfl dX1_fill_21 ?_
      refine lv_aload_n hx hb dX1_fill_24 rfl (lv_at hl 1 rfl) ?_
      refine g_get (ci := 1) (C := RX1) (T := TX1) (M := 6) hx hb hts hinX1 hown hK hG i_q0_0 sW_o rfl 2 (by decide) hf18 rfl rfl dX1_fill_25 ?_
      refine lv_iconst (v := 1) hx hb dX1_fill_28 (by decide) ?_
      refine lv_isub hx hb dX1_fill_29 ?_
      refine lv_toN (k := (sN v) - 1) (pk_sub (a := sN v) (b := 1) (by omega)) ?_
      refine lv_dup2_11 hx hb dX1_fill_30 rfl rfl ?_
      refine g_iald hx hb hK hG i_q0_1 sW_t (k := (sN v) - 1) rfl (by omega) (by decide) dX1_fill_31 ?_
      refine lv_iload_n hx hb dX1_fill_32 rfl (lv_at hl 0 rfl) ?_
      refine lv_iadd hx hb dX1_fill_33 ?_
      refine g_iast hx hb hK hG hS i_q0_1 sW_t (k := (sN v) - 1) rfl (by omega) (by decide) dX1_fill_34 (fun H locs hG hS => ?_)
      have hG : GW D N L (gA N L s.heap.size) (sW cy L F b (upd (sT v) ((sN v) - 1) (((sT v) ((sN v) - 1)) + (s_top v a)), sA v, sN v, sP v, sC v, sK v)) H := hG.to sW_ut
      refine lv_iload_n hx hb dX1_fill_35 rfl (lv_at hl 2 rfl) ?_
      refine lv_iload_n hx hb dX1_fill_36 rfl (lv_at hl 0 rfl) ?_
      refine lv_isub hx hb dX1_fill_37 ?_
      refine lv_istore_n (lv' := [(3, .int (a - (s_top v a))), (2, .int (s_top v a)), (0, .ref (L b)), (1, .int a)]) hx hb dX1_fill_38 rfl hl (by decide) rfl (fun ls hl => ?_)
      refine lv_iload_n hx hb dX1_fill_39 rfl (lv_at hl 0 rfl) ?_
      refine lv_if_le (tgt := 87) hx hb dX1_fill_40 (by decide) (fun c_40 => ?_) (fun c_40 => ?_)
      · skip
        exact g_vret hx hb hr hlocks hK hG hS dX1_fill_87 ⟨rfl, (by first | (simp only [s_fill, s_fillT, s_rest, c_10, c_17, c_40, if_true, if_false, not_true_eq_false, not_false_eq_true]; done) | (simp [s_fill, s_fillT, s_rest, c_10, c_17, c_40]; done) | rfl)⟩
      · skip
        refine lv_aload_n hx hb dX1_fill_43 rfl (lv_at hl 2 rfl) ?_
        refine g_get (ci := 1) (C := RX1) (T := TX1) (M := 6) hx hb hts hinX1 hown hK hG i_q0_0 sW_o rfl 2 (by decide) hf18 rfl rfl dX1_fill_44 ?_
        refine lv_bipush (v := 10) hx hb dX1_fill_47 (by decide) ?_
        refine lv_icmp_ge (tgt := 87) hx hb dX1_fill_49 (by decide) (fun c_49 => ?_) (fun c_49 => ?_)
        · skip
          have c_49 : 10 ≤ (sN v) := (nI_leI (a := 10) (b := sN v) (by omega) (by omega)).mp c_49
          exact g_vret hx hb hr hlocks hK hG hS dX1_fill_87 ⟨rfl, (by first | (simp only [s_fill, s_fillT, s_rest, c_10, c_17, c_40, c_49, if_true, if_false, not_true_eq_false, not_false_eq_true]; done) | (simp [s_fill, s_fillT, s_rest, c_10, c_17, c_40, c_49]; done) | rfl)⟩
        · skip
          have c_49 : ¬ 10 ≤ (sN v) := fun h9 => c_49 ((nI_leI (a := 10) (b := sN v) (by omega) (by omega)).mpr h9)
          refine lv_aload_n hx hb dX1_fill_52 rfl (lv_at hl 2 rfl) ?_
          refine g_get (ci := 1) (C := RX1) (T := TX1) (M := 6) hx hb hts hinX1 hown hK hG i_q0_0 sW_o rfl 0 (by decide) hf9 rfl rfl dX1_fill_53 ?_
          refine lv_aload_n hx hb dX1_fill_56 rfl (lv_at hl 2 rfl) ?_
          refine g_get (ci := 1) (C := RX1) (T := TX1) (M := 6) hx hb hts hinX1 hown hK hG i_q0_0 sW_o rfl 2 (by decide) hf18 rfl rfl dX1_fill_57 ?_
          refine lv_iload_n hx hb dX1_fill_60 rfl (lv_at hl 0 rfl) ?_
          refine g_iast hx hb hK hG hS i_q0_1 sW_t (k := sN v) rfl (by omega) (by decide) dX1_fill_61 (fun H locs hG hS => ?_)
          have hG : GW D N L (gA N L s.heap.size) (sW cy L F b (upd (upd (sT v) ((sN v) - 1) (((sT v) ((sN v) - 1)) + (s_top v a))) (sN v) (a - (s_top v a)), sA v, sN v, sP v, sC v, sK v)) H := hG.to sW_ut
          refine lv_aload_n hx hb dX1_fill_62 rfl (lv_at hl 2 rfl) ?_
          refine g_get (ci := 1) (C := RX1) (T := TX1) (M := 6) hx hb hts hinX1 hown hK hG i_q0_0 sW_o rfl 1 (by decide) hf15 rfl rfl dX1_fill_63 ?_
          refine lv_aload_n hx hb dX1_fill_66 rfl (lv_at hl 2 rfl) ?_
          refine g_get (ci := 1) (C := RX1) (T := TX1) (M := 6) hx hb hts hinX1 hown hK hG i_q0_0 sW_o rfl 2 (by decide) hf18 rfl rfl dX1_fill_67 ?_
          refine lv_iconst (v := 0) hx hb dX1_fill_70 (by decide) ?_
          refine g_iast hx hb hK hG hS i_q0_2 sW_a (k := sN v) rfl (by omega) (by decide) dX1_fill_71 (fun H locs hG hS => ?_)
          have hG : GW D N L (gA N L s.heap.size) (sW cy L F b (upd (upd (sT v) ((sN v) - 1) (((sT v) ((sN v) - 1)) + (s_top v a))) (sN v) (a - (s_top v a)), upd (sA v) (sN v) 0, sN v, sP v, sC v, sK v)) H := hG.to sW_ua
          refine lv_aload_n hx hb dX1_fill_72 rfl (lv_at hl 2 rfl) ?_
          refine lv_dup hx hb dX1_fill_73 rfl ?_
          refine g_get (ci := 1) (C := RX1) (T := TX1) (M := 6) hx hb hts hinX1 hown hK hG i_q0_0 sW_o rfl 2 (by decide) hf18 rfl rfl dX1_fill_74 ?_
          refine lv_iconst (v := 1) hx hb dX1_fill_77 (by decide) ?_
          refine lv_iadd hx hb dX1_fill_78 ?_
          refine lv_toN (k := (sN v) + 1) (nI_add (sN v) 1) ?_
          refine g_put (ci := 1) (C := RX1) (T := TX1) (M := 6) (ty := .int) hx hb hts hinX1 tyX1 tyX1_ok nmX1 hown hK hG hS i_q0_0 sW_o rfl 2 (by decide) hf18 rfl rfl rfl rfl rfl (Nat.le_of_ble_eq_true rfl) dX1_fill_79 rfl (fun H locs hG hS => ?_)
          have hG : GW D N L (gA N L s.heap.size) (sW cy L F b (upd (upd (sT v) ((sN v) - 1) (((sT v) ((sN v) - 1)) + (s_top v a))) (sN v) (a - (s_top v a)), upd (sA v) (sN v) 0, (sN v) + 1, sP v, sC v, sK v)) H := hG.to sW_uo
          refine lv_aload_n hx hb dX1_fill_82 rfl (lv_at hl 2 rfl) ?_
          refine lv_iconst (v := 0) hx hb dX1_fill_83 (by decide) ?_
          refine g_put (ci := 1) (C := RX1) (T := TX1) (M := 6) (ty := .int) hx hb hts hinX1 tyX1 tyX1_ok nmX1 hown hK hG hS i_q0_0 sW_o rfl 5 (by decide) hf28 rfl rfl rfl rfl rfl (Nat.le_of_ble_eq_true rfl) dX1_fill_84 rfl (fun H locs hG hS => ?_)
          have hG : GW D N L (gA N L s.heap.size) (sW cy L F b (upd (upd (sT v) ((sN v) - 1) (((sT v) ((sN v) - 1)) + (s_top v a))) (sN v) (a - (s_top v a)), upd (sA v) (sN v) 0, (sN v) + 1, sP v, sC v, 0)) H := hG.to sW_uo
          exact g_vret hx hb hr hlocks hK hG hS dX1_fill_87 ⟨rfl, (by first | (simp only [s_fill, s_fillT, s_rest, c_10, c_17, c_40, c_49, if_true, if_false, not_true_eq_false, not_false_eq_true]; done) | (simp [s_fill, s_fillT, s_rest, c_10, c_17, c_40, c_49]; done) | rfl)⟩
set_option maxHeartbeats 4000000 in
set_option maxRecDepth 100000 in
theorem k_X1_takeFromLowest (l : Launch) (D : va_G) (cy : Nat → ClassId) (N : Nat) (L : Nat → Nat) (F : Nat → va_E) (b : Nat) (v : ST) (hb : b + 3 ≤ N)  (o : Int32) (hn : sN v ≤ 10) (hn1 : 1 ≤ sN v) : GM l D cy N L yX1_takeFromLowest wsX1_takeFromLowest ({ frames := 0, cells := 0, slots := 0, locals := 0 }) [.ref (L b), .int o] (sW cy L F b v) (none) (sW cy L F b (s_take v o)) := by
  refine GM.ofW (cc := cX1_takeFromLowest) (maxL := 3) (ret := none) (by decide) rfl (Nat.le_of_ble_eq_true rfl) ?_
  intro p e s m below meth c ls hx hb hr hts hown hlocks hml hK hA hG hS hl
  have hl : lv_has ls 3 [(0, .ref (L b)), (1, .int o)] := hl
  have i_q0_0 : b < N := by omega
  have i_q0_1 : b + 1 < N := by omega
  have i_q0_2 : b + 2 < N := by omega
  have hf9 := hts (.fieldLink RX1 9 "SiloPads$Silo" "tonnes" "[I") (by decide +kernel)
  have hinX1 : ∀ w ∈ u_ws RX1 TX1 6, w ∈ wsX1_takeFromLowest := by decide +kernel
  have hf18 := hts (.fieldLink RX1 18 "SiloPads$Silo" "layers" "I") (by decide +kernel)
  have hf25 := hts (.fieldLink RX1 25 "SiloPads$Silo" "arch" "I") (by decide +kernel)
  have hf15 := hts (.fieldLink RX1 15 "SiloPads$Silo" "ages" "[I") (by decide +kernel)
  refine lv_aload_n hx hb dX1_takeFromLowest_0 rfl (lv_at hl 0 rfl) ?_
  refine g_get (ci := 1) (C := RX1) (T := TX1) (M := 6) hx hb hts hinX1 hown hK hG i_q0_0 sW_o rfl 0 (by decide) hf9 rfl rfl dX1_takeFromLowest_1 ?_
  refine lv_iconst (v := 0) hx hb dX1_takeFromLowest_4 (by decide) ?_
  refine lv_dup2_11 hx hb dX1_takeFromLowest_5 rfl rfl ?_
  refine g_iald hx hb hK hG i_q0_1 sW_t (k := 0) rfl (by omega) (by decide) dX1_takeFromLowest_6 ?_
  refine lv_iload_n hx hb dX1_takeFromLowest_7 rfl (lv_at hl 1 rfl) ?_
  refine lv_isub hx hb dX1_takeFromLowest_8 ?_
  refine g_iast hx hb hK hG hS i_q0_1 sW_t (k := 0) rfl (by omega) (by decide) dX1_takeFromLowest_9 (fun H locs hG hS => ?_)
  have hG : GW D N L (gA N L s.heap.size) (sW cy L F b (upd (sT v) 0 (((sT v) 0) - o), sA v, sN v, sP v, sC v, sK v)) H := hG.to sW_ut
  refine lv_aload_n hx hb dX1_takeFromLowest_10 rfl (lv_at hl 0 rfl) ?_
  refine g_get (ci := 1) (C := RX1) (T := TX1) (M := 6) hx hb hts hinX1 hown hK hG i_q0_0 sW_o rfl 0 (by decide) hf9 rfl rfl dX1_takeFromLowest_11 ?_
  refine lv_iconst (v := 0) hx hb dX1_takeFromLowest_14 (by decide) ?_
  refine g_iald hx hb hK hG i_q0_1 sW_t (k := 0) rfl (by omega) (by decide) dX1_takeFromLowest_15 ?_
  refine lv_if_le (tgt := 20) hx hb dX1_takeFromLowest_16 (by decide) (fun c_16 => ?_) (fun c_16 => ?_)
  · skip
    refine lv_iconst (v := 1) hx hb dX1_takeFromLowest_20 (by decide) ?_
    refine lv_istore_n (lv' := [(2, .int 1), (0, .ref (L b)), (1, .int o)]) hx hb dX1_takeFromLowest_21 rfl hl (by decide) rfl (fun ls hl => ?_)
    refine W.loop (σ := Nat) (fun i H locs ls => (1 ≤ i ∧ i ≤ sN v) ∧ GW D N L (gA N L s.heap.size) (sW cy L F b (cpN (upd (sT v) 0 (sT v 0 - o)) (upd (sT v) 0 (sT v 0 - o)) (0) (1) (i - 1), cpN (sA v) (sA v) (0) (1) (i - 1), sN v, sP v, sC v, sK v)) H ∧ va_S (gA N L s.heap.size) s.heap H locs ∧ lv_has ls 3 [(2, .int (nI i)), (0, .ref (L b)), (1, .int o)]) (fun i => sN v - i) 1 ⟨by omega, hG.to (by rw [cpN_0, cpN_0]), hS, lv_to (lv_sub hl [0, 1, 2] rfl) (rfl)⟩ ?_
    intro i H locs ls hP9 ih22
    obtain ⟨⟨hi8, hi9⟩, hG, hS, hl⟩ := hP9
    refine lv_iload_n hx hb dX1_takeFromLowest_22 rfl (lv_at hl 0 rfl) ?_
    refine lv_aload_n hx hb dX1_takeFromLowest_23 rfl (lv_at hl 1 rfl) ?_
    refine g_get (ci := 1) (C := RX1) (T := TX1) (M := 6) hx hb hts hinX1 hown hK hG i_q0_0 sW_o rfl 2 (by decide) hf18 rfl rfl dX1_takeFromLowest_24 ?_
    refine lv_icmp_ge (tgt := 64) hx hb dX1_takeFromLowest_27 (by decide) (fun c_27 => ?_) (fun c_27 => ?_)
    · skip
      have c_27 : (sN v) ≤ i := (nI_leI (a := sN v) (b := i) (by omega) (by omega)).mp c_27
      have hie : i = sN v := by omega
      refine lv_aload_n hx hb dX1_takeFromLowest_64 rfl (lv_at hl 1 rfl) ?_
      refine lv_dup hx hb dX1_takeFromLowest_65 rfl ?_
      refine g_get (ci := 1) (C := RX1) (T := TX1) (M := 6) hx hb hts hinX1 hown hK hG i_q0_0 sW_o rfl 2 (by decide) hf18 rfl rfl dX1_takeFromLowest_66 ?_
      refine lv_iconst (v := 1) hx hb dX1_takeFromLowest_69 (by decide) ?_
      refine lv_isub hx hb dX1_takeFromLowest_70 ?_
      refine lv_toN (k := (sN v) - 1) (pk_sub (a := sN v) (b := 1) (by omega)) ?_
      refine g_put (ci := 1) (C := RX1) (T := TX1) (M := 6) (ty := .int) hx hb hts hinX1 tyX1 tyX1_ok nmX1 hown hK hG hS i_q0_0 sW_o rfl 2 (by decide) hf18 rfl rfl rfl rfl rfl (Nat.le_of_ble_eq_true rfl) dX1_takeFromLowest_71 rfl (fun H locs hG hS => ?_)
      have hG : GW D N L (gA N L s.heap.size) (sW cy L F b (cpN (upd (sT v) 0 (sT v 0 - o)) (upd (sT v) 0 (sT v 0 - o)) (0) (1) (i - 1), cpN (sA v) (sA v) (0) (1) (i - 1), (sN v) - 1, sP v, sC v, sK v)) H := hG.to sW_uo
      refine lv_aload_n hx hb dX1_takeFromLowest_74 rfl (lv_at hl 1 rfl) ?_
      refine g_get (ci := 1) (C := RX1) (T := TX1) (M := 6) hx hb hts hinX1 hown hK hG i_q0_0 sW_o rfl 4 (by decide) hf25 rfl rfl dX1_takeFromLowest_75 ?_
      refine lv_iconst (v := 1) hx hb dX1_takeFromLowest_78 (by decide) ?_
      refine lv_icmp_ne (tgt := 87) hx hb dX1_takeFromLowest_79 (by decide) (fun c_79 => ?_) (fun c_79 => ?_)
      · skip
        exact g_vret hx hb hr hlocks hK hG hS dX1_takeFromLowest_87 ⟨rfl, (by first | (subst hie; simp only [s_take, s_gone, c_16, c_27, c_79, if_true, if_false]; done) | (simp only [s_take, c_16, c_27, c_79, if_true, if_false]; done))⟩
      · skip
        refine lv_aload_n hx hb dX1_takeFromLowest_82 rfl (lv_at hl 1 rfl) ?_
        refine lv_iconst (v := 2) hx hb dX1_takeFromLowest_83 (by decide) ?_
        refine g_put (ci := 1) (C := RX1) (T := TX1) (M := 6) (ty := .int) hx hb hts hinX1 tyX1 tyX1_ok nmX1 hown hK hG hS i_q0_0 sW_o rfl 4 (by decide) hf25 rfl rfl rfl rfl rfl (Nat.le_of_ble_eq_true rfl) dX1_takeFromLowest_84 rfl (fun H locs hG hS => ?_)
        have hG : GW D N L (gA N L s.heap.size) (sW cy L F b (cpN (upd (sT v) 0 (sT v 0 - o)) (upd (sT v) 0 (sT v 0 - o)) (0) (1) (i - 1), cpN (sA v) (sA v) (0) (1) (i - 1), (sN v) - 1, sP v, 2, sK v)) H := hG.to sW_uo
        exact g_vret hx hb hr hlocks hK hG hS dX1_takeFromLowest_87 ⟨rfl, (by first | (subst hie; simp only [s_take, s_gone, c_16, c_27, eq_true c_79, if_true, if_false]; done) | (simp only [s_take, c_16, c_27, eq_true c_79, if_true, if_false]; done))⟩
    · skip
      have c_27 : ¬ (sN v) ≤ i := fun h9 => c_27 ((nI_leI (a := sN v) (b := i) (by omega) (by omega)).mpr h9)
      refine lv_aload_n hx hb dX1_takeFromLowest_30 rfl (lv_at hl 1 rfl) ?_
      refine g_get (ci := 1) (C := RX1) (T := TX1) (M := 6) hx hb hts hinX1 hown hK hG i_q0_0 sW_o rfl 0 (by decide) hf9 rfl rfl dX1_takeFromLowest_31 ?_
      refine lv_iload_n hx hb dX1_takeFromLowest_34 rfl (lv_at hl 0 rfl) ?_
      refine lv_iconst (v := 1) hx hb dX1_takeFromLowest_35 (by decide) ?_
      refine lv_isub hx hb dX1_takeFromLowest_36 ?_
      refine lv_toN (k := i - 1) (pk_sub (a := i) (b := 1) (by omega)) ?_
      refine lv_aload_n hx hb dX1_takeFromLowest_37 rfl (lv_at hl 1 rfl) ?_
      refine g_get (ci := 1) (C := RX1) (T := TX1) (M := 6) hx hb hts hinX1 hown hK hG i_q0_0 sW_o rfl 0 (by decide) hf9 rfl rfl dX1_takeFromLowest_38 ?_
      refine lv_iload_n hx hb dX1_takeFromLowest_41 rfl (lv_at hl 0 rfl) ?_
      refine g_iald hx hb hK hG i_q0_1 sW_t (k := i) rfl (by omega) (by decide) dX1_takeFromLowest_42 ?_
      refine g_iast hx hb hK hG hS i_q0_1 sW_t (k := i - 1) rfl (by omega) (by decide) dX1_takeFromLowest_43 (fun H locs hG hS => ?_)
      have hG : GW D N L (gA N L s.heap.size) (sW cy L F b (upd (cpN (upd (sT v) 0 (sT v 0 - o)) (upd (sT v) 0 (sT v 0 - o)) (0) (1) (i - 1)) (i - 1) ((cpN (upd (sT v) 0 (sT v 0 - o)) (upd (sT v) 0 (sT v 0 - o)) (0) (1) (i - 1)) i), cpN (sA v) (sA v) (0) (1) (i - 1), sN v, sP v, sC v, sK v)) H := hG.to sW_ut
      refine lv_aload_n hx hb dX1_takeFromLowest_44 rfl (lv_at hl 1 rfl) ?_
      refine g_get (ci := 1) (C := RX1) (T := TX1) (M := 6) hx hb hts hinX1 hown hK hG i_q0_0 sW_o rfl 1 (by decide) hf15 rfl rfl dX1_takeFromLowest_45 ?_
      refine lv_iload_n hx hb dX1_takeFromLowest_48 rfl (lv_at hl 0 rfl) ?_
      refine lv_iconst (v := 1) hx hb dX1_takeFromLowest_49 (by decide) ?_
      refine lv_isub hx hb dX1_takeFromLowest_50 ?_
      refine lv_toN (k := i - 1) (pk_sub (a := i) (b := 1) (by omega)) ?_
      refine lv_aload_n hx hb dX1_takeFromLowest_51 rfl (lv_at hl 1 rfl) ?_
      refine g_get (ci := 1) (C := RX1) (T := TX1) (M := 6) hx hb hts hinX1 hown hK hG i_q0_0 sW_o rfl 1 (by decide) hf15 rfl rfl dX1_takeFromLowest_52 ?_
      refine lv_iload_n hx hb dX1_takeFromLowest_55 rfl (lv_at hl 0 rfl) ?_
      refine g_iald hx hb hK hG i_q0_2 sW_a (k := i) rfl (by omega) (by decide) dX1_takeFromLowest_56 ?_
      refine g_iast hx hb hK hG hS i_q0_2 sW_a (k := i - 1) rfl (by omega) (by decide) dX1_takeFromLowest_57 (fun H locs hG hS => ?_)
      have hG : GW D N L (gA N L s.heap.size) (sW cy L F b (upd (cpN (upd (sT v) 0 (sT v 0 - o)) (upd (sT v) 0 (sT v 0 - o)) (0) (1) (i - 1)) (i - 1) ((cpN (upd (sT v) 0 (sT v 0 - o)) (upd (sT v) 0 (sT v 0 - o)) (0) (1) (i - 1)) i), upd (cpN (sA v) (sA v) (0) (1) (i - 1)) (i - 1) ((cpN (sA v) (sA v) (0) (1) (i - 1)) i), sN v, sP v, sC v, sK v)) H := hG.to sW_ua
      refine lv_iinc (v := nI (i + 1)) (lv' := [(2, .int (nI (i + 1))), (0, .ref (L b)), (1, .int o)]) hx hb dX1_takeFromLowest_58 hl (k := 0) rfl (nI_add i 1) (by decide) rfl (fun ls hl => ?_)
      refine lv_goto (tgt := 22) hx hb dX1_takeFromLowest_61 (by decide) ?_
      have hl : lv_has ls 3 [(2, .int (nI (i + 1))), (0, .ref (L b)), (1, .int o)] := lv_sub hl [0, 1, 2] rfl
      exact ih22 (i + 1) _ _ _ (by omega) ⟨by omega, hG.to (by rw [cpN_own (by omega), cpN_own (by omega), s_take_step hi8, s_take_step hi8]), hS, lv_to hl (rfl)⟩
  · skip
    exact g_vret hx hb hr hlocks hK hG hS dX1_takeFromLowest_19 ⟨rfl, (by first | (subst hie; simp only [s_take, s_gone, c_16, if_true, if_false]; done) | (simp only [s_take, c_16, if_true, if_false]; done))⟩
set_option maxHeartbeats 4000000 in
set_option maxRecDepth 100000 in
theorem k_X1_makeOlder (l : Launch) (D : va_G) (cy : Nat → ClassId) (N : Nat) (L : Nat → Nat) (F : Nat → va_E) (b : Nat) (v : ST) (hb : b + 3 ≤ N)   (hn : sN v ≤ 10) : GM l D cy N L yX1_makeOlder wsX1_makeOlder ({ frames := 0, cells := 0, slots := 0, locals := 0 }) [.ref (L b)] (sW cy L F b v) (none) (sW cy L F b (sT v, s_old (sA v) (sN v), sN v, sP v, sC v, sK v)) := by
  refine GM.ofW (cc := cX1_makeOlder) (maxL := 2) (ret := none) (by decide) rfl (Nat.le_of_ble_eq_true rfl) ?_
  intro p e s m below meth c ls hx hb hr hts hown hlocks hml hK hA hG hS hl
  have hl : lv_has ls 2 [(0, .ref (L b))] := hl
  have i_q0_0 : b < N := by omega
  have i_q0_1 : b + 1 < N := by omega
  have i_q0_2 : b + 2 < N := by omega
  have hf18 := hts (.fieldLink RX1 18 "SiloPads$Silo" "layers" "I") (by decide +kernel)
  have hinX1 : ∀ w ∈ u_ws RX1 TX1 6, w ∈ wsX1_makeOlder := by decide +kernel
  have hf15 := hts (.fieldLink RX1 15 "SiloPads$Silo" "ages" "[I") (by decide +kernel)
  refine lv_iconst (v := 0) hx hb dX1_makeOlder_0 (by decide) ?_
  refine lv_istore_n (lv' := [(1, .int 0), (0, .ref (L b))]) hx hb dX1_makeOlder_1 rfl hl (by decide) rfl (fun ls hl => ?_)
  refine W.loop (σ := Nat) (fun i H locs ls => (i ≤ sN v) ∧ GW D N L (gA N L s.heap.size) (sW cy L F b (sT v, s_old (sA v) i, sN v, sP v, sC v, sK v)) H ∧ va_S (gA N L s.heap.size) s.heap H locs ∧ lv_has ls 2 [(1, .int (nI i)), (0, .ref (L b))]) (fun i => sN v - i) 0 ⟨by omega, hG.to (rfl), hS, lv_to (lv_sub hl [0, 1] rfl) (rfl)⟩ ?_
  intro i H locs ls hP9 ih2
  obtain ⟨hi9, hG, hS, hl⟩ := hP9
  refine lv_iload_n hx hb dX1_makeOlder_2 rfl (lv_at hl 0 rfl) ?_
  refine lv_aload_n hx hb dX1_makeOlder_3 rfl (lv_at hl 1 rfl) ?_
  refine g_get (ci := 1) (C := RX1) (T := TX1) (M := 6) hx hb hts hinX1 hown hK hG i_q0_0 sW_o rfl 2 (by decide) hf18 rfl rfl dX1_makeOlder_4 ?_
  refine lv_icmp_ge (tgt := 26) hx hb dX1_makeOlder_7 (by decide) (fun c_7 => ?_) (fun c_7 => ?_)
  · skip
    have c_7 : (sN v) ≤ i := (nI_leI (a := sN v) (b := i) (by omega) (by omega)).mp c_7
    exact g_vret hx hb hr hlocks hK hG hS dX1_makeOlder_26 ⟨rfl, (by rw [show i = sN v by omega])⟩
  · skip
    have c_7 : ¬ (sN v) ≤ i := fun h9 => c_7 ((nI_leI (a := sN v) (b := i) (by omega) (by omega)).mpr h9)
    refine lv_aload_n hx hb dX1_makeOlder_10 rfl (lv_at hl 1 rfl) ?_
    refine g_get (ci := 1) (C := RX1) (T := TX1) (M := 6) hx hb hts hinX1 hown hK hG i_q0_0 sW_o rfl 1 (by decide) hf15 rfl rfl dX1_makeOlder_11 ?_
    refine lv_iload_n hx hb dX1_makeOlder_14 rfl (lv_at hl 0 rfl) ?_
    refine lv_dup2_11 hx hb dX1_makeOlder_15 rfl rfl ?_
    refine g_iald hx hb hK hG i_q0_2 sW_a (k := i) rfl (by omega) (by decide) dX1_makeOlder_16 ?_
    refine lv_iconst (v := 1) hx hb dX1_makeOlder_17 (by decide) ?_
    refine lv_iadd hx hb dX1_makeOlder_18 ?_
    refine g_iast hx hb hK hG hS i_q0_2 sW_a (k := i) rfl (by omega) (by decide) dX1_makeOlder_19 (fun H locs hG hS => ?_)
    have hG : GW D N L (gA N L s.heap.size) (sW cy L F b (sT v, upd (s_old (sA v) i) i (((s_old (sA v) i) i) + 1), sN v, sP v, sC v, sK v)) H := hG.to sW_ua
    refine lv_iinc (v := nI (i + 1)) (lv' := [(1, .int (nI (i + 1))), (0, .ref (L b))]) hx hb dX1_makeOlder_20 hl (k := 0) rfl (nI_add i 1) (by decide) rfl (fun ls hl => ?_)
    refine lv_goto (tgt := 2) hx hb dX1_makeOlder_23 (by decide) ?_
    have hl : lv_has ls 2 [(1, .int (nI (i + 1))), (0, .ref (L b))] := lv_sub hl [0, 1] rfl
    exact ih2 (i + 1) _ _ _ (by omega) ⟨by omega, hG.to (rfl), hS, lv_to hl (rfl)⟩
set_option maxHeartbeats 4000000 in
set_option maxRecDepth 100000 in
theorem k_X1_makeLowestYounger (l : Launch) (D : va_G) (cy : Nat → ClassId) (N : Nat) (L : Nat → Nat) (F : Nat → va_E) (b : Nat) (v : ST) (hb : b + 3 ≤ N)    : GM l D cy N L yX1_makeLowestYounger wsX1_makeLowestYounger ({ frames := 1, cells := 0, slots := 0, locals := 21 }) [.ref (L b)] (sW cy L F b v) (none) (sW cy L F b (sT v, s_young (sA v), sN v, sP v, sC v, sK v)) := by
  refine GM.ofW (cc := cX1_makeLowestYounger) (maxL := 1) (ret := none) (by decide) rfl (Nat.le_of_ble_eq_true rfl) ?_
  intro p e s m below meth c ls hx hb hr hts hown hlocks hml hK hA hG hS hl
  have hl : lv_has ls 1 [(0, .ref (L b))] := hl
  have i_q0_0 : b < N := by omega
  have i_q0_1 : b + 1 < N := by omega
  have i_q0_2 : b + 2 < N := by omega
  have hf15 := hts (.fieldLink RX1 15 "SiloPads$Silo" "ages" "[I") (by decide +kernel)
  have hinX1 : ∀ w ∈ u_ws RX1 TX1 6, w ∈ wsX1_makeLowestYounger := by decide +kernel
  have hm48 := hts (.methodLink RX1 48 Lib.Math.max.name) (by decide +kernel)
  have hmsmax := hts (.static Lib.Math.max.name) (by decide +kernel)
  have hmcmax := hts (.code Lib.Math.max.name Lib.Math.max.code 2 (some .int)) (by decide +kernel)
  have hmi := hts (.initialized "java/lang/Math") (by decide +kernel)
  refine lv_aload_n hx hb dX1_makeLowestYounger_0 rfl (lv_at hl 0 rfl) ?_
  refine g_get (ci := 1) (C := RX1) (T := TX1) (M := 6) hx hb hts hinX1 hown hK hG i_q0_0 sW_o rfl 1 (by decide) hf15 rfl rfl dX1_makeLowestYounger_1 ?_
  refine lv_iconst (v := 0) hx hb dX1_makeLowestYounger_4 (by decide) ?_
  refine lv_iconst (v := 0) hx hb dX1_makeLowestYounger_5 (by decide) ?_
  refine lv_aload_n hx hb dX1_makeLowestYounger_6 rfl (lv_at hl 0 rfl) ?_
  refine g_get (ci := 1) (C := RX1) (T := TX1) (M := 6) hx hb hts hinX1 hown hK hG i_q0_0 sW_o rfl 1 (by decide) hf15 rfl rfl dX1_makeLowestYounger_7 ?_
  refine lv_iconst (v := 0) hx hb dX1_makeLowestYounger_10 (by decide) ?_
  refine g_iald hx hb hK hG i_q0_2 sW_a (k := 0) rfl (by omega) (by decide) dX1_makeLowestYounger_11 ?_
  refine lv_iconst (v := 1) hx hb dX1_makeLowestYounger_12 (by decide) ?_
  refine lv_isub hx hb dX1_makeLowestYounger_13 ?_
  refine va_mmax hx hb (hml.trans hl.1.symm) hown hm48 hmsmax hmi hmcmax (Nat.le_of_ble_eq_true rfl) (Nat.le_of_ble_eq_true rfl) (Nat.zero_le _) (Nat.zero_le _) dX1_makeLowestYounger_14 ?_
  refine g_iast hx hb hK hG hS i_q0_2 sW_a (k := 0) rfl (by omega) (by decide) dX1_makeLowestYounger_17 (fun H locs hG hS => ?_)
  have hG : GW D N L (gA N L s.heap.size) (sW cy L F b (sT v, upd (sA v) 0 (if 0 < ((sA v) 0) - 1 then ((sA v) 0) - 1 else 0), sN v, sP v, sC v, sK v)) H := hG.to sW_ua
  exact g_vret hx hb hr hlocks hK hG hS dX1_makeLowestYounger_18 ⟨rfl, (by rfl)⟩
set_option maxHeartbeats 4000000 in
set_option maxRecDepth 100000 in
theorem k_X1_becomeLike (l : Launch) (D : va_G) (cy : Nat → ClassId) (N : Nat) (L : Nat → Nat) (F : Nat → va_E) (b2 : Nat) (v2 : ST) (b : Nat) (v : ST) (hb : b + 3 ≤ N) (hb2 : b2 + 3 ≤ N) (hd : b2 + 3 ≤ b ∨ b + 3 ≤ b2)    : GM l D cy N L yX1_becomeLike wsX1_becomeLike ({ frames := 0, cells := 0, slots := 0, locals := 0 }) [.ref (L b), .ref (L b2)] (sW cy L (sW cy L F b2 v2) b v) (none) (sW cy L (sW cy L F b2 v2) b (cpN (sT v) (sT v2) (0) (0) 10, cpN (sA v) (sA v2) (0) (0) 10, sN v2, sP v2, sC v2, sK v2)) := by
  refine GM.ofW (cc := cX1_becomeLike) (maxL := 3) (ret := none) (by decide) rfl (Nat.le_of_ble_eq_true rfl) ?_
  intro p e s m below meth c ls hx hb hr hts hown hlocks hml hK hA hG hS hl
  have hl : lv_has ls 3 [(0, .ref (L b)), (1, .ref (L b2))] := hl
  have i_q0_0 : b2 < N := by omega
  have i_q0_1 : b2 + 1 < N := by omega
  have i_q0_2 : b2 + 2 < N := by omega
  have i_q1_0 : b < N := by omega
  have i_q1_1 : b + 1 < N := by omega
  have i_q1_2 : b + 2 < N := by omega
  have hf18 := hts (.fieldLink RX1 18 "SiloPads$Silo" "layers" "I") (by decide +kernel)
  have hinX1 : ∀ w ∈ u_ws RX1 TX1 6, w ∈ wsX1_becomeLike := by decide +kernel
  have hf22 := hts (.fieldLink RX1 22 "SiloPads$Silo" "padsOn" "I") (by decide +kernel)
  have hf25 := hts (.fieldLink RX1 25 "SiloPads$Silo" "arch" "I") (by decide +kernel)
  have hf28 := hts (.fieldLink RX1 28 "SiloPads$Silo" "shakes" "I") (by decide +kernel)
  have hf9 := hts (.fieldLink RX1 9 "SiloPads$Silo" "tonnes" "[I") (by decide +kernel)
  have hf15 := hts (.fieldLink RX1 15 "SiloPads$Silo" "ages" "[I") (by decide +kernel)
  refine lv_iconst (v := 0) hx hb dX1_becomeLike_0 (by decide) ?_
  refine lv_istore_n (lv' := [(2, .int 0), (0, .ref (L b)), (1, .ref (L b2))]) hx hb dX1_becomeLike_1 rfl hl (by decide) rfl (fun ls hl => ?_)
  refine W.loop (σ := Nat) (fun k H locs ls => (k ≤ 10) ∧ GW D N L (gA N L s.heap.size) (sW cy L (sW cy L F b2 v2) b (cpN (sT v) (sT v2) (0) (0) k, cpN (sA v) (sA v2) (0) (0) k, sN v, sP v, sC v, sK v)) H ∧ va_S (gA N L s.heap.size) s.heap H locs ∧ lv_has ls 3 [(2, .int (nI k)), (0, .ref (L b)), (1, .ref (L b2))]) (fun k => 10 - k) 0 ⟨by omega, hG.to (by rw [cpN_0, cpN_0]), hS, lv_to (lv_sub hl [0, 1, 2] rfl) (rfl)⟩ ?_
  intro k H locs ls hP9 ih2
  obtain ⟨hk9, hG, hS, hl⟩ := hP9
  refine lv_iload_n hx hb dX1_becomeLike_2 rfl (lv_at hl 0 rfl) ?_
  refine lv_bipush (v := 10) hx hb dX1_becomeLike_3 (by decide) ?_
  refine lv_icmp_ge (tgt := 38) hx hb dX1_becomeLike_5 (by decide) (fun c_5 => ?_) (fun c_5 => ?_)
  · skip
    have c_5 : 10 ≤ k := (nI_leI (a := 10) (b := k) (by omega) (by omega)).mp c_5
    refine lv_aload_n hx hb dX1_becomeLike_38 rfl (lv_at hl 1 rfl) ?_
    refine lv_aload_n hx hb dX1_becomeLike_39 rfl (lv_at hl 2 rfl) ?_
    refine g_get (ci := 1) (C := RX1) (T := TX1) (M := 6) hx hb hts hinX1 hown hK hG i_q0_0 (by rw [sW_n (by omega)]; exact sW_o) rfl 2 (by decide) hf18 rfl rfl dX1_becomeLike_40 ?_
    refine g_put (ci := 1) (C := RX1) (T := TX1) (M := 6) (ty := .int) hx hb hts hinX1 tyX1 tyX1_ok nmX1 hown hK hG hS i_q1_0 sW_o rfl 2 (by decide) hf18 rfl rfl rfl rfl rfl (Nat.le_of_ble_eq_true rfl) dX1_becomeLike_43 rfl (fun H locs hG hS => ?_)
    have hG : GW D N L (gA N L s.heap.size) (sW cy L (sW cy L F b2 v2) b (cpN (sT v) (sT v2) (0) (0) k, cpN (sA v) (sA v2) (0) (0) k, sN v2, sP v, sC v, sK v)) H := hG.to sW_uo
    refine lv_aload_n hx hb dX1_becomeLike_46 rfl (lv_at hl 1 rfl) ?_
    refine lv_aload_n hx hb dX1_becomeLike_47 rfl (lv_at hl 2 rfl) ?_
    refine g_get (ci := 1) (C := RX1) (T := TX1) (M := 6) hx hb hts hinX1 hown hK hG i_q0_0 (by rw [sW_n (by omega)]; exact sW_o) rfl 3 (by decide) hf22 rfl rfl dX1_becomeLike_48 ?_
    refine g_put (ci := 1) (C := RX1) (T := TX1) (M := 6) (ty := .int) hx hb hts hinX1 tyX1 tyX1_ok nmX1 hown hK hG hS i_q1_0 sW_o rfl 3 (by decide) hf22 rfl rfl rfl rfl rfl (Nat.le_of_ble_eq_true rfl) dX1_becomeLike_51 rfl (fun H locs hG hS => ?_)
    have hG : GW D N L (gA N L s.heap.size) (sW cy L (sW cy L F b2 v2) b (cpN (sT v) (sT v2) (0) (0) k, cpN (sA v) (sA v2) (0) (0) k, sN v2, sP v2, sC v, sK v)) H := hG.to sW_uo
    refine lv_aload_n hx hb dX1_becomeLike_54 rfl (lv_at hl 1 rfl) ?_
    refine lv_aload_n hx hb dX1_becomeLike_55 rfl (lv_at hl 2 rfl) ?_
    refine g_get (ci := 1) (C := RX1) (T := TX1) (M := 6) hx hb hts hinX1 hown hK hG i_q0_0 (by rw [sW_n (by omega)]; exact sW_o) rfl 4 (by decide) hf25 rfl rfl dX1_becomeLike_56 ?_
    refine g_put (ci := 1) (C := RX1) (T := TX1) (M := 6) (ty := .int) hx hb hts hinX1 tyX1 tyX1_ok nmX1 hown hK hG hS i_q1_0 sW_o rfl 4 (by decide) hf25 rfl rfl rfl rfl rfl (Nat.le_of_ble_eq_true rfl) dX1_becomeLike_59 rfl (fun H locs hG hS => ?_)
    have hG : GW D N L (gA N L s.heap.size) (sW cy L (sW cy L F b2 v2) b (cpN (sT v) (sT v2) (0) (0) k, cpN (sA v) (sA v2) (0) (0) k, sN v2, sP v2, sC v2, sK v)) H := hG.to sW_uo
    refine lv_aload_n hx hb dX1_becomeLike_62 rfl (lv_at hl 1 rfl) ?_
    refine lv_aload_n hx hb dX1_becomeLike_63 rfl (lv_at hl 2 rfl) ?_
    refine g_get (ci := 1) (C := RX1) (T := TX1) (M := 6) hx hb hts hinX1 hown hK hG i_q0_0 (by rw [sW_n (by omega)]; exact sW_o) rfl 5 (by decide) hf28 rfl rfl dX1_becomeLike_64 ?_
    refine g_put (ci := 1) (C := RX1) (T := TX1) (M := 6) (ty := .int) hx hb hts hinX1 tyX1 tyX1_ok nmX1 hown hK hG hS i_q1_0 sW_o rfl 5 (by decide) hf28 rfl rfl rfl rfl rfl (Nat.le_of_ble_eq_true rfl) dX1_becomeLike_67 rfl (fun H locs hG hS => ?_)
    have hG : GW D N L (gA N L s.heap.size) (sW cy L (sW cy L F b2 v2) b (cpN (sT v) (sT v2) (0) (0) k, cpN (sA v) (sA v2) (0) (0) k, sN v2, sP v2, sC v2, sK v2)) H := hG.to sW_uo
    exact g_vret hx hb hr hlocks hK hG hS dX1_becomeLike_70 ⟨rfl, (by rw [show k = 10 by omega])⟩
  · skip
    have c_5 : ¬ 10 ≤ k := fun h9 => c_5 ((nI_leI (a := 10) (b := k) (by omega) (by omega)).mpr h9)
    refine lv_aload_n hx hb dX1_becomeLike_8 rfl (lv_at hl 1 rfl) ?_
    refine g_get (ci := 1) (C := RX1) (T := TX1) (M := 6) hx hb hts hinX1 hown hK hG i_q1_0 sW_o rfl 0 (by decide) hf9 rfl rfl dX1_becomeLike_9 ?_
    refine lv_iload_n hx hb dX1_becomeLike_12 rfl (lv_at hl 0 rfl) ?_
    refine lv_aload_n hx hb dX1_becomeLike_13 rfl (lv_at hl 2 rfl) ?_
    refine g_get (ci := 1) (C := RX1) (T := TX1) (M := 6) hx hb hts hinX1 hown hK hG i_q0_0 (by rw [sW_n (by omega)]; exact sW_o) rfl 0 (by decide) hf9 rfl rfl dX1_becomeLike_14 ?_
    refine lv_iload_n hx hb dX1_becomeLike_17 rfl (lv_at hl 0 rfl) ?_
    refine g_iald hx hb hK hG i_q0_1 (by rw [sW_n (by omega)]; exact sW_t) (k := k) rfl (by omega) (by decide) dX1_becomeLike_18 ?_
    refine g_iast hx hb hK hG hS i_q1_1 sW_t (k := k) rfl (by omega) (by decide) dX1_becomeLike_19 (fun H locs hG hS => ?_)
    have hG : GW D N L (gA N L s.heap.size) (sW cy L (sW cy L F b2 v2) b (upd (cpN (sT v) (sT v2) (0) (0) k) k ((sT v2) k), cpN (sA v) (sA v2) (0) (0) k, sN v, sP v, sC v, sK v)) H := hG.to sW_ut
    refine lv_aload_n hx hb dX1_becomeLike_20 rfl (lv_at hl 1 rfl) ?_
    refine g_get (ci := 1) (C := RX1) (T := TX1) (M := 6) hx hb hts hinX1 hown hK hG i_q1_0 sW_o rfl 1 (by decide) hf15 rfl rfl dX1_becomeLike_21 ?_
    refine lv_iload_n hx hb dX1_becomeLike_24 rfl (lv_at hl 0 rfl) ?_
    refine lv_aload_n hx hb dX1_becomeLike_25 rfl (lv_at hl 2 rfl) ?_
    refine g_get (ci := 1) (C := RX1) (T := TX1) (M := 6) hx hb hts hinX1 hown hK hG i_q0_0 (by rw [sW_n (by omega)]; exact sW_o) rfl 1 (by decide) hf15 rfl rfl dX1_becomeLike_26 ?_
    refine lv_iload_n hx hb dX1_becomeLike_29 rfl (lv_at hl 0 rfl) ?_
    refine g_iald hx hb hK hG i_q0_2 (by rw [sW_n (by omega)]; exact sW_a) (k := k) rfl (by omega) (by decide) dX1_becomeLike_30 ?_
    refine g_iast hx hb hK hG hS i_q1_2 sW_a (k := k) rfl (by omega) (by decide) dX1_becomeLike_31 (fun H locs hG hS => ?_)
    have hG : GW D N L (gA N L s.heap.size) (sW cy L (sW cy L F b2 v2) b (upd (cpN (sT v) (sT v2) (0) (0) k) k ((sT v2) k), upd (cpN (sA v) (sA v2) (0) (0) k) k ((sA v2) k), sN v, sP v, sC v, sK v)) H := hG.to sW_ua
    refine lv_iinc (v := nI (k + 1)) (lv' := [(2, .int (nI (k + 1))), (0, .ref (L b)), (1, .ref (L b2))]) hx hb dX1_becomeLike_32 hl (k := 0) rfl (nI_add k 1) (by decide) rfl (fun ls hl => ?_)
    refine lv_goto (tgt := 2) hx hb dX1_becomeLike_35 (by decide) ?_
    have hl : lv_has ls 3 [(2, .int (nI (k + 1))), (0, .ref (L b)), (1, .ref (L b2))] := lv_sub hl [0, 1, 2] rfl
    exact ih2 (k + 1) _ _ _ (by omega) ⟨by omega, hG.to (by rw [cpN_z, cpN_z]), hS, lv_to hl (rfl)⟩
end
section
/-! THE CLASS'S METHODS THAT READ THE SETTINGS: what they find at the places 0 (the object), 1 (its yard), 4 (the settings z) -/
def cE (cy : Nat → ClassId) (L : Nat → Nat) (F : Nat → va_E) (z : Nat → Int32) : Prop :=
  (∃ fs, F 0 = .inr (4, .ref (L 1) :: fs)) ∧ (∃ a1 a2 fs, F 1 = .inr (3, a1 :: a2 :: .ref (L 4) :: fs)) ∧ F 4 = .inl (cy 0, 4, .inl z)
theorem cE_s {cy : Nat → ClassId} {L : Nat → Nat} {F : Nat → va_E} {z : Nat → Int32} {b : Nat} {v : ST} (hb : 5 ≤ b) (h : cE cy L F z) : cE cy L (sW cy L F b v) z := by
  unfold cE
  rw [sW_n (by omega), sW_n (by omega), sW_n (by omega)]
  exact h
theorem cE_h {cy : Nat → ClassId} {L : Nat → Nat} {F : Nat → va_E} {z : Nat → Int32} {b : Nat} {h1 : HT} (hb : 5 ≤ b) (h : cE cy L F z) : cE cy L (hW F b h1) z := by
  unfold cE
  rw [hW_n (by omega), hW_n (by omega), hW_n (by omega)]
  exact h
def c_noSilo (v : Int32) : Int32 := if v < 0 then 1 else if v < 4 then 0 else 1
def c_noShip (v : Int32) : Int32 := if v < 0 then 1 else if v < 6 then 0 else 1
def s_min (a b : Int32) : Int32 := if b < a then b else a
def c_dust (z : Nat → Int32) (o : Int32) : Int32 := if z 2 ≤ 0 then 0 else o / z 2
def c_until (z : Nat → Int32) (a : Int32) : Int32 := if 1 < z 1 + 1 - a then z 1 + 1 - a else 1
def c_outH (z : Nat → Int32) (v : ST) (q : Int32) : Int32 :=
  if sN v = 0 then 0
  else if g_set (sA v 0) (z 1) = 0 then (if q = 0 then 5 else 40 * q)
  else if g_set (sA v 0) (z 1) = 1 then (if q = 0 then 0 else 20 * (q - 1))
  else if q = 4 then 10 * (q - 3) else 0
def c_out (z : Nat → Int32) (v : ST) (h : HT) : Int32 := s_min (c_outH z v (sP v)) (s_min (sT v 0) (hH h - hT h))
def c_hourR (z : Nat → Int32) (v : ST) (h : HT) : Int32 := if sN v = 0 then 0 else if sC v = 2 then 0 else c_out z v h - c_dust z (c_out z v h)
def c_hourV (z : Nat → Int32) (v : ST) (h : HT) : ST := if sN v = 0 then v else if sC v = 2 then v else s_take v (c_out z v h)
def c_hourH (z : Nat → Int32) (v : ST) (h : HT) : HT := if sN v = 0 then h else if sC v = 2 then h else (hT h + (c_out z v h - c_dust z (c_out z v h)), hH h)
def c_poS (z : Nat → Int32) (v : ST) (h : HT) : Nat → ST × HT
  | 0 => (v, h)
  | q + 1 => (c_hourV z (c_poS z v h q).1 (c_poS z v h q).2, c_hourH z (c_poS z v h q).1 (c_poS z v h q).2)
def c_poR (z : Nat → Int32) (v : ST) (h : HT) : Nat → Int32
  | 0 => 0
  | q + 1 => c_poR z v h q + c_hourR z (c_poS z v h q).1 (c_poS z v h q).2
theorem s_take_N {v : ST} {o : Int32} : sN (s_take v o) ≤ sN v := by
  unfold s_take
  split
  · exact Nat.sub_le _ _
  · exact Nat.le_refl _
theorem c_po_N {z : Nat → Int32} {v : ST} {h : HT} (hn : sN v ≤ 10) : ∀ q, sN (c_poS z v h q).1 ≤ 10
  | 0 => hn
  | q + 1 => by
    have ih := c_po_N (z := z) (h := h) hn q
    show sN (c_hourV z (c_poS z v h q).1 (c_poS z v h q).2) ≤ 10
    unfold c_hourV
    split
    · exact ih
    · split
      · exact ih
      · exact Nat.le_trans s_take_N ih
def c_brR (v : ST) (h : HT) (t : Int32) : Int32 := s_min t (s_min (hT h) (s_place v))
def c_brk (z : Nat → Int32) (v : ST) : Int32 := if sC v = 0 then 0 else if s_held v < z 3 then (if 1 < 3 - sK v then 3 - sK v else 1) else 1
def c_soft (z : Nat → Int32) (v : ST) : Nat → Int32
  | 0 => 0
  | i + 1 => if g_set (sA v i) (z 1) = 0 then c_soft z v i + sT v i else c_soft z v i
def c_old (v : ST) : ST := (sT v, s_old (sA v) (sN v), sN v, sP v, sC v, sK v)
def c_dayR (z : Nat → Int32) (v : ST) : Int32 := if s_can (c_old v) = 0 then 0 else if g_set (s_old (sA v) (sN v) 0) (z 1) = 0 then 0 else 1
def c_dayV (z : Nat → Int32) (v : ST) : ST :=
  if s_can (c_old v) = 0 then c_old v else if g_set (s_old (sA v) (sN v) 0) (z 1) = 0 then c_old v else (sT v, s_old (sA v) (sN v), sN v, sP v, 1, 0)
def c_more (v w : ST) : Int32 :=
  if sA v 0 = sA w 0 then (if s_total v ≤ s_total w then 0 else 1) else if sA v 0 ≤ sA w 0 then 0 else 1
end
section
set_option maxHeartbeats 4000000 in
set_option maxRecDepth 100000 in
theorem k_X4_isNoSilo (l : Launch) (D : va_G) (cy : Nat → ClassId) (N : Nat) (L : Nat → Nat) (F : Nat → va_E) (v : Int32)  : GM l D cy N L yX4_isNoSilo wsX4_isNoSilo ({ frames := 0, cells := 0, slots := 0, locals := 0 }) [.int v] (F) (some (.int (c_noSilo v))) (F) := by
  refine GM.ofW (cc := cX4_isNoSilo) (maxL := 1) (ret := (some .boolean)) (by decide) rfl (Nat.le_of_ble_eq_true rfl) ?_
  intro p e s m below meth c ls hx hb hr hts hown hlocks hml hK hA hG hS hl
  have hl : lv_has ls 1 [(0, .int v)] := hl
  refine lv_iload_n hx hb dX4_isNoSilo_0 rfl (lv_at hl 0 rfl) ?_
  refine lv_if_lt (tgt := 9) hx hb dX4_isNoSilo_1 (by decide) (fun c_1 => ?_) (fun c_1 => ?_)
  · skip
    refine lv_iconst (v := 1) hx hb dX4_isNoSilo_9 (by decide) ?_
    refine lv_goto (tgt := 14) hx hb dX4_isNoSilo_10 (by decide) ?_
    exact g_iret hx hb hr hlocks hK hG hS rfl dX4_isNoSilo_14 ⟨(congrArg (fun z9 => some (Value.int z9)) (by first | (simp only [c_noSilo, c_1, if_true, if_false, not_true_eq_false, not_false_eq_true]; done) | (simp [c_noSilo, c_1]; done) | rfl)), rfl⟩
  · skip
    refine lv_iload_n hx hb dX4_isNoSilo_4 rfl (lv_at hl 0 rfl) ?_
    refine lv_iconst (v := 4) hx hb dX4_isNoSilo_5 (by decide) ?_
    refine lv_icmp_lt (tgt := 13) hx hb dX4_isNoSilo_6 (by decide) (fun c_6 => ?_) (fun c_6 => ?_)
    · skip
      refine lv_iconst (v := 0) hx hb dX4_isNoSilo_13 (by decide) ?_
      exact g_iret hx hb hr hlocks hK hG hS rfl dX4_isNoSilo_14 ⟨(congrArg (fun z9 => some (Value.int z9)) (by first | (simp only [c_noSilo, c_1, c_6, if_true, if_false, not_true_eq_false, not_false_eq_true]; done) | (simp [c_noSilo, c_1, c_6]; done) | rfl)), rfl⟩
    · skip
      refine lv_iconst (v := 1) hx hb dX4_isNoSilo_9 (by decide) ?_
      refine lv_goto (tgt := 14) hx hb dX4_isNoSilo_10 (by decide) ?_
      exact g_iret hx hb hr hlocks hK hG hS rfl dX4_isNoSilo_14 ⟨(congrArg (fun z9 => some (Value.int z9)) (by first | (simp only [c_noSilo, c_1, c_6, if_true, if_false, not_true_eq_false, not_false_eq_true]; done) | (simp [c_noSilo, c_1, c_6]; done) | rfl)), rfl⟩
set_option maxHeartbeats 4000000 in
set_option maxRecDepth 100000 in
theorem k_X4_isNoShip (l : Launch) (D : va_G) (cy : Nat → ClassId) (N : Nat) (L : Nat → Nat) (F : Nat → va_E) (v : Int32)  : GM l D cy N L yX4_isNoShip wsX4_isNoShip ({ frames := 0, cells := 0, slots := 0, locals := 0 }) [.int v] (F) (some (.int (c_noShip v))) (F) := by
  refine GM.ofW (cc := cX4_isNoShip) (maxL := 1) (ret := (some .boolean)) (by decide) rfl (Nat.le_of_ble_eq_true rfl) ?_
  intro p e s m below meth c ls hx hb hr hts hown hlocks hml hK hA hG hS hl
  have hl : lv_has ls 1 [(0, .int v)] := hl
  refine lv_iload_n hx hb dX4_isNoShip_0 rfl (lv_at hl 0 rfl) ?_
  refine lv_if_lt (tgt := 10) hx hb dX4_isNoShip_1 (by decide) (fun c_1 => ?_) (fun c_1 => ?_)
  · skip
    refine lv_iconst (v := 1) hx hb dX4_isNoShip_10 (by decide) ?_
    refine lv_goto (tgt := 15) hx hb dX4_isNoShip_11 (by decide) ?_
    exact g_iret hx hb hr hlocks hK hG hS rfl dX4_isNoShip_15 ⟨(congrArg (fun z9 => some (Value.int z9)) (by first | (simp only [c_noShip, c_1, if_true, if_false, not_true_eq_false, not_false_eq_true]; done) | (simp [c_noShip, c_1]; done) | rfl)), rfl⟩
  · skip
    refine lv_iload_n hx hb dX4_isNoShip_4 rfl (lv_at hl 0 rfl) ?_
    refine lv_bipush (v := 6) hx hb dX4_isNoShip_5 (by decide) ?_
    refine lv_icmp_lt (tgt := 14) hx hb dX4_isNoShip_7 (by decide) (fun c_7 => ?_) (fun c_7 => ?_)
    · skip
      refine lv_iconst (v := 0) hx hb dX4_isNoShip_14 (by decide) ?_
      exact g_iret hx hb hr hlocks hK hG hS rfl dX4_isNoShip_15 ⟨(congrArg (fun z9 => some (Value.int z9)) (by first | (simp only [c_noShip, c_1, c_7, if_true, if_false, not_true_eq_false, not_false_eq_true]; done) | (simp [c_noShip, c_1, c_7]; done) | rfl)), rfl⟩
    · skip
      refine lv_iconst (v := 1) hx hb dX4_isNoShip_10 (by decide) ?_
      refine lv_goto (tgt := 15) hx hb dX4_isNoShip_11 (by decide) ?_
      exact g_iret hx hb hr hlocks hK hG hS rfl dX4_isNoShip_15 ⟨(congrArg (fun z9 => some (Value.int z9)) (by first | (simp only [c_noShip, c_1, c_7, if_true, if_false, not_true_eq_false, not_false_eq_true]; done) | (simp [c_noShip, c_1, c_7]; done) | rfl)), rfl⟩
set_option maxHeartbeats 4000000 in
set_option maxRecDepth 100000 in
theorem k_X4_hardnessAt (l : Launch) (D : va_G) (cy : Nat → ClassId) (N : Nat) (L : Nat → Nat) (F : Nat → va_E) (z : Nat → Int32) (hN : 5 ≤ N) (hE : cE cy L F z)  (a : Int32)  : GM l D cy N L yX4_hardnessAt wsX4_hardnessAt ({ frames := 0, cells := 0, slots := 0, locals := 0 }) [.ref (L 0), .int a] (F) (some (.int (g_set a (z 1)))) (F) := by
  refine GM.ofW (cc := cX4_hardnessAt) (maxL := 3) (ret := (some .int)) (by decide) rfl (Nat.le_of_ble_eq_true rfl) ?_
  intro p e s m below meth c ls hx hb hr hts hown hlocks hml hK hA hG hS hl
  have hl : lv_has ls 3 [(0, .ref (L 0)), (1, .int a)] := hl
  obtain ⟨⟨fs0, e0⟩, ⟨a1, a2, fs1, e1⟩, e4⟩ := id hE
  have i_e0 : 0 < N := by omega
  have i_e1 : 1 < N := by omega
  have i_e4 : 4 < N := by omega
  have hf10 := hts (.fieldLink RX4 10 "SiloPads" "now" "LSiloPads$Yard;") (by decide +kernel)
  have hinX4 : ∀ w ∈ u_ws RX4 TX4 8, w ∈ wsX4_hardnessAt := by decide +kernel
  have hf117 := hts (.fieldLink RX4 117 "SiloPads$Yard" "settings" "[I") (by decide +kernel)
  have hinX3 : ∀ w ∈ u_ws RX3 TX3 9, w ∈ wsX4_hardnessAt := by decide +kernel
  refine lv_aload_n hx hb dX4_hardnessAt_0 rfl (lv_at hl 0 rfl) ?_
  refine g_get (ci := 4) (C := RX4) (T := TX4) (M := 8) hx hb hts hinX4 hown hK hG i_e0 e0 rfl 0 (by decide) hf10 rfl rfl dX4_hardnessAt_1 ?_
  refine g_get (ci := 3) (C := RX3) (T := TX3) (M := 9) hx hb hts hinX3 hown hK hG i_e1 e1 rfl 2 (by decide) hf117 rfl rfl dX4_hardnessAt_4 ?_
  refine lv_iconst (v := 1) hx hb dX4_hardnessAt_7 (by decide) ?_
  refine g_iald hx hb hK hG i_e4 e4 (k := 1) rfl (by omega) (by decide) dX4_hardnessAt_8 ?_
  refine lv_istore_n (lv' := [(2, .int (z 1)), (0, .ref (L 0)), (1, .int a)]) hx hb dX4_hardnessAt_9 rfl hl (by decide) rfl (fun ls hl => ?_)
  refine lv_iload_n hx hb dX4_hardnessAt_10 rfl (lv_at hl 2 rfl) ?_
  refine lv_iload_n hx hb dX4_hardnessAt_11 rfl (lv_at hl 0 rfl) ?_
  refine lv_icmp_gt (tgt := 17) hx hb dX4_hardnessAt_12 (by decide) (fun c_12 => ?_) (fun c_12 => ?_)
  · skip
    refine lv_iload_n hx hb dX4_hardnessAt_17 rfl (lv_at hl 2 rfl) ?_
    refine lv_iconst (v := 2) hx hb dX4_hardnessAt_18 (by decide) ?_
    refine lv_iload_n hx hb dX4_hardnessAt_19 rfl (lv_at hl 0 rfl) ?_
    refine lv_imul hx hb dX4_hardnessAt_20 ?_
    refine lv_icmp_gt (tgt := 28) hx hb dX4_hardnessAt_21 (by decide) (fun c_21 => ?_) (fun c_21 => ?_)
    · skip
      refine lv_iconst (v := 2) hx hb dX4_hardnessAt_28 (by decide) ?_
      exact g_iret hx hb hr hlocks hK hG hS rfl dX4_hardnessAt_29 ⟨(congrArg (fun z9 => some (Value.int z9)) (by first | (simp only [g_set, c_12, c_21, if_true, if_false, not_true_eq_false, not_false_eq_true]; done) | (simp [g_set, c_12, c_21]; done) | rfl)), rfl⟩
    · skip
      refine lv_iconst (v := 1) hx hb dX4_hardnessAt_24 (by decide) ?_
      refine lv_goto (tgt := 29) hx hb dX4_hardnessAt_25 (by decide) ?_
      exact g_iret hx hb hr hlocks hK hG hS rfl dX4_hardnessAt_29 ⟨(congrArg (fun z9 => some (Value.int z9)) (by first | (simp only [g_set, c_12, c_21, if_true, if_false, not_true_eq_false, not_false_eq_true]; done) | (simp [g_set, c_12, c_21]; done) | rfl)), rfl⟩
  · skip
    refine lv_iconst (v := 0) hx hb dX4_hardnessAt_15 (by decide) ?_
    exact g_iret hx hb hr hlocks hK hG hS rfl dX4_hardnessAt_16 ⟨(congrArg (fun z9 => some (Value.int z9)) (by first | (simp only [g_set, c_12, if_true, if_false, not_true_eq_false, not_false_eq_true]; done) | (simp [g_set, c_12]; done) | rfl)), rfl⟩
set_option maxHeartbeats 4000000 in
set_option maxRecDepth 100000 in
theorem k_X4_dustOf (l : Launch) (D : va_G) (cy : Nat → ClassId) (N : Nat) (L : Nat → Nat) (F : Nat → va_E) (z : Nat → Int32) (hN : 5 ≤ N) (hE : cE cy L F z)  (o : Int32)  : GM l D cy N L yX4_dustOf wsX4_dustOf ({ frames := 0, cells := 0, slots := 0, locals := 0 }) [.ref (L 0), .int o] (F) (some (.int (c_dust z o))) (F) := by
  refine GM.ofW (cc := cX4_dustOf) (maxL := 3) (ret := (some .int)) (by decide) rfl (Nat.le_of_ble_eq_true rfl) ?_
  intro p e s m below meth c ls hx hb hr hts hown hlocks hml hK hA hG hS hl
  have hl : lv_has ls 3 [(0, .ref (L 0)), (1, .int o)] := hl
  obtain ⟨⟨fs0, e0⟩, ⟨a1, a2, fs1, e1⟩, e4⟩ := id hE
  have i_e0 : 0 < N := by omega
  have i_e1 : 1 < N := by omega
  have i_e4 : 4 < N := by omega
  have hf10 := hts (.fieldLink RX4 10 "SiloPads" "now" "LSiloPads$Yard;") (by decide +kernel)
  have hinX4 : ∀ w ∈ u_ws RX4 TX4 8, w ∈ wsX4_dustOf := by decide +kernel
  have hf117 := hts (.fieldLink RX4 117 "SiloPads$Yard" "settings" "[I") (by decide +kernel)
  have hinX3 : ∀ w ∈ u_ws RX3 TX3 9, w ∈ wsX4_dustOf := by decide +kernel
  refine lv_aload_n hx hb dX4_dustOf_0 rfl (lv_at hl 0 rfl) ?_
  refine g_get (ci := 4) (C := RX4) (T := TX4) (M := 8) hx hb hts hinX4 hown hK hG i_e0 e0 rfl 0 (by decide) hf10 rfl rfl dX4_dustOf_1 ?_
  refine g_get (ci := 3) (C := RX3) (T := TX3) (M := 9) hx hb hts hinX3 hown hK hG i_e1 e1 rfl 2 (by decide) hf117 rfl rfl dX4_dustOf_4 ?_
  refine lv_iconst (v := 2) hx hb dX4_dustOf_7 (by decide) ?_
  refine g_iald hx hb hK hG i_e4 e4 (k := 2) rfl (by omega) (by decide) dX4_dustOf_8 ?_
  refine lv_istore_n (lv' := [(2, .int (z 2)), (0, .ref (L 0)), (1, .int o)]) hx hb dX4_dustOf_9 rfl hl (by decide) rfl (fun ls hl => ?_)
  refine lv_iload_n hx hb dX4_dustOf_10 rfl (lv_at hl 0 rfl) ?_
  refine lv_if_le (tgt := 20) hx hb dX4_dustOf_11 (by decide) (fun c_11 => ?_) (fun c_11 => ?_)
  · skip
    refine lv_iconst (v := 0) hx hb dX4_dustOf_20 (by decide) ?_
    exact g_iret hx hb hr hlocks hK hG hS rfl dX4_dustOf_21 ⟨(congrArg (fun z9 => some (Value.int z9)) (by first | (simp only [c_dust, c_11, if_true, if_false, not_true_eq_false, not_false_eq_true]; done) | (simp [c_dust, c_11]; done) | rfl)), rfl⟩
  · skip
    refine lv_iload_n hx hb dX4_dustOf_14 rfl (lv_at hl 2 rfl) ?_
    refine lv_iload_n hx hb dX4_dustOf_15 rfl (lv_at hl 0 rfl) ?_
    refine lv_idiv hx hb dX4_dustOf_16 (fun h9 => c_11 (by rw [h9]; decide)) ?_
    refine lv_goto (tgt := 21) hx hb dX4_dustOf_17 (by decide) ?_
    exact g_iret hx hb hr hlocks hK hG hS rfl dX4_dustOf_21 ⟨(congrArg (fun z9 => some (Value.int z9)) (by first | (simp only [c_dust, c_11, if_true, if_false, not_true_eq_false, not_false_eq_true]; done) | (simp [c_dust, c_11]; done) | rfl)), rfl⟩
set_option maxHeartbeats 4000000 in
set_option maxRecDepth 100000 in
theorem k_X4_outInHour (l : Launch) (D : va_G) (cy : Nat → ClassId) (N : Nat) (L : Nat → Nat) (F : Nat → va_E) (b : Nat) (v : ST) (z : Nat → Int32) (hb5 : 5 ≤ b) (hb : b + 3 ≤ N) (hE : cE cy L F z)  (q : Int32) (hn : sN v ≤ 10) : GM l D cy N L yX4_outInHour wsX4_outInHour ({ frames := 1, cells := 0, slots := 0, locals := 22 }) [.ref (L 0), .ref (L b), .int q] (sW cy L F b v) (some (.int (c_outH z v q))) (sW cy L F b v) := by
  refine GM.ofW (cc := cX4_outInHour) (maxL := 3) (ret := (some .int)) (by decide) rfl (Nat.le_of_ble_eq_true rfl) ?_
  intro p e s m below meth c ls hx hb hr hts hown hlocks hml hK hA hG hS hl
  have hl : lv_has ls 3 [(0, .ref (L 0)), (1, .ref (L b)), (2, .int q)] := hl
  have i_q0_0 : b < N := by omega
  have i_q0_1 : b + 1 < N := by omega
  have i_q0_2 : b + 2 < N := by omega
  obtain ⟨⟨fs0, e0⟩, ⟨a1, a2, fs1, e1⟩, e4⟩ := id hE
  have i_e0 : 0 < N := by omega
  have i_e1 : 1 < N := by omega
  have i_e4 : 4 < N := by omega
  have hf125 := hts (.fieldLink RX4 125 "SiloPads$Silo" "layers" "I") (by decide +kernel)
  have hinX1 : ∀ w ∈ u_ws RX1 TX1 6, w ∈ wsX4_outInHour := by decide +kernel
  have hf203 := hts (.fieldLink RX4 203 "SiloPads$Silo" "ages" "[I") (by decide +kernel)
  refine lv_aload_n hx hb dX4_outInHour_0 rfl (lv_at hl 1 rfl) ?_
  refine g_get (ci := 1) (C := RX1) (T := TX1) (M := 6) hx hb hts hinX1 hown hK hG i_q0_0 sW_o rfl 2 (by decide) hf125 rfl rfl dX4_outInHour_1 ?_
  refine lv_if_ne (tgt := 9) hx hb dX4_outInHour_4 (by decide) (fun c_4 => ?_) (fun c_4 => ?_)
  · skip
    have c_4 : ¬ (sN v) = 0 := fun h9 => c_4 ((nI_eq (a := sN v) (b := 0) (by omega) (by omega)).mpr h9)
    refine lv_aload_n hx hb dX4_outInHour_9 rfl (lv_at hl 0 rfl) ?_
    refine lv_aload_n hx hb dX4_outInHour_10 rfl (lv_at hl 1 rfl) ?_
    refine g_get (ci := 1) (C := RX1) (T := TX1) (M := 6) hx hb hts hinX1 hown hK hG i_q0_0 sW_o rfl 1 (by decide) hf203 rfl rfl dX4_outInHour_11 ?_
    refine lv_iconst (v := 0) hx hb dX4_outInHour_14 (by decide) ?_
    refine g_iald hx hb hK hG i_q0_2 sW_a (k := 0) rfl (by omega) (by decide) dX4_outInHour_15 ?_
    refine g_cVi (As := [.int ((sA v) 0)]) (rest := []) hx hb hml hown hts hK hA hG hS (k_X4_hardnessAt l D cy N L _  _ (by omega) (cE_s (by omega) hE) ((sA v) 0) ) (cwV 1 hts gX4_outInHour_X4_hardnessAt rfl rfl rfl (by decide +kernel) ⟨Nat.le_of_ble_eq_true rfl, Nat.le_of_ble_eq_true rfl⟩) i_e0 (by rw [sW_n (by omega)]; exact e0) (ci := 4) rfl rfl rfl rfl hl.1 (Nat.le_of_ble_eq_true rfl) dX4_outInHour_16 ⟨Nat.zero_le _, Nat.zero_le _⟩ (fun H locs hG hS => ?_)
    by_cases c_19_0 : g_set ((sA v) 0) (z 1) = 0
    · skip
      refine lv_lookup (off := 25) (tgt := 44) hx hb dX4_outInHour_19 (by decide) (by rw [c_19_0]; decide) (by decide) ?_
      refine lv_iload_n hx hb dX4_outInHour_44 rfl (lv_at hl 2 rfl) ?_
      refine lv_if_ne (tgt := 52) hx hb dX4_outInHour_45 (by decide) (fun c_45 => ?_) (fun c_45 => ?_)
      · skip
        refine lv_bipush (v := 40) hx hb dX4_outInHour_52 (by decide) ?_
        refine lv_iload_n hx hb dX4_outInHour_54 rfl (lv_at hl 2 rfl) ?_
        refine lv_imul hx hb dX4_outInHour_55 ?_
        exact g_iret hx hb hr hlocks hK hG hS rfl dX4_outInHour_56 ⟨(congrArg (fun z9 => some (Value.int z9)) (by first | (simp only [c_outH, c_4, eq_true c_19_0, c_45, if_true, if_false, not_true_eq_false, not_false_eq_true]; done) | (simp [c_outH, c_4, eq_true c_19_0, c_45]; done) | rfl)), rfl⟩
      · skip
        refine lv_iconst (v := 5) hx hb dX4_outInHour_48 (by decide) ?_
        refine lv_goto (tgt := 56) hx hb dX4_outInHour_49 (by decide) ?_
        exact g_iret hx hb hr hlocks hK hG hS rfl dX4_outInHour_56 ⟨(congrArg (fun z9 => some (Value.int z9)) (by first | (simp only [c_outH, c_4, eq_true c_19_0, eq_true c_45, if_true, if_false, not_true_eq_false, not_false_eq_true]; done) | (simp [c_outH, c_4, eq_true c_19_0, eq_true c_45]; done) | rfl)), rfl⟩
    by_cases c_19_1 : g_set ((sA v) 0) (z 1) = 1
    · skip
      refine lv_lookup (off := 38) (tgt := 57) hx hb dX4_outInHour_19 (by decide) (by rw [c_19_1]; decide) (by decide) ?_
      refine lv_iload_n hx hb dX4_outInHour_57 rfl (lv_at hl 2 rfl) ?_
      refine lv_if_ne (tgt := 65) hx hb dX4_outInHour_58 (by decide) (fun c_58 => ?_) (fun c_58 => ?_)
      · skip
        refine lv_bipush (v := 20) hx hb dX4_outInHour_65 (by decide) ?_
        refine lv_iload_n hx hb dX4_outInHour_67 rfl (lv_at hl 2 rfl) ?_
        refine lv_iconst (v := 1) hx hb dX4_outInHour_68 (by decide) ?_
        refine lv_isub hx hb dX4_outInHour_69 ?_
        refine lv_imul hx hb dX4_outInHour_70 ?_
        exact g_iret hx hb hr hlocks hK hG hS rfl dX4_outInHour_71 ⟨(congrArg (fun z9 => some (Value.int z9)) (by first | (simp only [c_outH, c_4, c_19_0, eq_true c_19_1, c_58, if_true, if_false, not_true_eq_false, not_false_eq_true]; done) | (simp [c_outH, c_4, c_19_0, eq_true c_19_1, c_58]; done) | rfl)), rfl⟩
      · skip
        refine lv_iconst (v := 0) hx hb dX4_outInHour_61 (by decide) ?_
        refine lv_goto (tgt := 71) hx hb dX4_outInHour_62 (by decide) ?_
        exact g_iret hx hb hr hlocks hK hG hS rfl dX4_outInHour_71 ⟨(congrArg (fun z9 => some (Value.int z9)) (by first | (simp only [c_outH, c_4, c_19_0, eq_true c_19_1, eq_true c_58, if_true, if_false, not_true_eq_false, not_false_eq_true]; done) | (simp [c_outH, c_4, c_19_0, eq_true c_19_1, eq_true c_58]; done) | rfl)), rfl⟩
    refine lv_lookup (off := 53) (tgt := 72) hx hb dX4_outInHour_19 (by decide) (lk_out2 (k0 := 0) c_19_0 (k1 := 1) c_19_1) (by decide) ?_
    refine lv_iload_n hx hb dX4_outInHour_72 rfl (lv_at hl 2 rfl) ?_
    refine lv_iconst (v := 4) hx hb dX4_outInHour_73 (by decide) ?_
    refine lv_icmp_ne (tgt := 86) hx hb dX4_outInHour_74 (by decide) (fun c_74 => ?_) (fun c_74 => ?_)
    · skip
      refine lv_iconst (v := 0) hx hb dX4_outInHour_86 (by decide) ?_
      exact g_iret hx hb hr hlocks hK hG hS rfl dX4_outInHour_87 ⟨(congrArg (fun z9 => some (Value.int z9)) (by first | (simp only [c_outH, c_4, c_19_0, c_19_1, c_74, if_true, if_false, not_true_eq_false, not_false_eq_true]; done) | (simp [c_outH, c_4, c_19_0, c_19_1, c_74]; done) | rfl)), rfl⟩
    · skip
      refine lv_bipush (v := 10) hx hb dX4_outInHour_77 (by decide) ?_
      refine lv_iload_n hx hb dX4_outInHour_79 rfl (lv_at hl 2 rfl) ?_
      refine lv_iconst (v := 3) hx hb dX4_outInHour_80 (by decide) ?_
      refine lv_isub hx hb dX4_outInHour_81 ?_
      refine lv_imul hx hb dX4_outInHour_82 ?_
      refine lv_goto (tgt := 87) hx hb dX4_outInHour_83 (by decide) ?_
      exact g_iret hx hb hr hlocks hK hG hS rfl dX4_outInHour_87 ⟨(congrArg (fun z9 => some (Value.int z9)) (by first | (simp only [c_outH, c_4, c_19_0, c_19_1, eq_true c_74, if_true, if_false, not_true_eq_false, not_false_eq_true]; done) | (simp [c_outH, c_4, c_19_0, c_19_1, eq_true c_74]; done) | rfl)), rfl⟩
  · skip
    have c_4 : (sN v) = 0 := (nI_eq (a := sN v) (b := 0) (by omega) (by omega)).mp c_4
    refine lv_iconst (v := 0) hx hb dX4_outInHour_7 (by decide) ?_
    exact g_iret hx hb hr hlocks hK hG hS rfl dX4_outInHour_8 ⟨(congrArg (fun z9 => some (Value.int z9)) (by first | (simp only [c_outH, eq_true c_4, if_true, if_false, not_true_eq_false, not_false_eq_true]; done) | (simp [c_outH, eq_true c_4]; done) | rfl)), rfl⟩
set_option maxHeartbeats 4000000 in
set_option maxRecDepth 100000 in
theorem k_X4_pourForHour (l : Launch) (D : va_G) (cy : Nat → ClassId) (N : Nat) (L : Nat → Nat) (F : Nat → va_E) (b : Nat) (v : ST) (b2 : Nat) (h : HT) (z : Nat → Int32) (hb5 : 5 ≤ b) (hb : b + 3 ≤ N) (hb25 : 5 ≤ b2) (hb2 : b2 < N) (hd : b2 < b ∨ b + 3 ≤ b2) (hE : cE cy L F z)   (hn : sN v ≤ 10) : GM l D cy N L yX4_pourForHour wsX4_pourForHour ({ frames := 2, cells := 0, slots := 0, locals := 44 }) [.ref (L 0), .ref (L b), .ref (L b2)] (hW (sW cy L F b v) b2 h) (some (.int (c_hourR z v h))) (hW (sW cy L F b (c_hourV z v h)) b2 (c_hourH z v h)) := by
  refine GM.ofW (cc := cX4_pourForHour) (maxL := 5) (ret := (some .int)) (by decide) rfl (Nat.le_of_ble_eq_true rfl) ?_
  intro p e s m below meth c ls hx hb hr hts hown hlocks hml hK hA hG hS hl
  have hl : lv_has ls 5 [(0, .ref (L 0)), (1, .ref (L b)), (2, .ref (L b2))] := hl
  have i_q0_0 : b < N := by omega
  have i_q0_1 : b + 1 < N := by omega
  have i_q0_2 : b + 2 < N := by omega
  have i_q1_0 : b2 < N := by omega
  obtain ⟨⟨fs0, e0⟩, ⟨a1, a2, fs1, e1⟩, e4⟩ := id hE
  have i_e0 : 0 < N := by omega
  have i_e1 : 1 < N := by omega
  have i_e4 : 4 < N := by omega
  have hf125 := hts (.fieldLink RX4 125 "SiloPads$Silo" "layers" "I") (by decide +kernel)
  have hinX1 : ∀ w ∈ u_ws RX1 TX1 6, w ∈ wsX4_pourForHour := by decide +kernel
  have hf141 := hts (.fieldLink RX4 141 "SiloPads$Silo" "arch" "I") (by decide +kernel)
  have hf111 := hts (.fieldLink RX4 111 "SiloPads$Silo" "padsOn" "I") (by decide +kernel)
  have hf201 := hts (.fieldLink RX4 201 "SiloPads$Silo" "tonnes" "[I") (by decide +kernel)
  have hm257 := hts (.methodLink RX4 257 Lib.Math.min.name) (by decide +kernel)
  have hmsmin := hts (.static Lib.Math.min.name) (by decide +kernel)
  have hmcmin := hts (.code Lib.Math.min.name Lib.Math.min.code 2 (some .int)) (by decide +kernel)
  have hmi := hts (.initialized "java/lang/Math") (by decide +kernel)
  have hf75 := hts (.fieldLink RX4 75 "SiloPads$Ship" "tonnes" "I") (by decide +kernel)
  have hinX0 : ∀ w ∈ u_ws RX0 TX0 2, w ∈ wsX4_pourForHour := by decide +kernel
  refine lv_aload_n hx hb dX4_pourForHour_0 rfl (lv_at hl 1 rfl) ?_
  refine g_get (ci := 1) (C := RX1) (T := TX1) (M := 6) hx hb hts hinX1 hown hK hG i_q0_0 (by rw [hW_n (by omega)]; exact sW_o) rfl 2 (by decide) hf125 rfl rfl dX4_pourForHour_1 ?_
  refine lv_if_eq (tgt := 15) hx hb dX4_pourForHour_4 (by decide) (fun c_4 => ?_) (fun c_4 => ?_)
  · skip
    have c_4 : (sN v) = 0 := (nI_eq (a := sN v) (b := 0) (by omega) (by omega)).mp c_4
    refine lv_iconst (v := 0) hx hb dX4_pourForHour_15 (by decide) ?_
    exact g_iret hx hb hr hlocks hK hG hS rfl dX4_pourForHour_16 ⟨(congrArg (fun z9 => some (Value.int z9)) (by simp only [c_hourR, eq_true c_4, if_true, if_false])), (by first | (simp only [c_hourV, c_hourH, eq_true c_4, if_true, if_false]; done) | (simp only [c_hourV, c_hourH, eq_true c_4, if_true, if_false]; rfl))⟩
  · skip
    have c_4 : ¬ (sN v) = 0 := fun h9 => c_4 ((nI_eq (a := sN v) (b := 0) (by omega) (by omega)).mpr h9)
    refine lv_aload_n hx hb dX4_pourForHour_7 rfl (lv_at hl 1 rfl) ?_
    refine g_get (ci := 1) (C := RX1) (T := TX1) (M := 6) hx hb hts hinX1 hown hK hG i_q0_0 (by rw [hW_n (by omega)]; exact sW_o) rfl 4 (by decide) hf141 rfl rfl dX4_pourForHour_8 ?_
    refine lv_iconst (v := 2) hx hb dX4_pourForHour_11 (by decide) ?_
    refine lv_icmp_ne (tgt := 17) hx hb dX4_pourForHour_12 (by decide) (fun c_12 => ?_) (fun c_12 => ?_)
    · skip
      refine lv_aload_n hx hb dX4_pourForHour_17 rfl (lv_at hl 0 rfl) ?_
      refine lv_aload_n hx hb dX4_pourForHour_18 rfl (lv_at hl 1 rfl) ?_
      refine lv_aload_n hx hb dX4_pourForHour_19 rfl (lv_at hl 1 rfl) ?_
      refine g_get (ci := 1) (C := RX1) (T := TX1) (M := 6) hx hb hts hinX1 hown hK hG i_q0_0 (by rw [hW_n (by omega)]; exact sW_o) rfl 3 (by decide) hf111 rfl rfl dX4_pourForHour_20 ?_
      have hG := hG.to (hs_comm (by omega))
      refine g_cVi (As := [.ref (L b), .int (sP v)]) (rest := []) hx hb hml hown hts hK hA hG hS (k_X4_outInHour l D cy N L _ _ _ _ (by omega) (by omega) (cE_h (by omega) hE) (sP v) (hn)) (cwV 2 hts gX4_pourForHour_X4_outInHour rfl rfl rfl (by decide +kernel) ⟨Nat.le_of_ble_eq_true rfl, Nat.le_of_ble_eq_true rfl⟩) i_e0 (by rw [sW_n (by omega), hW_n (by omega)]; exact e0) (ci := 4) rfl rfl rfl rfl hl.1 (Nat.le_of_ble_eq_true rfl) dX4_pourForHour_23 ⟨Nat.zero_le _, Nat.zero_le _⟩ (fun H locs hG hS => ?_)
      have hG := hG.to (hs_comm (by omega)).symm
      refine lv_aload_n hx hb dX4_pourForHour_26 rfl (lv_at hl 1 rfl) ?_
      refine g_get (ci := 1) (C := RX1) (T := TX1) (M := 6) hx hb hts hinX1 hown hK hG i_q0_0 (by rw [hW_n (by omega)]; exact sW_o) rfl 0 (by decide) hf201 rfl rfl dX4_pourForHour_27 ?_
      refine lv_iconst (v := 0) hx hb dX4_pourForHour_30 (by decide) ?_
      refine g_iald hx hb hK hG i_q0_1 (by rw [hW_n (by omega)]; exact sW_t) (k := 0) rfl (by omega) (by decide) dX4_pourForHour_31 ?_
      refine lv_aload_n hx hb dX4_pourForHour_32 rfl (lv_at hl 2 rfl) ?_
      refine g_cVi (As := []) (rest := [.int ((sT v) 0), .int (c_outH z v (sP v))]) hx hb hml hown hts hK hA hG hS (k_X0_room l D cy N L _ _ _ (by omega)  ) (cwV 0 hts gX4_pourForHour_X0_room rfl rfl rfl (by decide +kernel) ⟨Nat.le_of_ble_eq_true rfl, Nat.le_of_ble_eq_true rfl⟩) i_q1_0 hW_o (ci := 0) rfl rfl rfl rfl hl.1 (Nat.le_of_ble_eq_true rfl) dX4_pourForHour_33 ⟨Nat.zero_le _, Nat.zero_le _⟩ (fun H locs hG hS => ?_)
      refine va_mmin hx hb (hml.trans hl.1.symm) hown hm257 hmsmin hmi hmcmin (Nat.le_of_ble_eq_true rfl) (Nat.le_of_ble_eq_true rfl) (Nat.zero_le _) (Nat.zero_le _) dX4_pourForHour_36 ?_
      refine va_mmin hx hb (hml.trans hl.1.symm) hown hm257 hmsmin hmi hmcmin (Nat.le_of_ble_eq_true rfl) (Nat.le_of_ble_eq_true rfl) (Nat.zero_le _) (Nat.zero_le _) dX4_pourForHour_39 ?_
      refine lv_toI (y := c_out z v h) (by unfold c_out s_min; rfl) ?_
      refine lv_istore_n (lv' := [(3, .int (c_out z v h)), (0, .ref (L 0)), (1, .ref (L b)), (2, .ref (L b2))]) hx hb dX4_pourForHour_42 rfl hl (by decide) rfl (fun ls hl => ?_)
      refine lv_iload_n hx hb dX4_pourForHour_43 rfl (lv_at hl 0 rfl) ?_
      refine lv_aload_n hx hb dX4_pourForHour_44 rfl (lv_at hl 1 rfl) ?_
      refine lv_iload_n hx hb dX4_pourForHour_45 rfl (lv_at hl 0 rfl) ?_
      refine g_cVi (As := [.int (c_out z v h)]) (rest := [.int (c_out z v h)]) hx hb hml hown hts hK hA hG hS (k_X4_dustOf l D cy N L _  _ (by omega) (cE_h (by omega) (cE_s (by omega) hE)) (c_out z v h) ) (cwV 1 hts gX4_pourForHour_X4_dustOf rfl rfl rfl (by decide +kernel) ⟨Nat.le_of_ble_eq_true rfl, Nat.le_of_ble_eq_true rfl⟩) i_e0 (by rw [hW_n (by omega), sW_n (by omega)]; exact e0) (ci := 4) rfl rfl rfl rfl hl.1 (Nat.le_of_ble_eq_true rfl) dX4_pourForHour_46 ⟨Nat.zero_le _, Nat.zero_le _⟩ (fun H locs hG hS => ?_)
      refine lv_isub hx hb dX4_pourForHour_49 ?_
      refine lv_istore (lv' := [(4, .int ((c_out z v h) - (c_dust z (c_out z v h)))), (3, .int (c_out z v h)), (0, .ref (L 0)), (1, .ref (L b)), (2, .ref (L b2))]) hx hb dX4_pourForHour_50 hl (by decide) rfl (fun ls hl => ?_)
      refine lv_aload_n hx hb dX4_pourForHour_52 rfl (lv_at hl 3 rfl) ?_
      refine lv_iload_n hx hb dX4_pourForHour_53 rfl (lv_at hl 1 rfl) ?_
      have hG := hG.to (hs_comm (by omega))
      refine g_cVv (As := [.int (c_out z v h)]) (rest := []) hx hb hml hown hts hK hA hG hS (k_X1_takeFromLowest l D cy N L _ _ _ (by omega) (c_out z v h) (hn) (by omega)) (cwV 1 hts gX4_pourForHour_X1_takeFromLowest rfl rfl rfl (by decide +kernel) ⟨Nat.le_of_ble_eq_true rfl, Nat.le_of_ble_eq_true rfl⟩) i_q0_0 sW_o (ci := 1) rfl rfl rfl rfl hl.1 (Nat.le_of_ble_eq_true rfl) dX4_pourForHour_54 ⟨Nat.zero_le _, Nat.zero_le _⟩ (fun H locs hG hS => ?_)
      have hG := hG.to (hs_comm (by omega)).symm
      refine lv_aload_n hx hb dX4_pourForHour_57 rfl (lv_at hl 4 rfl) ?_
      refine lv_dup hx hb dX4_pourForHour_58 rfl ?_
      refine g_get (ci := 0) (C := RX0) (T := TX0) (M := 2) hx hb hts hinX0 hown hK hG i_q1_0 hW_o rfl 0 (by decide) hf75 rfl rfl dX4_pourForHour_59 ?_
      refine lv_iload hx hb dX4_pourForHour_62 (lv_at hl 0 rfl) ?_
      refine lv_iadd hx hb dX4_pourForHour_64 ?_
      refine g_put (ci := 0) (C := RX0) (T := TX0) (M := 2) (ty := .int) hx hb hts hinX0 tyX0 tyX0_ok nmX0 hown hK hG hS i_q1_0 hW_o rfl 0 (by decide) hf75 rfl rfl rfl rfl rfl (Nat.le_of_ble_eq_true rfl) dX4_pourForHour_65 rfl (fun H locs hG hS => ?_)
      have hG : GW D N L (gA N L s.heap.size) (hW (sW cy L F b (s_take v (c_out z v h))) b2 ((hT h) + ((c_out z v h) - (c_dust z (c_out z v h))), hH h)) H := hG.to hW_uo
      refine lv_iload hx hb dX4_pourForHour_68 (lv_at hl 0 rfl) ?_
      exact g_iret hx hb hr hlocks hK hG hS rfl dX4_pourForHour_70 ⟨(congrArg (fun z9 => some (Value.int z9)) (by simp only [c_hourR, c_4, c_12, if_true, if_false])), (by first | (simp only [c_hourV, c_hourH, c_4, c_12, if_true, if_false]; done) | (simp only [c_hourV, c_hourH, c_4, c_12, if_true, if_false]; rfl))⟩
    · skip
      refine lv_iconst (v := 0) hx hb dX4_pourForHour_15 (by decide) ?_
      exact g_iret hx hb hr hlocks hK hG hS rfl dX4_pourForHour_16 ⟨(congrArg (fun z9 => some (Value.int z9)) (by simp only [c_hourR, c_4, eq_true c_12, if_true, if_false])), (by first | (simp only [c_hourV, c_hourH, c_4, eq_true c_12, if_true, if_false]; done) | (simp only [c_hourV, c_hourH, c_4, eq_true c_12, if_true, if_false]; rfl))⟩
set_option maxHeartbeats 4000000 in
set_option maxRecDepth 100000 in
theorem k_X4_pour (l : Launch) (D : va_G) (cy : Nat → ClassId) (N : Nat) (L : Nat → Nat) (F : Nat → va_E) (b : Nat) (v : ST) (b2 : Nat) (h : HT) (z : Nat → Int32) (hb5 : 5 ≤ b) (hb : b + 3 ≤ N) (hb25 : 5 ≤ b2) (hb2 : b2 < N) (hd : b2 < b ∨ b + 3 ≤ b2) (hE : cE cy L F z)  (q : Nat) (hn : sN v ≤ 10) (hq : q < 1000) : GM l D cy N L yX4_pour wsX4_pour ({ frames := 3, cells := 0, slots := 0, locals := 68 }) [.ref (L 0), .ref (L b), .ref (L b2), .int (nI q)] (hW (sW cy L F b v) b2 h) (some (.int (c_poR z v h q))) (hW (sW cy L F b ((c_poS z v h q).1)) b2 ((c_poS z v h q).2)) := by
  refine GM.ofW (cc := cX4_pour) (maxL := 6) (ret := (some .int)) (by decide) rfl (Nat.le_of_ble_eq_true rfl) ?_
  intro p e s m below meth c ls hx hb hr hts hown hlocks hml hK hA hG hS hl
  have hl : lv_has ls 6 [(0, .ref (L 0)), (1, .ref (L b)), (2, .ref (L b2)), (3, .int (nI q))] := hl
  have i_q0_0 : b < N := by omega
  have i_q0_1 : b + 1 < N := by omega
  have i_q0_2 : b + 2 < N := by omega
  have i_q1_0 : b2 < N := by omega
  obtain ⟨⟨fs0, e0⟩, ⟨a1, a2, fs1, e1⟩, e4⟩ := id hE
  have i_e0 : 0 < N := by omega
  have i_e1 : 1 < N := by omega
  have i_e4 : 4 < N := by omega
  refine lv_iconst (v := 0) hx hb dX4_pour_0 (by decide) ?_
  refine lv_istore (lv' := [(4, .int 0), (0, .ref (L 0)), (1, .ref (L b)), (2, .ref (L b2)), (3, .int (nI q))]) hx hb dX4_pour_1 hl (by decide) rfl (fun ls hl => ?_)
  refine lv_iconst (v := 0) hx hb dX4_pour_3 (by decide) ?_
  refine lv_istore (lv' := [(5, .int 0), (4, .int 0), (0, .ref (L 0)), (1, .ref (L b)), (2, .ref (L b2)), (3, .int (nI q))]) hx hb dX4_pour_4 hl (by decide) rfl (fun ls hl => ?_)
  refine W.loop (σ := Nat) (fun i H locs ls => (i ≤ q) ∧ GW D N L (gA N L s.heap.size) (hW (sW cy L F b ((c_poS z v h i).1)) b2 ((c_poS z v h i).2)) H ∧ va_S (gA N L s.heap.size) s.heap H locs ∧ lv_has ls 6 [(4, .int (c_poR z v h i)), (5, .int (nI i)), (0, .ref (L 0)), (1, .ref (L b)), (2, .ref (L b2)), (3, .int (nI q))]) (fun i => q - i) 0 ⟨by omega, hG.to (rfl), hS, lv_to (lv_sub hl [1, 0, 2, 3, 4, 5] rfl) (rfl)⟩ ?_
  intro i H locs ls hP9 ih6
  obtain ⟨hi9, hG, hS, hl⟩ := hP9
  have hn9 := c_po_N (z := z) (h := h) hn i
  refine lv_iload hx hb dX4_pour_6 (lv_at hl 1 rfl) ?_
  refine lv_iload_n hx hb dX4_pour_8 rfl (lv_at hl 5 rfl) ?_
  refine lv_icmp_ge (tgt := 29) hx hb dX4_pour_9 (by decide) (fun c_9 => ?_) (fun c_9 => ?_)
  · skip
    have c_9 : q ≤ i := (nI_leI (a := q) (b := i) (by omega) (by omega)).mp c_9
    refine lv_iload hx hb dX4_pour_29 (lv_at hl 0 rfl) ?_
    exact g_iret hx hb hr hlocks hK hG hS rfl dX4_pour_31 ⟨(congrArg (fun z9 => some (Value.int z9)) (by rw [show i = q by omega])), (by rw [show i = q by omega])⟩
  · skip
    have c_9 : ¬ q ≤ i := fun h9 => c_9 ((nI_leI (a := q) (b := i) (by omega) (by omega)).mpr h9)
    refine lv_iload hx hb dX4_pour_12 (lv_at hl 0 rfl) ?_
    refine lv_aload_n hx hb dX4_pour_14 rfl (lv_at hl 2 rfl) ?_
    refine lv_aload_n hx hb dX4_pour_15 rfl (lv_at hl 3 rfl) ?_
    refine lv_aload_n hx hb dX4_pour_16 rfl (lv_at hl 4 rfl) ?_
    refine g_cVi (As := [.ref (L b), .ref (L b2)]) (rest := [.int (c_poR z v h i)]) hx hb hml hown hts hK hA hG hS (k_X4_pourForHour l D cy N L _ _ _ _ _ _ (by omega) (by omega) (by omega) (by omega) (by omega) hE  (hn9)) (cwV 2 hts gX4_pour_X4_pourForHour rfl rfl rfl (by decide +kernel) ⟨Nat.le_of_ble_eq_true rfl, Nat.le_of_ble_eq_true rfl⟩) i_e0 (by rw [hW_n (by omega), sW_n (by omega)]; exact e0) (ci := 4) rfl rfl rfl rfl hl.1 (Nat.le_of_ble_eq_true rfl) dX4_pour_17 ⟨Nat.zero_le _, Nat.zero_le _⟩ (fun H locs hG hS => ?_)
    refine lv_iadd hx hb dX4_pour_20 ?_
    refine lv_istore (lv' := [(4, .int ((c_poR z v h i) + (c_hourR z ((c_poS z v h i).1) ((c_poS z v h i).2)))), (5, .int (nI i)), (0, .ref (L 0)), (1, .ref (L b)), (2, .ref (L b2)), (3, .int (nI q))]) hx hb dX4_pour_21 hl (by decide) rfl (fun ls hl => ?_)
    refine lv_iinc (v := nI (i + 1)) (lv' := [(5, .int (nI (i + 1))), (4, .int ((c_poR z v h i) + (c_hourR z ((c_poS z v h i).1) ((c_poS z v h i).2)))), (0, .ref (L 0)), (1, .ref (L b)), (2, .ref (L b2)), (3, .int (nI q))]) hx hb dX4_pour_23 hl (k := 1) rfl (nI_add i 1) (by decide) rfl (fun ls hl => ?_)
    refine lv_goto (tgt := 6) hx hb dX4_pour_26 (by decide) ?_
    have hl : lv_has ls 6 [(4, .int ((c_poR z v h i) + (c_hourR z ((c_poS z v h i).1) ((c_poS z v h i).2)))), (5, .int (nI (i + 1))), (0, .ref (L 0)), (1, .ref (L b)), (2, .ref (L b2)), (3, .int (nI q))] := lv_sub hl [1, 0, 2, 3, 4, 5] rfl
    exact ih6 (i + 1) _ _ _ (by omega) ⟨by omega, hG.to (rfl), hS, lv_to hl (rfl)⟩
set_option maxHeartbeats 4000000 in
set_option maxRecDepth 100000 in
theorem k_X4_bringIn (l : Launch) (D : va_G) (cy : Nat → ClassId) (N : Nat) (L : Nat → Nat) (F : Nat → va_E) (b : Nat) (v : ST) (b2 : Nat) (h : HT) (z : Nat → Int32) (hb5 : 5 ≤ b) (hb : b + 3 ≤ N) (hb25 : 5 ≤ b2) (hb2 : b2 < N) (hd : b2 < b ∨ b + 3 ≤ b2) (hE : cE cy L F z)  (t : Int32) (hn : sN v ≤ 10) : GM l D cy N L yX4_bringIn wsX4_bringIn ({ frames := 3, cells := 0, slots := 0, locals := 64 }) [.ref (L 0), .ref (L b), .ref (L b2), .int t] (hW (sW cy L F b v) b2 h) (some (.int (c_brR v h t))) (hW (sW cy L F b (s_fill v (c_brR v h t))) b2 (hT h - c_brR v h t, hH h)) := by
  refine GM.ofW (cc := cX4_bringIn) (maxL := 5) (ret := (some .int)) (by decide) rfl (Nat.le_of_ble_eq_true rfl) ?_
  intro p e s m below meth c ls hx hb hr hts hown hlocks hml hK hA hG hS hl
  have hl : lv_has ls 5 [(0, .ref (L 0)), (1, .ref (L b)), (2, .ref (L b2)), (3, .int t)] := hl
  have i_q0_0 : b < N := by omega
  have i_q0_1 : b + 1 < N := by omega
  have i_q0_2 : b + 2 < N := by omega
  have i_q1_0 : b2 < N := by omega
  obtain ⟨⟨fs0, e0⟩, ⟨a1, a2, fs1, e1⟩, e4⟩ := id hE
  have i_e0 : 0 < N := by omega
  have i_e1 : 1 < N := by omega
  have i_e4 : 4 < N := by omega
  have hf75 := hts (.fieldLink RX4 75 "SiloPads$Ship" "tonnes" "I") (by decide +kernel)
  have hinX0 : ∀ w ∈ u_ws RX0 TX0 2, w ∈ wsX4_bringIn := by decide +kernel
  have hm257 := hts (.methodLink RX4 257 Lib.Math.min.name) (by decide +kernel)
  have hmsmin := hts (.static Lib.Math.min.name) (by decide +kernel)
  have hmcmin := hts (.code Lib.Math.min.name Lib.Math.min.code 2 (some .int)) (by decide +kernel)
  have hmi := hts (.initialized "java/lang/Math") (by decide +kernel)
  refine lv_iload_n hx hb dX4_bringIn_0 rfl (lv_at hl 3 rfl) ?_
  refine lv_aload_n hx hb dX4_bringIn_1 rfl (lv_at hl 2 rfl) ?_
  refine g_get (ci := 0) (C := RX0) (T := TX0) (M := 2) hx hb hts hinX0 hown hK hG i_q1_0 hW_o rfl 0 (by decide) hf75 rfl rfl dX4_bringIn_2 ?_
  refine lv_aload_n hx hb dX4_bringIn_5 rfl (lv_at hl 1 rfl) ?_
  have hG := hG.to (hs_comm (by omega))
  refine g_cVi (As := []) (rest := [.int (hT h), .int t]) hx hb hml hown hts hK hA hG hS (k_X1_place l D cy N L _ _ _ (by omega)  (hn)) (cwV 0 hts gX4_bringIn_X1_place rfl rfl rfl (by decide +kernel) ⟨Nat.le_of_ble_eq_true rfl, Nat.le_of_ble_eq_true rfl⟩) i_q0_0 sW_o (ci := 1) rfl rfl rfl rfl hl.1 (Nat.le_of_ble_eq_true rfl) dX4_bringIn_6 ⟨Nat.zero_le _, Nat.zero_le _⟩ (fun H locs hG hS => ?_)
  have hG := hG.to (hs_comm (by omega)).symm
  refine va_mmin hx hb (hml.trans hl.1.symm) hown hm257 hmsmin hmi hmcmin (Nat.le_of_ble_eq_true rfl) (Nat.le_of_ble_eq_true rfl) (Nat.zero_le _) (Nat.zero_le _) dX4_bringIn_9 ?_
  refine va_mmin hx hb (hml.trans hl.1.symm) hown hm257 hmsmin hmi hmcmin (Nat.le_of_ble_eq_true rfl) (Nat.le_of_ble_eq_true rfl) (Nat.zero_le _) (Nat.zero_le _) dX4_bringIn_12 ?_
  refine lv_toI (y := c_brR v h t) (by unfold c_brR s_min; rfl) ?_
  refine lv_istore (lv' := [(4, .int (c_brR v h t)), (0, .ref (L 0)), (1, .ref (L b)), (2, .ref (L b2)), (3, .int t)]) hx hb dX4_bringIn_15 hl (by decide) rfl (fun ls hl => ?_)
  refine lv_aload_n hx hb dX4_bringIn_17 rfl (lv_at hl 3 rfl) ?_
  refine lv_dup hx hb dX4_bringIn_18 rfl ?_
  refine g_get (ci := 0) (C := RX0) (T := TX0) (M := 2) hx hb hts hinX0 hown hK hG i_q1_0 hW_o rfl 0 (by decide) hf75 rfl rfl dX4_bringIn_19 ?_
  refine lv_iload hx hb dX4_bringIn_22 (lv_at hl 0 rfl) ?_
  refine lv_isub hx hb dX4_bringIn_24 ?_
  refine g_put (ci := 0) (C := RX0) (T := TX0) (M := 2) (ty := .int) hx hb hts hinX0 tyX0 tyX0_ok nmX0 hown hK hG hS i_q1_0 hW_o rfl 0 (by decide) hf75 rfl rfl rfl rfl rfl (Nat.le_of_ble_eq_true rfl) dX4_bringIn_25 rfl (fun H locs hG hS => ?_)
  have hG : GW D N L (gA N L s.heap.size) (hW (sW cy L F b v) b2 ((hT h) - (c_brR v h t), hH h)) H := hG.to hW_uo
  refine lv_aload_n hx hb dX4_bringIn_28 rfl (lv_at hl 2 rfl) ?_
  refine lv_iload hx hb dX4_bringIn_29 (lv_at hl 0 rfl) ?_
  have hG := hG.to (hs_comm (by omega))
  refine g_cVv (As := [.int (c_brR v h t)]) (rest := []) hx hb hml hown hts hK hA hG hS (k_X1_fill l D cy N L _ _ _ (by omega) (c_brR v h t) (hn)) (cwV 1 hts gX4_bringIn_X1_fill rfl rfl rfl (by decide +kernel) ⟨Nat.le_of_ble_eq_true rfl, Nat.le_of_ble_eq_true rfl⟩) i_q0_0 sW_o (ci := 1) rfl rfl rfl rfl hl.1 (Nat.le_of_ble_eq_true rfl) dX4_bringIn_31 ⟨Nat.zero_le _, Nat.zero_le _⟩ (fun H locs hG hS => ?_)
  have hG := hG.to (hs_comm (by omega)).symm
  refine lv_iload hx hb dX4_bringIn_34 (lv_at hl 0 rfl) ?_
  exact g_iret hx hb hr hlocks hK hG hS rfl dX4_bringIn_36 ⟨rfl, (by rfl)⟩
set_option maxHeartbeats 4000000 in
set_option maxRecDepth 100000 in
theorem k_X4_shakesToBreak (l : Launch) (D : va_G) (cy : Nat → ClassId) (N : Nat) (L : Nat → Nat) (F : Nat → va_E) (b : Nat) (v : ST) (z : Nat → Int32) (hb5 : 5 ≤ b) (hb : b + 3 ≤ N) (hE : cE cy L F z)   (hn : sN v ≤ 10) (hn1 : 1 ≤ sN v ∨ sC v = 2 ∨ sC v = 0) : GM l D cy N L yX4_shakesToBreak wsX4_shakesToBreak ({ frames := 2, cells := 0, slots := 0, locals := 43 }) [.ref (L 0), .ref (L b)] (sW cy L F b v) (some (.int (c_brk z v))) (sW cy L F b v) := by
  refine GM.ofW (cc := cX4_shakesToBreak) (maxL := 2) (ret := (some .int)) (by decide) rfl (Nat.le_of_ble_eq_true rfl) ?_
  intro p e s m below meth c ls hx hb hr hts hown hlocks hml hK hA hG hS hl
  have hl : lv_has ls 2 [(0, .ref (L 0)), (1, .ref (L b))] := hl
  have i_q0_0 : b < N := by omega
  have i_q0_1 : b + 1 < N := by omega
  have i_q0_2 : b + 2 < N := by omega
  obtain ⟨⟨fs0, e0⟩, ⟨a1, a2, fs1, e1⟩, e4⟩ := id hE
  have i_e0 : 0 < N := by omega
  have i_e1 : 1 < N := by omega
  have i_e4 : 4 < N := by omega
  have hf141 := hts (.fieldLink RX4 141 "SiloPads$Silo" "arch" "I") (by decide +kernel)
  have hinX1 : ∀ w ∈ u_ws RX1 TX1 6, w ∈ wsX4_shakesToBreak := by decide +kernel
  have hf10 := hts (.fieldLink RX4 10 "SiloPads" "now" "LSiloPads$Yard;") (by decide +kernel)
  have hinX4 : ∀ w ∈ u_ws RX4 TX4 8, w ∈ wsX4_shakesToBreak := by decide +kernel
  have hf117 := hts (.fieldLink RX4 117 "SiloPads$Yard" "settings" "[I") (by decide +kernel)
  have hinX3 : ∀ w ∈ u_ws RX3 TX3 9, w ∈ wsX4_shakesToBreak := by decide +kernel
  have hf134 := hts (.fieldLink RX4 134 "SiloPads$Silo" "shakes" "I") (by decide +kernel)
  have hm317 := hts (.methodLink RX4 317 Lib.Math.max.name) (by decide +kernel)
  have hmsmax := hts (.static Lib.Math.max.name) (by decide +kernel)
  have hmcmax := hts (.code Lib.Math.max.name Lib.Math.max.code 2 (some .int)) (by decide +kernel)
  have hmi := hts (.initialized "java/lang/Math") (by decide +kernel)
  refine lv_aload_n hx hb dX4_shakesToBreak_0 rfl (lv_at hl 1 rfl) ?_
  refine g_get (ci := 1) (C := RX1) (T := TX1) (M := 6) hx hb hts hinX1 hown hK hG i_q0_0 sW_o rfl 4 (by decide) hf141 rfl rfl dX4_shakesToBreak_1 ?_
  refine lv_if_ne (tgt := 9) hx hb dX4_shakesToBreak_4 (by decide) (fun c_4 => ?_) (fun c_4 => ?_)
  · skip
    refine lv_aload_n hx hb dX4_shakesToBreak_9 rfl (lv_at hl 1 rfl) ?_
    refine g_cVi (As := []) (rest := []) hx hb hml hown hts hK hA hG hS (k_X1_tonnesHeld l D cy N L _ _ _ (by omega)  (hn) (by rcases hn1 with h9 | h9 | h9 <;> first | exact Or.inl h9 | exact Or.inr h9 | exact absurd h9 c_4)) (cwV 0 hts gX4_shakesToBreak_X1_tonnesHeld rfl rfl rfl (by decide +kernel) ⟨Nat.le_of_ble_eq_true rfl, Nat.le_of_ble_eq_true rfl⟩) i_q0_0 sW_o (ci := 1) rfl rfl rfl rfl hl.1 (Nat.le_of_ble_eq_true rfl) dX4_shakesToBreak_10 ⟨Nat.zero_le _, Nat.zero_le _⟩ (fun H locs hG hS => ?_)
    refine lv_aload_n hx hb dX4_shakesToBreak_13 rfl (lv_at hl 0 rfl) ?_
    refine g_get (ci := 4) (C := RX4) (T := TX4) (M := 8) hx hb hts hinX4 hown hK hG i_e0 (by rw [sW_n (by omega)]; exact e0) rfl 0 (by decide) hf10 rfl rfl dX4_shakesToBreak_14 ?_
    refine g_get (ci := 3) (C := RX3) (T := TX3) (M := 9) hx hb hts hinX3 hown hK hG i_e1 (by rw [sW_n (by omega)]; exact e1) rfl 2 (by decide) hf117 rfl rfl dX4_shakesToBreak_17 ?_
    refine lv_iconst (v := 3) hx hb dX4_shakesToBreak_20 (by decide) ?_
    refine g_iald hx hb hK hG i_e4 (by rw [sW_n (by omega)]; exact e4) (k := 3) rfl (by omega) (by decide) dX4_shakesToBreak_21 ?_
    refine lv_icmp_lt (tgt := 27) hx hb dX4_shakesToBreak_22 (by decide) (fun c_22 => ?_) (fun c_22 => ?_)
    · skip
      refine lv_iconst (v := 1) hx hb dX4_shakesToBreak_27 (by decide) ?_
      refine lv_iconst (v := 3) hx hb dX4_shakesToBreak_28 (by decide) ?_
      refine lv_aload_n hx hb dX4_shakesToBreak_29 rfl (lv_at hl 1 rfl) ?_
      refine g_get (ci := 1) (C := RX1) (T := TX1) (M := 6) hx hb hts hinX1 hown hK hG i_q0_0 sW_o rfl 5 (by decide) hf134 rfl rfl dX4_shakesToBreak_30 ?_
      refine lv_isub hx hb dX4_shakesToBreak_33 ?_
      refine va_mmax hx hb (hml.trans hl.1.symm) hown hm317 hmsmax hmi hmcmax (Nat.le_of_ble_eq_true rfl) (Nat.le_of_ble_eq_true rfl) (Nat.zero_le _) (Nat.zero_le _) dX4_shakesToBreak_34 ?_
      exact g_iret hx hb hr hlocks hK hG hS rfl dX4_shakesToBreak_37 ⟨(congrArg (fun z9 => some (Value.int z9)) (by first | (simp only [c_brk, c_4, c_22, if_true, if_false, not_true_eq_false, not_false_eq_true]; done) | (simp [c_brk, c_4, c_22]; done) | rfl)), rfl⟩
    · skip
      refine lv_iconst (v := 1) hx hb dX4_shakesToBreak_25 (by decide) ?_
      exact g_iret hx hb hr hlocks hK hG hS rfl dX4_shakesToBreak_26 ⟨(congrArg (fun z9 => some (Value.int z9)) (by first | (simp only [c_brk, c_4, c_22, if_true, if_false, not_true_eq_false, not_false_eq_true]; done) | (simp [c_brk, c_4, c_22]; done) | rfl)), rfl⟩
  · skip
    refine lv_iconst (v := 0) hx hb dX4_shakesToBreak_7 (by decide) ?_
    exact g_iret hx hb hr hlocks hK hG hS rfl dX4_shakesToBreak_8 ⟨(congrArg (fun z9 => some (Value.int z9)) (by first | (simp only [c_brk, eq_true c_4, if_true, if_false, not_true_eq_false, not_false_eq_true]; done) | (simp [c_brk, eq_true c_4]; done) | rfl)), rfl⟩
set_option maxHeartbeats 4000000 in
set_option maxRecDepth 100000 in
theorem k_X4_softTonnes (l : Launch) (D : va_G) (cy : Nat → ClassId) (N : Nat) (L : Nat → Nat) (F : Nat → va_E) (b : Nat) (v : ST) (z : Nat → Int32) (hb5 : 5 ≤ b) (hb : b + 3 ≤ N) (hE : cE cy L F z)   (hn : sN v ≤ 10) : GM l D cy N L yX4_softTonnes wsX4_softTonnes ({ frames := 1, cells := 0, slots := 0, locals := 22 }) [.ref (L 0), .ref (L b)] (sW cy L F b v) (some (.int (c_soft z v (sN v)))) (sW cy L F b v) := by
  refine GM.ofW (cc := cX4_softTonnes) (maxL := 4) (ret := (some .int)) (by decide) rfl (Nat.le_of_ble_eq_true rfl) ?_
  intro p e s m below meth c ls hx hb hr hts hown hlocks hml hK hA hG hS hl
  have hl : lv_has ls 4 [(0, .ref (L 0)), (1, .ref (L b))] := hl
  have i_q0_0 : b < N := by omega
  have i_q0_1 : b + 1 < N := by omega
  have i_q0_2 : b + 2 < N := by omega
  obtain ⟨⟨fs0, e0⟩, ⟨a1, a2, fs1, e1⟩, e4⟩ := id hE
  have i_e0 : 0 < N := by omega
  have i_e1 : 1 < N := by omega
  have i_e4 : 4 < N := by omega
  have hf125 := hts (.fieldLink RX4 125 "SiloPads$Silo" "layers" "I") (by decide +kernel)
  have hinX1 : ∀ w ∈ u_ws RX1 TX1 6, w ∈ wsX4_softTonnes := by decide +kernel
  have hf203 := hts (.fieldLink RX4 203 "SiloPads$Silo" "ages" "[I") (by decide +kernel)
  have hf201 := hts (.fieldLink RX4 201 "SiloPads$Silo" "tonnes" "[I") (by decide +kernel)
  refine lv_iconst (v := 0) hx hb dX4_softTonnes_0 (by decide) ?_
  refine lv_istore_n (lv' := [(2, .int 0), (0, .ref (L 0)), (1, .ref (L b))]) hx hb dX4_softTonnes_1 rfl hl (by decide) rfl (fun ls hl => ?_)
  refine lv_iconst (v := 0) hx hb dX4_softTonnes_2 (by decide) ?_
  refine lv_istore_n (lv' := [(3, .int 0), (2, .int 0), (0, .ref (L 0)), (1, .ref (L b))]) hx hb dX4_softTonnes_3 rfl hl (by decide) rfl (fun ls hl => ?_)
  refine W.loop (σ := Nat) (fun i H locs ls => (i ≤ sN v) ∧ GW D N L (gA N L s.heap.size) (sW cy L F b v) H ∧ va_S (gA N L s.heap.size) s.heap H locs ∧ lv_has ls 4 [(2, .int (c_soft z v i)), (3, .int (nI i)), (0, .ref (L 0)), (1, .ref (L b))]) (fun i => sN v - i) 0 ⟨by omega, hG.to (rfl), hS, lv_to (lv_sub hl [1, 0, 2, 3] rfl) (rfl)⟩ ?_
  intro i H locs ls hP9 ih4
  obtain ⟨hi9, hG, hS, hl⟩ := hP9
  refine lv_iload_n hx hb dX4_softTonnes_4 rfl (lv_at hl 1 rfl) ?_
  refine lv_aload_n hx hb dX4_softTonnes_5 rfl (lv_at hl 3 rfl) ?_
  refine g_get (ci := 1) (C := RX1) (T := TX1) (M := 6) hx hb hts hinX1 hown hK hG i_q0_0 sW_o rfl 2 (by decide) hf125 rfl rfl dX4_softTonnes_6 ?_
  refine lv_icmp_ge (tgt := 40) hx hb dX4_softTonnes_9 (by decide) (fun c_9 => ?_) (fun c_9 => ?_)
  · skip
    have c_9 : (sN v) ≤ i := (nI_leI (a := sN v) (b := i) (by omega) (by omega)).mp c_9
    refine lv_iload_n hx hb dX4_softTonnes_40 rfl (lv_at hl 0 rfl) ?_
    exact g_iret hx hb hr hlocks hK hG hS rfl dX4_softTonnes_41 ⟨(congrArg (fun z9 => some (Value.int z9)) (by rw [show i = sN v by omega])), rfl⟩
  · skip
    have c_9 : ¬ (sN v) ≤ i := fun h9 => c_9 ((nI_leI (a := sN v) (b := i) (by omega) (by omega)).mpr h9)
    refine lv_aload_n hx hb dX4_softTonnes_12 rfl (lv_at hl 2 rfl) ?_
    refine lv_aload_n hx hb dX4_softTonnes_13 rfl (lv_at hl 3 rfl) ?_
    refine g_get (ci := 1) (C := RX1) (T := TX1) (M := 6) hx hb hts hinX1 hown hK hG i_q0_0 sW_o rfl 1 (by decide) hf203 rfl rfl dX4_softTonnes_14 ?_
    refine lv_iload_n hx hb dX4_softTonnes_17 rfl (lv_at hl 1 rfl) ?_
    refine g_iald hx hb hK hG i_q0_2 sW_a (k := i) rfl (by omega) (by decide) dX4_softTonnes_18 ?_
    refine g_cVi (As := [.int ((sA v) i)]) (rest := []) hx hb hml hown hts hK hA hG hS (k_X4_hardnessAt l D cy N L _  _ (by omega) (cE_s (by omega) hE) ((sA v) i) ) (cwV 1 hts gX4_softTonnes_X4_hardnessAt rfl rfl rfl (by decide +kernel) ⟨Nat.le_of_ble_eq_true rfl, Nat.le_of_ble_eq_true rfl⟩) i_e0 (by rw [sW_n (by omega)]; exact e0) (ci := 4) rfl rfl rfl rfl hl.1 (Nat.le_of_ble_eq_true rfl) dX4_softTonnes_19 ⟨Nat.zero_le _, Nat.zero_le _⟩ (fun H locs hG hS => ?_)
    refine lv_if_ne (tgt := 34) hx hb dX4_softTonnes_22 (by decide) (fun c_22 => ?_) (fun c_22 => ?_)
    · skip
      refine lv_iinc (v := nI (i + 1)) (lv' := [(3, .int (nI (i + 1))), (2, .int (c_soft z v i)), (0, .ref (L 0)), (1, .ref (L b))]) hx hb dX4_softTonnes_34 hl (k := 1) rfl (nI_add i 1) (by decide) rfl (fun ls hl => ?_)
      refine lv_goto (tgt := 4) hx hb dX4_softTonnes_37 (by decide) ?_
      have hl : lv_has ls 4 [(2, .int (c_soft z v i)), (3, .int (nI (i + 1))), (0, .ref (L 0)), (1, .ref (L b))] := lv_sub hl [1, 0, 2, 3] rfl
      exact ih4 (i + 1) _ _ _ (by omega) ⟨by omega, hG.to (rfl), hS, lv_to hl (by simp only [c_soft, c_9, c_22, if_true, if_false])⟩
    · skip
      refine lv_iload_n hx hb dX4_softTonnes_25 rfl (lv_at hl 0 rfl) ?_
      refine lv_aload_n hx hb dX4_softTonnes_26 rfl (lv_at hl 3 rfl) ?_
      refine g_get (ci := 1) (C := RX1) (T := TX1) (M := 6) hx hb hts hinX1 hown hK hG i_q0_0 sW_o rfl 0 (by decide) hf201 rfl rfl dX4_softTonnes_27 ?_
      refine lv_iload_n hx hb dX4_softTonnes_30 rfl (lv_at hl 1 rfl) ?_
      refine g_iald hx hb hK hG i_q0_1 sW_t (k := i) rfl (by omega) (by decide) dX4_softTonnes_31 ?_
      refine lv_iadd hx hb dX4_softTonnes_32 ?_
      refine lv_istore_n (lv' := [(2, .int ((c_soft z v i) + ((sT v) i))), (3, .int (nI i)), (0, .ref (L 0)), (1, .ref (L b))]) hx hb dX4_softTonnes_33 rfl hl (by decide) rfl (fun ls hl => ?_)
      refine lv_iinc (v := nI (i + 1)) (lv' := [(3, .int (nI (i + 1))), (2, .int ((c_soft z v i) + ((sT v) i))), (0, .ref (L 0)), (1, .ref (L b))]) hx hb dX4_softTonnes_34 hl (k := 1) rfl (nI_add i 1) (by decide) rfl (fun ls hl => ?_)
      refine lv_goto (tgt := 4) hx hb dX4_softTonnes_37 (by decide) ?_
      have hl : lv_has ls 4 [(2, .int ((c_soft z v i) + ((sT v) i))), (3, .int (nI (i + 1))), (0, .ref (L 0)), (1, .ref (L b))] := lv_sub hl [1, 0, 2, 3] rfl
      exact ih4 (i + 1) _ _ _ (by omega) ⟨by omega, hG.to (rfl), hS, lv_to hl (by simp only [c_soft, c_9, eq_true c_22, if_true, if_false])⟩
set_option maxHeartbeats 4000000 in
set_option maxRecDepth 100000 in
theorem k_X4_passDayIn (l : Launch) (D : va_G) (cy : Nat → ClassId) (N : Nat) (L : Nat → Nat) (F : Nat → va_E) (b : Nat) (v : ST) (z : Nat → Int32) (hb5 : 5 ≤ b) (hb : b + 3 ≤ N) (hE : cE cy L F z)   (hn : sN v ≤ 10) : GM l D cy N L yX4_passDayIn wsX4_passDayIn ({ frames := 1, cells := 0, slots := 0, locals := 22 }) [.ref (L 0), .ref (L b)] (sW cy L F b v) (some (.int (c_dayR z v))) (sW cy L F b (c_dayV z v)) := by
  refine GM.ofW (cc := cX4_passDayIn) (maxL := 2) (ret := (some .int)) (by decide) rfl (Nat.le_of_ble_eq_true rfl) ?_
  intro p e s m below meth c ls hx hb hr hts hown hlocks hml hK hA hG hS hl
  have hl : lv_has ls 2 [(0, .ref (L 0)), (1, .ref (L b))] := hl
  have i_q0_0 : b < N := by omega
  have i_q0_1 : b + 1 < N := by omega
  have i_q0_2 : b + 2 < N := by omega
  obtain ⟨⟨fs0, e0⟩, ⟨a1, a2, fs1, e1⟩, e4⟩ := id hE
  have i_e0 : 0 < N := by omega
  have i_e1 : 1 < N := by omega
  have i_e4 : 4 < N := by omega
  have hf203 := hts (.fieldLink RX4 203 "SiloPads$Silo" "ages" "[I") (by decide +kernel)
  have hinX1 : ∀ w ∈ u_ws RX1 TX1 6, w ∈ wsX4_passDayIn := by decide +kernel
  have hf141 := hts (.fieldLink RX4 141 "SiloPads$Silo" "arch" "I") (by decide +kernel)
  have hf134 := hts (.fieldLink RX4 134 "SiloPads$Silo" "shakes" "I") (by decide +kernel)
  refine lv_aload_n hx hb dX4_passDayIn_0 rfl (lv_at hl 1 rfl) ?_
  refine g_cVv (As := []) (rest := []) hx hb hml hown hts hK hA hG hS (k_X1_makeOlder l D cy N L _ _ _ (by omega)  (hn)) (cwV 0 hts gX4_passDayIn_X1_makeOlder rfl rfl rfl (by decide +kernel) ⟨Nat.le_of_ble_eq_true rfl, Nat.le_of_ble_eq_true rfl⟩) i_q0_0 sW_o (ci := 1) rfl rfl rfl rfl hl.1 (Nat.le_of_ble_eq_true rfl) dX4_passDayIn_1 ⟨Nat.zero_le _, Nat.zero_le _⟩ (fun H locs hG hS => ?_)
  refine lv_aload_n hx hb dX4_passDayIn_4 rfl (lv_at hl 1 rfl) ?_
  refine g_cVi (As := []) (rest := []) hx hb hml hown hts hK hA hG hS (k_X1_canGetArch l D cy N L _ _ _ (by omega)  (hn)) (cwV 0 hts gX4_passDayIn_X1_canGetArch rfl rfl rfl (by decide +kernel) ⟨Nat.le_of_ble_eq_true rfl, Nat.le_of_ble_eq_true rfl⟩) i_q0_0 sW_o (ci := 1) rfl rfl rfl rfl hl.1 (Nat.le_of_ble_eq_true rfl) dX4_passDayIn_5 ⟨Nat.zero_le _, Nat.zero_le _⟩ (fun H locs hG hS => ?_)
  refine lv_if_eq (tgt := 24) hx hb dX4_passDayIn_8 (by decide) (fun c_8 => ?_) (fun c_8 => ?_)
  · skip
    refine lv_iconst (v := 0) hx hb dX4_passDayIn_24 (by decide) ?_
    exact g_iret hx hb hr hlocks hK hG hS rfl dX4_passDayIn_25 ⟨(congrArg (fun z9 => some (Value.int z9)) (by first | (simp only [c_dayR, c_dayV, c_old, eq_true c_8, if_true, if_false, not_true_eq_false, not_false_eq_true]; done) | (simp [c_dayR, c_dayV, c_old, eq_true c_8]; done) | rfl)), (by first | (simp only [c_dayR, c_dayV, c_old, eq_true c_8, if_true, if_false, not_true_eq_false, not_false_eq_true]; done) | (simp [c_dayR, c_dayV, c_old, eq_true c_8]; done) | rfl)⟩
  · skip
    refine lv_aload_n hx hb dX4_passDayIn_11 rfl (lv_at hl 0 rfl) ?_
    refine lv_aload_n hx hb dX4_passDayIn_12 rfl (lv_at hl 1 rfl) ?_
    refine g_get (ci := 1) (C := RX1) (T := TX1) (M := 6) hx hb hts hinX1 hown hK hG i_q0_0 sW_o rfl 1 (by decide) hf203 rfl rfl dX4_passDayIn_13 ?_
    refine lv_iconst (v := 0) hx hb dX4_passDayIn_16 (by decide) ?_
    refine g_iald hx hb hK hG i_q0_2 sW_a (k := 0) rfl (by omega) (by decide) dX4_passDayIn_17 ?_
    refine g_cVi (As := [.int ((s_old (sA v) (sN v)) 0)]) (rest := []) hx hb hml hown hts hK hA hG hS (k_X4_hardnessAt l D cy N L _  _ (by omega) (cE_s (by omega) hE) ((s_old (sA v) (sN v)) 0) ) (cwV 1 hts gX4_passDayIn_X4_hardnessAt rfl rfl rfl (by decide +kernel) ⟨Nat.le_of_ble_eq_true rfl, Nat.le_of_ble_eq_true rfl⟩) i_e0 (by rw [sW_n (by omega)]; exact e0) (ci := 4) rfl rfl rfl rfl hl.1 (Nat.le_of_ble_eq_true rfl) dX4_passDayIn_18 ⟨Nat.zero_le _, Nat.zero_le _⟩ (fun H locs hG hS => ?_)
    refine lv_if_ne (tgt := 26) hx hb dX4_passDayIn_21 (by decide) (fun c_21 => ?_) (fun c_21 => ?_)
    · skip
      refine lv_aload_n hx hb dX4_passDayIn_26 rfl (lv_at hl 1 rfl) ?_
      refine lv_iconst (v := 1) hx hb dX4_passDayIn_27 (by decide) ?_
      refine g_put (ci := 1) (C := RX1) (T := TX1) (M := 6) (ty := .int) hx hb hts hinX1 tyX1 tyX1_ok nmX1 hown hK hG hS i_q0_0 sW_o rfl 4 (by decide) hf141 rfl rfl rfl rfl rfl (Nat.le_of_ble_eq_true rfl) dX4_passDayIn_28 rfl (fun H locs hG hS => ?_)
      have hG : GW D N L (gA N L s.heap.size) (sW cy L F b (sT v, s_old (sA v) (sN v), sN v, sP v, 1, sK v)) H := hG.to sW_uo
      refine lv_aload_n hx hb dX4_passDayIn_31 rfl (lv_at hl 1 rfl) ?_
      refine lv_iconst (v := 0) hx hb dX4_passDayIn_32 (by decide) ?_
      refine g_put (ci := 1) (C := RX1) (T := TX1) (M := 6) (ty := .int) hx hb hts hinX1 tyX1 tyX1_ok nmX1 hown hK hG hS i_q0_0 sW_o rfl 5 (by decide) hf134 rfl rfl rfl rfl rfl (Nat.le_of_ble_eq_true rfl) dX4_passDayIn_33 rfl (fun H locs hG hS => ?_)
      have hG : GW D N L (gA N L s.heap.size) (sW cy L F b (sT v, s_old (sA v) (sN v), sN v, sP v, 1, 0)) H := hG.to sW_uo
      refine lv_iconst (v := 1) hx hb dX4_passDayIn_36 (by decide) ?_
      exact g_iret hx hb hr hlocks hK hG hS rfl dX4_passDayIn_37 ⟨(congrArg (fun z9 => some (Value.int z9)) (by first | (simp only [c_dayR, c_dayV, c_old, c_8, c_21, if_true, if_false, not_true_eq_false, not_false_eq_true]; done) | (simp [c_dayR, c_dayV, c_old, c_8, c_21]; done) | rfl)), (by first | (simp only [c_dayR, c_dayV, c_old, c_8, c_21, if_true, if_false, not_true_eq_false, not_false_eq_true]; done) | (simp [c_dayR, c_dayV, c_old, c_8, c_21]; done) | rfl)⟩
    · skip
      refine lv_iconst (v := 0) hx hb dX4_passDayIn_24 (by decide) ?_
      exact g_iret hx hb hr hlocks hK hG hS rfl dX4_passDayIn_25 ⟨(congrArg (fun z9 => some (Value.int z9)) (by first | (simp only [c_dayR, c_dayV, c_old, c_8, eq_true c_21, if_true, if_false, not_true_eq_false, not_false_eq_true]; done) | (simp [c_dayR, c_dayV, c_old, c_8, eq_true c_21]; done) | rfl)), (by first | (simp only [c_dayR, c_dayV, c_old, c_8, eq_true c_21, if_true, if_false, not_true_eq_false, not_false_eq_true]; done) | (simp [c_dayR, c_dayV, c_old, c_8, eq_true c_21]; done) | rfl)⟩
set_option maxHeartbeats 4000000 in
set_option maxRecDepth 100000 in
theorem k_X4_isMoreUrgent (l : Launch) (D : va_G) (cy : Nat → ClassId) (N : Nat) (L : Nat → Nat) (F : Nat → va_E) (b2 : Nat) (v2 : ST) (b : Nat) (v : ST) (hb : b + 3 ≤ N) (hb2 : b2 + 3 ≤ N) (hd : b2 + 3 ≤ b ∨ b + 3 ≤ b2)   (hn : sN v ≤ 10) (hn2 : sN v2 ≤ 10) : GM l D cy N L yX4_isMoreUrgent wsX4_isMoreUrgent ({ frames := 2, cells := 0, slots := 0, locals := 43 }) [.ref (L b), .ref (L b2)] (sW cy L (sW cy L F b2 v2) b v) (some (.int (c_more v v2))) (sW cy L (sW cy L F b2 v2) b v) := by
  refine GM.ofW (cc := cX4_isMoreUrgent) (maxL := 2) (ret := (some .boolean)) (by decide) rfl (Nat.le_of_ble_eq_true rfl) ?_
  intro p e s m below meth c ls hx hb hr hts hown hlocks hml hK hA hG hS hl
  have hl : lv_has ls 2 [(0, .ref (L b)), (1, .ref (L b2))] := hl
  have i_q0_0 : b2 < N := by omega
  have i_q0_1 : b2 + 1 < N := by omega
  have i_q0_2 : b2 + 2 < N := by omega
  have i_q1_0 : b < N := by omega
  have i_q1_1 : b + 1 < N := by omega
  have i_q1_2 : b + 2 < N := by omega
  have hf203 := hts (.fieldLink RX4 203 "SiloPads$Silo" "ages" "[I") (by decide +kernel)
  have hinX1 : ∀ w ∈ u_ws RX1 TX1 6, w ∈ wsX4_isMoreUrgent := by decide +kernel
  refine lv_aload_n hx hb dX4_isMoreUrgent_0 rfl (lv_at hl 0 rfl) ?_
  refine g_get (ci := 1) (C := RX1) (T := TX1) (M := 6) hx hb hts hinX1 hown hK hG i_q1_0 sW_o rfl 1 (by decide) hf203 rfl rfl dX4_isMoreUrgent_1 ?_
  refine lv_iconst (v := 0) hx hb dX4_isMoreUrgent_4 (by decide) ?_
  refine g_iald hx hb hK hG i_q1_2 sW_a (k := 0) rfl (by omega) (by decide) dX4_isMoreUrgent_5 ?_
  refine lv_aload_n hx hb dX4_isMoreUrgent_6 rfl (lv_at hl 1 rfl) ?_
  refine g_get (ci := 1) (C := RX1) (T := TX1) (M := 6) hx hb hts hinX1 hown hK hG i_q0_0 (by rw [sW_n (by omega)]; exact sW_o) rfl 1 (by decide) hf203 rfl rfl dX4_isMoreUrgent_7 ?_
  refine lv_iconst (v := 0) hx hb dX4_isMoreUrgent_10 (by decide) ?_
  refine g_iald hx hb hK hG i_q0_2 (by rw [sW_n (by omega)]; exact sW_a) (k := 0) rfl (by omega) (by decide) dX4_isMoreUrgent_11 ?_
  refine lv_icmp_eq (tgt := 36) hx hb dX4_isMoreUrgent_12 (by decide) (fun c_12 => ?_) (fun c_12 => ?_)
  · skip
    refine lv_aload_n hx hb dX4_isMoreUrgent_36 rfl (lv_at hl 0 rfl) ?_
    refine g_cVi (As := []) (rest := []) hx hb hml hown hts hK hA hG hS (k_X1_total l D cy N L _ _ _ (by omega)  (hn)) (cwV 0 hts gX4_isMoreUrgent_X1_total rfl rfl rfl (by decide +kernel) ⟨Nat.le_of_ble_eq_true rfl, Nat.le_of_ble_eq_true rfl⟩) i_q1_0 sW_o (ci := 1) rfl rfl rfl rfl hl.1 (Nat.le_of_ble_eq_true rfl) dX4_isMoreUrgent_37 ⟨Nat.zero_le _, Nat.zero_le _⟩ (fun H locs hG hS => ?_)
    refine lv_aload_n hx hb dX4_isMoreUrgent_40 rfl (lv_at hl 1 rfl) ?_
    have hG := hG.to (ss_comm (by omega))
    refine g_cVi (As := []) (rest := [.int (s_total v)]) hx hb hml hown hts hK hA hG hS (k_X1_total l D cy N L _ _ _ (by omega)  (hn2)) (cwV 0 hts gX4_isMoreUrgent_X1_total rfl rfl rfl (by decide +kernel) ⟨Nat.le_of_ble_eq_true rfl, Nat.le_of_ble_eq_true rfl⟩) i_q0_0 sW_o (ci := 1) rfl rfl rfl rfl hl.1 (Nat.le_of_ble_eq_true rfl) dX4_isMoreUrgent_41 ⟨Nat.zero_le _, Nat.zero_le _⟩ (fun H locs hG hS => ?_)
    have hG := hG.to (ss_comm (by omega)).symm
    refine lv_icmp_le (tgt := 51) hx hb dX4_isMoreUrgent_44 (by decide) (fun c_44 => ?_) (fun c_44 => ?_)
    · skip
      refine lv_iconst (v := 0) hx hb dX4_isMoreUrgent_51 (by decide) ?_
      exact g_iret hx hb hr hlocks hK hG hS rfl dX4_isMoreUrgent_52 ⟨(congrArg (fun z9 => some (Value.int z9)) (by first | (simp only [c_more, eq_true c_12, c_44, if_true, if_false, not_true_eq_false, not_false_eq_true]; done) | (simp [c_more, eq_true c_12, c_44]; done) | rfl)), rfl⟩
    · skip
      refine lv_iconst (v := 1) hx hb dX4_isMoreUrgent_47 (by decide) ?_
      refine lv_goto (tgt := 52) hx hb dX4_isMoreUrgent_48 (by decide) ?_
      exact g_iret hx hb hr hlocks hK hG hS rfl dX4_isMoreUrgent_52 ⟨(congrArg (fun z9 => some (Value.int z9)) (by first | (simp only [c_more, eq_true c_12, c_44, if_true, if_false, not_true_eq_false, not_false_eq_true]; done) | (simp [c_more, eq_true c_12, c_44]; done) | rfl)), rfl⟩
  · skip
    refine lv_aload_n hx hb dX4_isMoreUrgent_15 rfl (lv_at hl 0 rfl) ?_
    refine g_get (ci := 1) (C := RX1) (T := TX1) (M := 6) hx hb hts hinX1 hown hK hG i_q1_0 sW_o rfl 1 (by decide) hf203 rfl rfl dX4_isMoreUrgent_16 ?_
    refine lv_iconst (v := 0) hx hb dX4_isMoreUrgent_19 (by decide) ?_
    refine g_iald hx hb hK hG i_q1_2 sW_a (k := 0) rfl (by omega) (by decide) dX4_isMoreUrgent_20 ?_
    refine lv_aload_n hx hb dX4_isMoreUrgent_21 rfl (lv_at hl 1 rfl) ?_
    refine g_get (ci := 1) (C := RX1) (T := TX1) (M := 6) hx hb hts hinX1 hown hK hG i_q0_0 (by rw [sW_n (by omega)]; exact sW_o) rfl 1 (by decide) hf203 rfl rfl dX4_isMoreUrgent_22 ?_
    refine lv_iconst (v := 0) hx hb dX4_isMoreUrgent_25 (by decide) ?_
    refine g_iald hx hb hK hG i_q0_2 (by rw [sW_n (by omega)]; exact sW_a) (k := 0) rfl (by omega) (by decide) dX4_isMoreUrgent_26 ?_
    refine lv_icmp_le (tgt := 34) hx hb dX4_isMoreUrgent_27 (by decide) (fun c_27 => ?_) (fun c_27 => ?_)
    · skip
      refine lv_iconst (v := 0) hx hb dX4_isMoreUrgent_34 (by decide) ?_
      exact g_iret hx hb hr hlocks hK hG hS rfl dX4_isMoreUrgent_35 ⟨(congrArg (fun z9 => some (Value.int z9)) (by first | (simp only [c_more, c_12, c_27, if_true, if_false, not_true_eq_false, not_false_eq_true]; done) | (simp [c_more, c_12, c_27]; done) | rfl)), rfl⟩
    · skip
      refine lv_iconst (v := 1) hx hb dX4_isMoreUrgent_30 (by decide) ?_
      refine lv_goto (tgt := 35) hx hb dX4_isMoreUrgent_31 (by decide) ?_
      exact g_iret hx hb hr hlocks hK hG hS rfl dX4_isMoreUrgent_35 ⟨(congrArg (fun z9 => some (Value.int z9)) (by first | (simp only [c_more, c_12, c_27, if_true, if_false, not_true_eq_false, not_false_eq_true]; done) | (simp [c_more, c_12, c_27]; done) | rfl)), rfl⟩
end
section
/-! YARDS (22 places each: the object, its two rows of references, the settings, four silos, six ships) AND THE WHOLE OBJECT (places 0 to 161) -/
abbrev YT : Type := (Nat → ST) × (Nat → HT) × (Nat → Int32) × (Nat → Int32)
abbrev yS (y : YT) : Nat → ST := y.1
abbrev yH (y : YT) : Nat → HT := y.2.1
abbrev yZ (y : YT) : Nat → Int32 := y.2.2.1
abbrev yC (y : YT) : Nat → Int32 := y.2.2.2
def ySetS (y : YT) (k : Nat) (v : ST) : YT := (fun i => if i = k then v else y.1 i, y.2)
def ySetH (y : YT) (j : Nat) (h : HT) : YT := (y.1, fun i => if i = j then h else y.2.1 i, y.2.2)
def sCell (cy : Nat → ClassId) (L : Nat → Nat) (p : Nat) (v : ST) (q : Nat) : va_E :=
  if q = 0 then .inr (1, [.ref (L (p + 1)), .ref (L (p + 2)), .int (nI v.2.2.1), .int v.2.2.2.1, .int v.2.2.2.2.1, .int v.2.2.2.2.2])
  else if q = 1 then .inl (cy 0, 10, .inl v.1) else .inl (cy 0, 10, .inl v.2.1)
def yCell (cy : Nat → ClassId) (L : Nat → Nat) (b : Nat) (y : YT) (r : Nat) : va_E :=
  if r = 0 then .inr (3, [.ref (L (b + 1)), .ref (L (b + 2)), .ref (L (b + 3)), .int (y.2.2.2 0), .int (y.2.2.2 1), .int (y.2.2.2 2), .int (y.2.2.2 3), .int (y.2.2.2 4), .int (y.2.2.2 5)])
  else if r = 1 then .inl (cy 1, 4, .inr (.inr (.inr (.inr (fun k => some (L (b + 4 + 3 * k)))))))
  else if r = 2 then .inl (cy 2, 6, .inr (.inr (.inr (.inr (fun j => some (L (b + 16 + j)))))))
  else if r = 3 then .inl (cy 0, 4, .inl y.2.2.1)
  else if r < 16 then sCell cy L (b + 4 + 3 * ((r - 4) / 3)) (y.1 ((r - 4) / 3)) ((r - 4) % 3)
  else .inr (0, [.int (y.2.1 (r - 16)).1, .int (y.2.1 (r - 16)).2])
def yW (cy : Nat → ClassId) (L : Nat → Nat) (F : Nat → va_E) (b : Nat) (y : YT) : Nat → va_E := fun i =>
  if i < b ∨ b + 22 ≤ i then F i else yCell cy L b y (i - b)
section YWL
variable {cy : Nat → ClassId} {L : Nat → Nat} {F : Nat → va_E} {b k j : Nat} {y y2 : YT} {v : ST} {h : HT}
theorem yW_n {i : Nat} (hi : i < b ∨ b + 22 ≤ i) : yW cy L F b y i = F i := by
  unfold yW
  rw [if_pos hi]
theorem yW_i {r : Nat} (hr : r < 22) : yW cy L F b y (b + r) = yCell cy L b y r := by
  unfold yW
  rw [if_neg (by omega), show b + r - b = r by omega]
theorem yW_o : yW cy L F b y b = .inr (3, [.ref (L (b + 1)), .ref (L (b + 2)), .ref (L (b + 3)), .int (y.2.2.2 0), .int (y.2.2.2 1), .int (y.2.2.2 2), .int (y.2.2.2 3), .int (y.2.2.2 4), .int (y.2.2.2 5)]) := yW_i (r := 0) (by omega)
theorem yW_s : yW cy L F b y (b + 1) = .inl (cy 1, 4, .inr (.inr (.inr (.inr (fun k => some (L (b + 4 + 3 * k))))))) := yW_i (r := 1) (by omega)
theorem yW_h : yW cy L F b y (b + 2) = .inl (cy 2, 6, .inr (.inr (.inr (.inr (fun j => some (L (b + 16 + j))))))) := yW_i (r := 2) (by omega)
theorem yW_z : yW cy L F b y (b + 3) = .inl (cy 0, 4, .inl y.2.2.1) := yW_i (r := 3) (by omega)
theorem yW_sc {q : Nat} (hk : k < 4) (hq : q < 3) : yW cy L F b y (b + 4 + 3 * k + q) = sCell cy L (b + 4 + 3 * k) (y.1 k) q := by
  rw [show b + 4 + 3 * k + q = b + (4 + 3 * k + q) by omega, yW_i (by omega)]
  unfold yCell
  rw [if_neg (by omega), if_neg (by omega), if_neg (by omega), if_neg (by omega), if_pos (by omega), show (4 + 3 * k + q - 4) / 3 = k by omega, show (4 + 3 * k + q - 4) % 3 = q by omega]
theorem yW_so (hk : k < 4) : yW cy L F b y (b + 4 + 3 * k) = .inr (1, [.ref (L (b + 4 + 3 * k + 1)), .ref (L (b + 4 + 3 * k + 2)), .int (nI (y.1 k).2.2.1), .int (y.1 k).2.2.2.1, .int (y.1 k).2.2.2.2.1, .int (y.1 k).2.2.2.2.2]) := yW_sc (q := 0) hk (by omega)
theorem yW_st (hk : k < 4) : yW cy L F b y (b + 4 + 3 * k + 1) = .inl (cy 0, 10, .inl (y.1 k).1) := yW_sc (q := 1) hk (by omega)
theorem yW_sa (hk : k < 4) : yW cy L F b y (b + 4 + 3 * k + 2) = .inl (cy 0, 10, .inl (y.1 k).2.1) := yW_sc (q := 2) hk (by omega)
theorem yW_ho (hj : j < 6) : yW cy L F b y (b + 16 + j) = .inr (0, [.int (y.2.1 j).1, .int (y.2.1 j).2]) := by
  rw [show b + 16 + j = b + (16 + j) by omega, yW_i (by omega)]
  unfold yCell
  rw [if_neg (by omega), if_neg (by omega), if_neg (by omega), if_neg (by omega), if_neg (by omega), show 16 + j - 16 = j by omega]
/-- a yard with a silo put in anew -/
theorem yW_S (hk : k < 4) : sW cy L (yW cy L F b y) (b + 4 + 3 * k) v = yW cy L F b (ySetS y k v) := by
  funext i
  by_cases h1 : i < b + 4 + 3 * k ∨ b + 4 + 3 * k + 3 ≤ i
  · rw [sW_n h1]
    by_cases h2 : i < b ∨ b + 22 ≤ i
    · rw [yW_n h2, yW_n h2]
    · obtain ⟨r, rfl⟩ : ∃ r, i = b + r := ⟨i - b, by omega⟩
      rw [yW_i (by omega), yW_i (by omega)]
      unfold yCell
      by_cases h3 : r < 4
      · rcases (show r = 0 ∨ r = 1 ∨ r = 2 ∨ r = 3 by omega) with rfl | rfl | rfl | rfl <;> rfl
      · rw [if_neg (show ¬ r = 0 by omega), if_neg (show ¬ r = 1 by omega), if_neg (show ¬ r = 2 by omega), if_neg (show ¬ r = 3 by omega), if_neg (show ¬ r = 0 by omega), if_neg (show ¬ r = 1 by omega), if_neg (show ¬ r = 2 by omega), if_neg (show ¬ r = 3 by omega)]
        by_cases h4 : r < 16
        · rw [if_pos h4, if_pos h4]
          have h5 : ¬ (r - 4) / 3 = k := by omega
          simp only [ySetS, if_neg h5]
        · rw [if_neg h4, if_neg h4]
          rfl
  · obtain ⟨q, hq, rfl⟩ : ∃ q, q < 3 ∧ i = b + 4 + 3 * k + q := ⟨i - (b + 4 + 3 * k), by omega, by omega⟩
    rw [yW_sc hk hq]
    rcases (show q = 0 ∨ q = 1 ∨ q = 2 by omega) with rfl | rfl | rfl
    · show sW cy L (yW cy L F b y) (b + 4 + 3 * k) v (b + 4 + 3 * k) = _
      rw [sW_o]
      simp [sCell, ySetS]
    · rw [sW_t]
      simp [sCell, ySetS]
    · rw [sW_a]
      simp [sCell, ySetS]
theorem ySetS_id : ySetS y k (yS y k) = y := by
  unfold ySetS
  have h : (fun i => if i = k then y.1 k else y.1 i) = y.1 := by
    funext i
    split
    · rename_i e
      rw [e]
    · rfl
  rw [show yS y k = y.1 k from rfl, h]
theorem ySetH_id : ySetH y j (yH y j) = y := by
  unfold ySetH
  have h : (fun i => if i = j then y.2.1 j else y.2.1 i) = y.2.1 := by
    funext i
    split
    · rename_i e
      rw [e]
    · rfl
  rw [show yH y j = y.2.1 j from rfl, h]
theorem yW_S0 (hk : k < 4) : sW cy L (yW cy L F b y) (b + 4 + 3 * k) (yS y k) = yW cy L F b y := by rw [yW_S hk, ySetS_id]
theorem yW_H (hj : j < 6) : hW (yW cy L F b y) (b + 16 + j) h = yW cy L F b (ySetH y j h) := by
  funext i
  by_cases h1 : i = b + 16 + j
  · subst h1
    rw [hW_o, yW_ho hj]
    simp [ySetH]
  · rw [hW_n h1]
    by_cases h2 : i < b ∨ b + 22 ≤ i
    · rw [yW_n h2, yW_n h2]
    · obtain ⟨r, rfl⟩ : ∃ r, i = b + r := ⟨i - b, by omega⟩
      rw [yW_i (by omega), yW_i (by omega)]
      unfold yCell
      by_cases h3 : r < 16
      · by_cases h4 : r < 4
        · rcases (show r = 0 ∨ r = 1 ∨ r = 2 ∨ r = 3 by omega) with rfl | rfl | rfl | rfl <;> rfl
        · rw [if_neg (show ¬ r = 0 by omega), if_neg (show ¬ r = 1 by omega), if_neg (show ¬ r = 2 by omega), if_neg (show ¬ r = 3 by omega), if_pos h3, if_neg (show ¬ r = 0 by omega), if_neg (show ¬ r = 1 by omega), if_neg (show ¬ r = 2 by omega), if_neg (show ¬ r = 3 by omega), if_pos h3]
          rfl
      · rw [if_neg (show ¬ r = 0 by omega), if_neg (show ¬ r = 1 by omega), if_neg (show ¬ r = 2 by omega), if_neg (show ¬ r = 3 by omega), if_neg h3, if_neg (show ¬ r = 0 by omega), if_neg (show ¬ r = 1 by omega), if_neg (show ¬ r = 2 by omega), if_neg (show ¬ r = 3 by omega), if_neg h3]
        have h5 : ¬ r - 16 = j := by omega
        simp only [ySetH, if_neg h5]
theorem yW_H0 (hj : j < 6) : hW (yW cy L F b y) (b + 16 + j) (yH y j) = yW cy L F b y := by rw [yW_H hj, ySetH_id]
theorem yW_u {r : Nat} {e : va_E} (hr : r < 22) (he : yCell cy L b y2 r = e) (hne : ∀ q, q < 22 → q ≠ r → yCell cy L b y q = yCell cy L b y2 q) : gup (yW cy L F b y) (b + r) e = yW cy L F b y2 := by
  funext i
  by_cases h1 : i = b + r
  · subst h1
    rw [gup_s, yW_i hr, he]
  · rw [gup_n h1]
    by_cases h2 : i < b ∨ b + 22 ≤ i
    · rw [yW_n h2, yW_n h2]
    · obtain ⟨q, rfl⟩ : ∃ q, i = b + q := ⟨i - b, by omega⟩
      rw [yW_i (by omega), yW_i (by omega), hne q (by omega) (by omega)]
theorem yCell_c {r : Nat} {c2 : Nat → Int32} (hr : r ≠ 0) : yCell cy L b y r = yCell cy L b (y.1, y.2.1, y.2.2.1, c2) r := by
  unfold yCell
  rw [if_neg hr, if_neg hr]
theorem yW_uz {f : Nat → Int32} : gup (yW cy L F b y) (b + 3) (.inl (cy 0, 4, .inl f)) = yW cy L F b (y.1, y.2.1, f, y.2.2.2) := by
  refine yW_u (r := 3) (by omega) rfl (fun q hq hne => ?_)
  unfold yCell
  rw [if_neg hne, if_neg hne]
theorem yW_u0 {x9 : Int32} : gup (yW cy L F b y) b (.inr (3, [.ref (L (b + 1)), .ref (L (b + 2)), .ref (L (b + 3)), .int x9, .int (y.2.2.2 1), .int (y.2.2.2 2), .int (y.2.2.2 3), .int (y.2.2.2 4), .int (y.2.2.2 5)])) = yW cy L F b (y.1, y.2.1, y.2.2.1, upd y.2.2.2 0 x9) :=
  yW_u (r := 0) (by omega) rfl (fun q hq hne => yCell_c hne)
theorem yW_u1 {x9 : Int32} : gup (yW cy L F b y) b (.inr (3, [.ref (L (b + 1)), .ref (L (b + 2)), .ref (L (b + 3)), .int (y.2.2.2 0), .int x9, .int (y.2.2.2 2), .int (y.2.2.2 3), .int (y.2.2.2 4), .int (y.2.2.2 5)])) = yW cy L F b (y.1, y.2.1, y.2.2.1, upd y.2.2.2 1 x9) :=
  yW_u (r := 0) (by omega) rfl (fun q hq hne => yCell_c hne)
theorem yW_u2 {x9 : Int32} : gup (yW cy L F b y) b (.inr (3, [.ref (L (b + 1)), .ref (L (b + 2)), .ref (L (b + 3)), .int (y.2.2.2 0), .int (y.2.2.2 1), .int x9, .int (y.2.2.2 3), .int (y.2.2.2 4), .int (y.2.2.2 5)])) = yW cy L F b (y.1, y.2.1, y.2.2.1, upd y.2.2.2 2 x9) :=
  yW_u (r := 0) (by omega) rfl (fun q hq hne => yCell_c hne)
theorem yW_u3 {x9 : Int32} : gup (yW cy L F b y) b (.inr (3, [.ref (L (b + 1)), .ref (L (b + 2)), .ref (L (b + 3)), .int (y.2.2.2 0), .int (y.2.2.2 1), .int (y.2.2.2 2), .int x9, .int (y.2.2.2 4), .int (y.2.2.2 5)])) = yW cy L F b (y.1, y.2.1, y.2.2.1, upd y.2.2.2 3 x9) :=
  yW_u (r := 0) (by omega) rfl (fun q hq hne => yCell_c hne)
theorem yW_u4 {x9 : Int32} : gup (yW cy L F b y) b (.inr (3, [.ref (L (b + 1)), .ref (L (b + 2)), .ref (L (b + 3)), .int (y.2.2.2 0), .int (y.2.2.2 1), .int (y.2.2.2 2), .int (y.2.2.2 3), .int x9, .int (y.2.2.2 5)])) = yW cy L F b (y.1, y.2.1, y.2.2.1, upd y.2.2.2 4 x9) :=
  yW_u (r := 0) (by omega) rfl (fun q hq hne => yCell_c hne)
theorem yW_u5 {x9 : Int32} : gup (yW cy L F b y) b (.inr (3, [.ref (L (b + 1)), .ref (L (b + 2)), .ref (L (b + 3)), .int (y.2.2.2 0), .int (y.2.2.2 1), .int (y.2.2.2 2), .int (y.2.2.2 3), .int (y.2.2.2 4), .int x9])) = yW cy L F b (y.1, y.2.1, y.2.2.1, upd y.2.2.2 5 x9) :=
  yW_u (r := 0) (by omega) rfl (fun q hq hne => yCell_c hne)
theorem yy_comm {b2 : Nat} (hd : b2 + 22 ≤ b ∨ b + 22 ≤ b2) : yW cy L (yW cy L F b y) b2 y2 = yW cy L (yW cy L F b2 y2) b y := by
  funext i
  by_cases h1 : i < b2 ∨ b2 + 22 ≤ i
  · rw [yW_n h1]
    by_cases h2 : i < b ∨ b + 22 ≤ i
    · rw [yW_n h2, yW_n h2, yW_n h1]
    · unfold yW
      rw [if_neg h2, if_neg h2]
  · rw [yW_n (b := b) (by omega)]
    unfold yW
    rw [if_neg h1, if_neg h1]
end YWL
end
section
/-- the whole object: now, the six saved yards by their places, which of them each row of saved names, how many are saved, the buffer, the reader, the trial silo and ship -/
abbrev CT : Type := YT × (Nat → YT) × (Nat → Nat) × Nat × (Nat → Int32) × Nat × RT × ST × HT
abbrev cY (c : CT) : YT := c.1
abbrev cV (c : CT) : Nat → YT := c.2.1
abbrev cM (c : CT) : Nat → Nat := c.2.2.1
abbrev cQ (c : CT) : Nat := c.2.2.2.1
abbrev cB (c : CT) : Nat → Int32 := c.2.2.2.2.1
abbrev cL (c : CT) : Nat := c.2.2.2.2.2.1
abbrev cR (c : CT) : RT := c.2.2.2.2.2.2.1
abbrev cT (c : CT) : ST := c.2.2.2.2.2.2.2.1
abbrev cU (c : CT) : HT := c.2.2.2.2.2.2.2.2
abbrev cMk (y : YT) (v : Nat → YT) (m : Nat → Nat) (q : Nat) (b : Nat → Int32) (l : Nat) (r : RT) (t : ST) (u : HT) : CT := (y, v, m, q, b, l, r, t, u)
def vSet (v : Nat → YT) (p : Nat) (y : YT) : Nat → YT := fun i => if i = p then y else v i
def nSet (m : Nat → Nat) (k p : Nat) : Nat → Nat := fun i => if i = k then p else m i
def cCell (cy : Nat → ClassId) (L : Nat → Nat) (c : CT) (i : Nat) : va_E :=
  if i = 0 then .inr (4, [.ref (L 1), .ref (L 23), .int (nI c.2.2.2.1), .ref (L 24), .int (nI c.2.2.2.2.2.1), .ref (L 25), .ref (L 26), .ref (L 29)])
  else if i < 23 then yCell cy L 1 c.1 (i - 1)
  else if i = 23 then .inl (cy 3, 6, .inr (.inr (.inr (.inr (fun k => some (L (30 + 22 * c.2.2.1 k)))))))
  else if i = 24 then .inl (cy 0, 60, .inl c.2.2.2.2.1)
  else if i = 25 then .inr (2, [.int c.2.2.2.2.2.2.1.1, .int c.2.2.2.2.2.2.1.2.1, .int c.2.2.2.2.2.2.1.2.2.1, .int c.2.2.2.2.2.2.1.2.2.2.1, .int c.2.2.2.2.2.2.1.2.2.2.2])
  else if i < 29 then sCell cy L 26 c.2.2.2.2.2.2.2.1 (i - 26)
  else if i = 29 then .inr (0, [.int c.2.2.2.2.2.2.2.2.1, .int c.2.2.2.2.2.2.2.2.2])
  else yCell cy L (30 + 22 * ((i - 30) / 22)) (c.2.1 ((i - 30) / 22)) ((i - 30) % 22)
def cW (cy : Nat → ClassId) (L : Nat → Nat) (F : Nat → va_E) (c : CT) : Nat → va_E := fun i => if 162 ≤ i then F i else cCell cy L c i
section CWHOLE
variable {cy : Nat → ClassId} {L : Nat → Nat} {F : Nat → va_E} {k j p : Nat} {c : CT} {y y2 : YT} {v : ST} {h : HT} {r : RT}
theorem cW_n {i : Nat} (hi : 162 ≤ i) : cW cy L F c i = F i := by
  unfold cW
  rw [if_pos hi]
theorem cW_i {i : Nat} (hi : i < 162) : cW cy L F c i = cCell cy L c i := by
  unfold cW
  rw [if_neg (by omega)]
theorem cW_o : cW cy L F c 0 = .inr (4, [.ref (L 1), .ref (L 23), .int (nI c.2.2.2.1), .ref (L 24), .int (nI c.2.2.2.2.2.1), .ref (L 25), .ref (L 26), .ref (L 29)]) := cW_i (by omega)
theorem cW_v : cW cy L F c 23 = .inl (cy 3, 6, .inr (.inr (.inr (.inr (fun k => some (L (30 + 22 * c.2.2.1 k))))))) := cW_i (by omega)
theorem cW_b : cW cy L F c 24 = .inl (cy 0, 60, .inl c.2.2.2.2.1) := cW_i (by omega)
theorem cW_r : cW cy L F c 25 = .inr (2, [.int c.2.2.2.2.2.2.1.1, .int c.2.2.2.2.2.2.1.2.1, .int c.2.2.2.2.2.2.1.2.2.1, .int c.2.2.2.2.2.2.1.2.2.2.1, .int c.2.2.2.2.2.2.1.2.2.2.2]) := cW_i (by omega)
theorem cCell_y {q : Nat} (hq : q < 22) : cCell cy L c (1 + q) = yCell cy L 1 c.1 q := by
  unfold cCell
  rw [if_neg (by omega), if_pos (by omega), show 1 + q - 1 = q by omega]
theorem cCell_v {q : Nat} (hq : q < 22) : cCell cy L c (30 + 22 * p + q) = yCell cy L (30 + 22 * p) (c.2.1 p) q := by
  unfold cCell
  rw [if_neg (by omega), if_neg (by omega), if_neg (by omega), if_neg (by omega), if_neg (by omega), if_neg (by omega), if_neg (by omega), show (30 + 22 * p + q - 30) / 22 = p by omega, show (30 + 22 * p + q - 30) % 22 = q by omega]
/-- a place's cell speaks of one part of the whole alone -/
theorem cCell_eq {c2 : CT} {i : Nat} (h0 : i = 0 → c.2.2.2.1 = c2.2.2.2.1 ∧ c.2.2.2.2.2.1 = c2.2.2.2.2.2.1) (h1 : 0 < i → i < 23 → c.1 = c2.1) (h2 : i = 23 → c.2.2.1 = c2.2.2.1) (h3 : i = 24 → c.2.2.2.2.1 = c2.2.2.2.2.1) (h4 : i = 25 → c.2.2.2.2.2.2.1 = c2.2.2.2.2.2.2.1) (h5 : 25 < i → i < 29 → c.2.2.2.2.2.2.2.1 = c2.2.2.2.2.2.2.2.1) (h6 : i = 29 → c.2.2.2.2.2.2.2.2 = c2.2.2.2.2.2.2.2.2) (h7 : 30 ≤ i → c.2.1 ((i - 30) / 22) = c2.2.1 ((i - 30) / 22)) : cCell cy L c i = cCell cy L c2 i := by
  unfold cCell
  split
  · rename_i e
    rw [(h0 e).1, (h0 e).2]
  · split
    · rw [h1 (by omega) (by omega)]
    · split
      · rename_i e
        rw [h2 e]
      · split
        · rename_i e
          rw [h3 e]
        · split
          · rename_i e
            rw [h4 e]
          · split
            · rw [h5 (by omega) (by omega)]
            · split
              · rename_i e
                rw [h6 e]
              · rw [h7 (by omega)]
theorem cW_eq {G : Nat → va_E} {c2 : CT} (hF : ∀ i, 162 ≤ i → G i = F i) (hC : ∀ i, i < 162 → G i = cCell cy L c2 i) : G = cW cy L F c2 := by
  funext i
  by_cases h : 162 ≤ i
  · rw [hF i h, cW_n h]
  · rw [hC i (by omega), cW_i (by omega)]
theorem cW_Y : yW cy L (cW cy L F c) 1 y = cW cy L F (y, c.2) := by
  refine cW_eq (fun i hi => by rw [yW_n (by omega), cW_n hi]) (fun i hi => ?_)
  by_cases h : i < 1 ∨ 1 + 22 ≤ i
  · rw [yW_n h, cW_i hi]
    exact cCell_eq (fun _ => ⟨rfl, rfl⟩) (fun _ _ => absurd h (by omega)) (fun _ => rfl) (fun _ => rfl) (fun _ => rfl) (fun _ _ => rfl) (fun _ => rfl) (fun _ => rfl)
  · obtain ⟨q, rfl⟩ : ∃ q, i = 1 + q := ⟨i - 1, by omega⟩
    rw [yW_i (by omega), cCell_y (by omega)]
theorem cW_Y0 : yW cy L (cW cy L F c) 1 (cY c) = cW cy L F c := cW_Y
theorem cW_V (hp : p < 6) : yW cy L (cW cy L F c) (30 + 22 * p) y = cW cy L F (c.1, vSet c.2.1 p y, c.2.2) := by
  refine cW_eq (fun i hi => by rw [yW_n (by omega), cW_n hi]) (fun i hi => ?_)
  by_cases h : i < 30 + 22 * p ∨ 30 + 22 * p + 22 ≤ i
  · rw [yW_n h, cW_i hi]
    refine cCell_eq (fun _ => ⟨rfl, rfl⟩) (fun _ _ => rfl) (fun _ => rfl) (fun _ => rfl) (fun _ => rfl) (fun _ _ => rfl) (fun _ => rfl) (fun h7 => ?_)
    have h8 : ¬ (i - 30) / 22 = p := by omega
    simp only [vSet, if_neg h8]
  · obtain ⟨q, rfl⟩ : ∃ q, i = 30 + 22 * p + q := ⟨i - (30 + 22 * p), by omega⟩
    rw [yW_i (by omega), cCell_v (by omega)]
    simp [vSet]
theorem vSet_id {V : Nat → YT} : vSet V p (V p) = V := by
  funext i
  unfold vSet
  split
  · rename_i e
    rw [e]
  · rfl
theorem cW_V0 (hp : p < 6) : yW cy L (cW cy L F c) (30 + 22 * p) (cV c p) = cW cy L F c := by rw [cW_V hp, vSet_id]
theorem cW_S (hk : k < 4) : sW cy L (cW cy L F c) (1 + 4 + 3 * k) v = cW cy L F (ySetS c.1 k v, c.2) := by
  rw [show cW cy L F c = yW cy L (cW cy L F c) 1 c.1 from cW_Y.symm, yW_S hk, cW_Y]
theorem cW_S0 (hk : k < 4) : sW cy L (cW cy L F c) (1 + 4 + 3 * k) (yS (cY c) k) = cW cy L F c := by rw [cW_S hk, ySetS_id]
theorem cW_H (hj : j < 6) : hW (cW cy L F c) (1 + 16 + j) h = cW cy L F (ySetH c.1 j h, c.2) := by
  rw [show cW cy L F c = yW cy L (cW cy L F c) 1 c.1 from cW_Y.symm, yW_H hj, cW_Y]
theorem cW_H0 (hj : j < 6) : hW (cW cy L F c) (1 + 16 + j) (yH (cY c) j) = cW cy L F c := by rw [cW_H hj, ySetH_id]
theorem cW_T : sW cy L (cW cy L F c) 26 v = cW cy L F (cMk c.1 c.2.1 c.2.2.1 c.2.2.2.1 c.2.2.2.2.1 c.2.2.2.2.2.1 c.2.2.2.2.2.2.1 v c.2.2.2.2.2.2.2.2) := by
  refine cW_eq (fun i hi => by rw [sW_n (by omega), cW_n hi]) (fun i hi => ?_)
  by_cases h : i < 26 ∨ 26 + 3 ≤ i
  · rw [sW_n h, cW_i hi]
    exact cCell_eq (fun _ => ⟨rfl, rfl⟩) (fun _ _ => rfl) (fun _ => rfl) (fun _ => rfl) (fun _ => rfl) (fun _ _ => absurd h (by omega)) (fun _ => rfl) (fun _ => rfl)
  · rcases (show i = 26 ∨ i = 27 ∨ i = 28 by omega) with rfl | rfl | rfl
    · rw [sW_o]
      rfl
    · rw [show sW cy L (cW cy L F c) 26 v 27 = _ from sW_t]
      rfl
    · rw [show sW cy L (cW cy L F c) 26 v 28 = _ from sW_a]
      rfl
theorem cW_T0 : sW cy L (cW cy L F c) 26 (cT c) = cW cy L F c := cW_T
theorem cW_U : hW (cW cy L F c) 29 h = cW cy L F (cMk c.1 c.2.1 c.2.2.1 c.2.2.2.1 c.2.2.2.2.1 c.2.2.2.2.2.1 c.2.2.2.2.2.2.1 c.2.2.2.2.2.2.2.1 h) := by
  refine cW_eq (fun i hi => by rw [hW_n (by omega), cW_n hi]) (fun i hi => ?_)
  by_cases h1 : i = 29
  · subst h1
    rw [hW_o]
    rfl
  · rw [hW_n h1, cW_i hi]
    exact cCell_eq (fun _ => ⟨rfl, rfl⟩) (fun _ _ => rfl) (fun _ => rfl) (fun _ => rfl) (fun _ => rfl) (fun _ _ => rfl) (fun e => absurd e h1) (fun _ => rfl)
theorem cW_U0 : hW (cW cy L F c) 29 (cU c) = cW cy L F c := cW_U
theorem cW_R : rW (cW cy L F c) 25 r = cW cy L F (cMk c.1 c.2.1 c.2.2.1 c.2.2.2.1 c.2.2.2.2.1 c.2.2.2.2.2.1 r c.2.2.2.2.2.2.2.1 c.2.2.2.2.2.2.2.2) := by
  refine cW_eq (fun i hi => by rw [rW_n (by omega), cW_n hi]) (fun i hi => ?_)
  by_cases h1 : i = 25
  · subst h1
    rw [rW_o]
    rfl
  · rw [rW_n h1, cW_i hi]
    exact cCell_eq (fun _ => ⟨rfl, rfl⟩) (fun _ _ => rfl) (fun _ => rfl) (fun _ => rfl) (fun e => absurd e h1) (fun _ _ => rfl) (fun _ => rfl) (fun _ => rfl)
theorem cW_R0 : rW (cW cy L F c) 25 (cR c) = cW cy L F c := cW_R
theorem cW_u {i : Nat} {e : va_E} {c2 : CT} (hi : i < 162) (he : cCell cy L c2 i = e) (hne : ∀ q, q < 162 → q ≠ i → cCell cy L c q = cCell cy L c2 q) : gup (cW cy L F c) i e = cW cy L F c2 := by
  refine cW_eq (fun q hq => by rw [gup_n (by omega), cW_n hq]) (fun q hq => ?_)
  by_cases h1 : q = i
  · subst h1
    rw [gup_s, he]
  · rw [gup_n h1, cW_i hq, hne q hq h1]
theorem cW_uo {sn ln : Nat} : gup (cW cy L F c) 0 (.inr (4, [.ref (L 1), .ref (L 23), .int (nI sn), .ref (L 24), .int (nI ln), .ref (L 25), .ref (L 26), .ref (L 29)])) = cW cy L F (cMk c.1 c.2.1 c.2.2.1 sn c.2.2.2.2.1 ln c.2.2.2.2.2.2.1 c.2.2.2.2.2.2.2.1 c.2.2.2.2.2.2.2.2) :=
  cW_u (by omega) rfl (fun q hq h => cCell_eq (fun e => absurd e h) (fun _ _ => rfl) (fun _ => rfl) (fun _ => rfl) (fun _ => rfl) (fun _ _ => rfl) (fun _ => rfl) (fun _ => rfl))
theorem cW_ub {f : Nat → Int32} : gup (cW cy L F c) 24 (.inl (cy 0, 60, .inl f)) = cW cy L F (cMk c.1 c.2.1 c.2.2.1 c.2.2.2.1 f c.2.2.2.2.2.1 c.2.2.2.2.2.2.1 c.2.2.2.2.2.2.2.1 c.2.2.2.2.2.2.2.2) :=
  cW_u (by omega) rfl (fun q hq h => cCell_eq (fun _ => ⟨rfl, rfl⟩) (fun _ _ => rfl) (fun _ => rfl) (fun e => absurd e h) (fun _ => rfl) (fun _ _ => rfl) (fun _ => rfl) (fun _ => rfl))
theorem cW_uv : gup (cW cy L F c) 23 (.inl (cy 3, 6, .inr (.inr (.inr (.inr (va_up (fun k => some (L (30 + 22 * c.2.2.1 k))) k (some (L (30 + 22 * p))))))))) = cW cy L F (cMk c.1 c.2.1 (nSet c.2.2.1 k p) c.2.2.2.1 c.2.2.2.2.1 c.2.2.2.2.2.1 c.2.2.2.2.2.2.1 c.2.2.2.2.2.2.2.1 c.2.2.2.2.2.2.2.2) := by
  refine cW_u (by omega) ?_ (fun q hq h => cCell_eq (fun _ => ⟨rfl, rfl⟩) (fun _ _ => rfl) (fun e => absurd e h) (fun _ => rfl) (fun _ => rfl) (fun _ _ => rfl) (fun _ => rfl) (fun _ => rfl))
  have e1 : (fun i => some (L (30 + 22 * nSet c.2.2.1 k p i))) = va_up (fun i => some (L (30 + 22 * c.2.2.1 i))) k (some (L (30 + 22 * p))) := by
    funext i
    unfold va_up nSet
    split <;> rfl
  show cCell cy L _ 23 = _
  unfold cCell
  rw [if_neg (by omega), if_neg (by omega), if_pos rfl]
  exact congrArg (fun z => (Sum.inl (cy 3, 6, Sum.inr (Sum.inr (Sum.inr (Sum.inr z)))) : va_E)) e1
/-- what the methods that read the settings find -/
theorem cE_cW : cE cy L (cW cy L F c) (yZ (cY c)) := by
  refine ⟨⟨_, cW_o⟩, ?_, cW_i (by omega)⟩
  refine ⟨.ref (L 2), .ref (L 3), [.int (c.1.2.2.2 0), .int (c.1.2.2.2 1), .int (c.1.2.2.2 2), .int (c.1.2.2.2 3), .int (c.1.2.2.2 4), .int (c.1.2.2.2 5)], cW_i (by omega)⟩
end CWHOLE
end
section
/-! what a yard's methods answer -/
def y_silos (y : YT) : Nat → Int32
  | 0 => 0
  | k + 1 => y_silos y k + s_total (yS y k)
def y_ships (y : YT) : Nat → Int32
  | 0 => 0
  | k + 1 => y_ships y k + hT (yH y k)
def y_pads (y : YT) : Nat → Int32
  | 0 => 0
  | k + 1 => y_pads y k + sP (yS y k)
def y_arches (y : YT) : Nat → Int32
  | 0 => 0
  | k + 1 => y_arches y k + (if sC (yS y k) = 0 then 0 else 1)
def s_like (v v2 : ST) : ST := (cpN (sT v) (sT v2) (0) (0) 10, cpN (sA v) (sA v2) (0) (0) 10, sN v2, sP v2, sC v2, sK v2)
def y_lS (y y2 : YT) : Nat → YT
  | 0 => y
  | k + 1 => ySetS (y_lS y y2 k) k (s_like (yS (y_lS y y2 k) k) (yS y2 k))
def y_lH (y y2 : YT) : Nat → YT
  | 0 => y
  | k + 1 => ySetH (y_lH y y2 k) k (hT (yH y2 k), hH (yH y2 k))
def y_lZ (y y2 : YT) (k : Nat) : YT := (yS y, yH y, cpN (yZ y) (yZ y2) (0) (0) k, yC y)
theorem y_lZ_0 {y y2 : YT} : y_lZ y y2 0 = y := by
  unfold y_lZ
  rw [cpN_0]
theorem y_lZ_s {y y2 : YT} {k : Nat} : (yS y, yH y, upd (cpN (yZ y) (yZ y2) (0) (0) k) k (yZ y2 k), yC y) = y_lZ y y2 (k + 1) := by
  unfold y_lZ
  rw [cpN_z]
def y_like (y y2 : YT) : YT :=
  (yS (y_lZ (y_lH (y_lS y y2 4) y2 6) y2 4), yH (y_lZ (y_lH (y_lS y y2 4) y2 6) y2 4), yZ (y_lZ (y_lH (y_lS y y2 4) y2 6) y2 4),
    upd (upd (upd (upd (upd (upd (yC (y_lZ (y_lH (y_lS y y2 4) y2 6) y2 4)) 0 (yC y2 0)) 1 (yC y2 1)) 2 (yC y2 2)) 3 (yC y2 3)) 4 (yC y2 4)) 5 (yC y2 5))
theorem yy_S0 {cy : Nat → ClassId} {L : Nat → Nat} {F : Nat → va_E} {b b2 k : Nat} {y y2 : YT} (hd : b2 + 22 ≤ b ∨ b + 22 ≤ b2) (hk : k < 4) : sW cy L (yW cy L (yW cy L F b2 y2) b y) (b2 + 4 + 3 * k) (yS y2 k) = yW cy L (yW cy L F b2 y2) b y := by
  rw [yy_comm (b := b2) (b2 := b) (by omega), yW_S0 hk]
theorem yy_H0 {cy : Nat → ClassId} {L : Nat → Nat} {F : Nat → va_E} {b b2 j : Nat} {y y2 : YT} (hd : b2 + 22 ≤ b ∨ b + 22 ≤ b2) (hj : j < 6) : hW (yW cy L (yW cy L F b2 y2) b y) (b2 + 16 + j) (yH y2 j) = yW cy L (yW cy L F b2 y2) b y := by
  rw [yy_comm (b := b2) (b2 := b) (by omega), yW_H0 hj]
end
section
set_option maxHeartbeats 4000000 in
set_option maxRecDepth 100000 in
theorem k_X3_siloTonnes (l : Launch) (D : va_G) (cy : Nat → ClassId) (N : Nat) (L : Nat → Nat) (F : Nat → va_E) (b : Nat) (y : YT) (hb : b + 22 ≤ N)   (hy : ∀ k, k < 4 → sN (yS y k) ≤ 10) : GM l D cy N L yX3_siloTonnes wsX3_siloTonnes ({ frames := 2, cells := 0, slots := 0, locals := 43 }) [.ref (L b)] (yW cy L F b y) (some (.int (y_silos y 4))) (yW cy L F b y) := by
  refine GM.ofW (cc := cX3_siloTonnes) (maxL := 3) (ret := (some .int)) (by decide) rfl (Nat.le_of_ble_eq_true rfl) ?_
  intro p e s m below meth c ls hx hb hr hts hown hlocks hml hK hA hG hS hl
  have hl : lv_has ls 3 [(0, .ref (L b))] := hl
  have hf11 := hts (.fieldLink RX3 11 "SiloPads$Yard" "silos" "[LSiloPads$Silo;") (by decide +kernel)
  have hinX3 : ∀ w ∈ u_ws RX3 TX3 9, w ∈ wsX3_siloTonnes := by decide +kernel
  refine lv_iconst (v := 0) hx hb dX3_siloTonnes_0 (by decide) ?_
  refine lv_istore_n (lv' := [(1, .int 0), (0, .ref (L b))]) hx hb dX3_siloTonnes_1 rfl hl (by decide) rfl (fun ls hl => ?_)
  refine lv_iconst (v := 0) hx hb dX3_siloTonnes_2 (by decide) ?_
  refine lv_istore_n (lv' := [(2, .int 0), (1, .int 0), (0, .ref (L b))]) hx hb dX3_siloTonnes_3 rfl hl (by decide) rfl (fun ls hl => ?_)
  refine W.loop (σ := Nat) (fun k H locs ls => (k ≤ 4) ∧ GW D N L (gA N L s.heap.size) (yW cy L F b y) H ∧ va_S (gA N L s.heap.size) s.heap H locs ∧ lv_has ls 3 [(1, .int (y_silos y k)), (2, .int (nI k)), (0, .ref (L b))]) (fun k => 4 - k) 0 ⟨by omega, hG.to (rfl), hS, lv_to (lv_sub hl [1, 0, 2] rfl) (rfl)⟩ ?_
  intro k H locs ls hP9 ih4
  obtain ⟨hk9, hG, hS, hl⟩ := hP9
  refine lv_iload_n hx hb dX3_siloTonnes_4 rfl (lv_at hl 1 rfl) ?_
  refine lv_iconst (v := 4) hx hb dX3_siloTonnes_5 (by decide) ?_
  refine lv_icmp_ge (tgt := 27) hx hb dX3_siloTonnes_6 (by decide) (fun c_6 => ?_) (fun c_6 => ?_)
  · skip
    have c_6 : 4 ≤ k := (nI_leI (a := 4) (b := k) (by omega) (by omega)).mp c_6
    refine lv_iload_n hx hb dX3_siloTonnes_27 rfl (lv_at hl 0 rfl) ?_
    exact g_iret hx hb hr hlocks hK hG hS rfl dX3_siloTonnes_28 ⟨(congrArg (fun z9 => some (Value.int z9)) (by rw [show k = 4 by omega])), rfl⟩
  · skip
    have c_6 : ¬ 4 ≤ k := fun h9 => c_6 ((nI_leI (a := 4) (b := k) (by omega) (by omega)).mpr h9)
    refine lv_iload_n hx hb dX3_siloTonnes_9 rfl (lv_at hl 0 rfl) ?_
    refine lv_aload_n hx hb dX3_siloTonnes_10 rfl (lv_at hl 2 rfl) ?_
    refine g_get (ci := 3) (C := RX3) (T := TX3) (M := 9) hx hb hts hinX3 hown hK hG (by omega) yW_o rfl 0 (by decide) hf11 rfl rfl dX3_siloTonnes_11 ?_
    refine lv_iload_n hx hb dX3_siloTonnes_14 rfl (lv_at hl 1 rfl) ?_
    refine g_aald (j := b + 4 + 3 * k) hx hb hK hG (by omega) yW_s (t0 := 1) rfl (k := k) rfl (by omega) (by decide) rfl dX3_siloTonnes_15 ?_
    have hG : GW D N L (gA N L s.heap.size) (sW cy L (yW cy L F b y) (b + 4 + 3 * k) ((yS y) k)) H := hG.to (by rw [yW_S0 (k := k) (by omega)])
    refine g_cVi (As := []) (rest := [.int (y_silos y k)]) hx hb hml hown hts hK hA hG hS (k_X1_total l D cy N L _ _ _ (by omega)  (hy k (by omega))) (cwV 0 hts gX3_siloTonnes_X1_total rfl rfl rfl (by decide +kernel) ⟨Nat.le_of_ble_eq_true rfl, Nat.le_of_ble_eq_true rfl⟩) (by omega) sW_o (ci := 1) rfl rfl rfl rfl hl.1 (Nat.le_of_ble_eq_true rfl) dX3_siloTonnes_16 ⟨Nat.zero_le _, Nat.zero_le _⟩ (fun H locs hG hS => ?_)
    have hG : GW D N L (gA N L s.heap.size) (yW cy L F b y) H := hG.to (by rw [yW_S0 (k := k) (by omega)] <;> rfl)
    refine lv_iadd hx hb dX3_siloTonnes_19 ?_
    refine lv_istore_n (lv' := [(1, .int ((y_silos y k) + (s_total ((yS y) k)))), (2, .int (nI k)), (0, .ref (L b))]) hx hb dX3_siloTonnes_20 rfl hl (by decide) rfl (fun ls hl => ?_)
    refine lv_iinc (v := nI (k + 1)) (lv' := [(2, .int (nI (k + 1))), (1, .int ((y_silos y k) + (s_total ((yS y) k)))), (0, .ref (L b))]) hx hb dX3_siloTonnes_21 hl (k := 1) rfl (nI_add k 1) (by decide) rfl (fun ls hl => ?_)
    refine lv_goto (tgt := 4) hx hb dX3_siloTonnes_24 (by decide) ?_
    have hl : lv_has ls 3 [(1, .int ((y_silos y k) + (s_total ((yS y) k)))), (2, .int (nI (k + 1))), (0, .ref (L b))] := lv_sub hl [1, 0, 2] rfl
    exact ih4 (k + 1) _ _ _ (by omega) ⟨by omega, hG.to (rfl), hS, lv_to hl (rfl)⟩
set_option maxHeartbeats 4000000 in
set_option maxRecDepth 100000 in
theorem k_X3_shipTonnes (l : Launch) (D : va_G) (cy : Nat → ClassId) (N : Nat) (L : Nat → Nat) (F : Nat → va_E) (b : Nat) (y : YT) (hb : b + 22 ≤ N)    : GM l D cy N L yX3_shipTonnes wsX3_shipTonnes ({ frames := 0, cells := 0, slots := 0, locals := 0 }) [.ref (L b)] (yW cy L F b y) (some (.int (y_ships y 6))) (yW cy L F b y) := by
  refine GM.ofW (cc := cX3_shipTonnes) (maxL := 3) (ret := (some .int)) (by decide) rfl (Nat.le_of_ble_eq_true rfl) ?_
  intro p e s m below meth c ls hx hb hr hts hown hlocks hml hK hA hG hS hl
  have hl : lv_has ls 3 [(0, .ref (L b))] := hl
  have hf19 := hts (.fieldLink RX3 19 "SiloPads$Yard" "ships" "[LSiloPads$Ship;") (by decide +kernel)
  have hinX3 : ∀ w ∈ u_ws RX3 TX3 9, w ∈ wsX3_shipTonnes := by decide +kernel
  have hf67 := hts (.fieldLink RX3 67 "SiloPads$Ship" "tonnes" "I") (by decide +kernel)
  have hinX0 : ∀ w ∈ u_ws RX0 TX0 2, w ∈ wsX3_shipTonnes := by decide +kernel
  refine lv_iconst (v := 0) hx hb dX3_shipTonnes_0 (by decide) ?_
  refine lv_istore_n (lv' := [(1, .int 0), (0, .ref (L b))]) hx hb dX3_shipTonnes_1 rfl hl (by decide) rfl (fun ls hl => ?_)
  refine lv_iconst (v := 0) hx hb dX3_shipTonnes_2 (by decide) ?_
  refine lv_istore_n (lv' := [(2, .int 0), (1, .int 0), (0, .ref (L b))]) hx hb dX3_shipTonnes_3 rfl hl (by decide) rfl (fun ls hl => ?_)
  refine W.loop (σ := Nat) (fun k H locs ls => (k ≤ 6) ∧ GW D N L (gA N L s.heap.size) (yW cy L F b y) H ∧ va_S (gA N L s.heap.size) s.heap H locs ∧ lv_has ls 3 [(1, .int (y_ships y k)), (2, .int (nI k)), (0, .ref (L b))]) (fun k => 6 - k) 0 ⟨by omega, hG.to (rfl), hS, lv_to (lv_sub hl [1, 0, 2] rfl) (rfl)⟩ ?_
  intro k H locs ls hP9 ih4
  obtain ⟨hk9, hG, hS, hl⟩ := hP9
  refine lv_iload_n hx hb dX3_shipTonnes_4 rfl (lv_at hl 1 rfl) ?_
  refine lv_bipush (v := 6) hx hb dX3_shipTonnes_5 (by decide) ?_
  refine lv_icmp_ge (tgt := 28) hx hb dX3_shipTonnes_7 (by decide) (fun c_7 => ?_) (fun c_7 => ?_)
  · skip
    have c_7 : 6 ≤ k := (nI_leI (a := 6) (b := k) (by omega) (by omega)).mp c_7
    refine lv_iload_n hx hb dX3_shipTonnes_28 rfl (lv_at hl 0 rfl) ?_
    exact g_iret hx hb hr hlocks hK hG hS rfl dX3_shipTonnes_29 ⟨(congrArg (fun z9 => some (Value.int z9)) (by rw [show k = 6 by omega])), rfl⟩
  · skip
    have c_7 : ¬ 6 ≤ k := fun h9 => c_7 ((nI_leI (a := 6) (b := k) (by omega) (by omega)).mpr h9)
    refine lv_iload_n hx hb dX3_shipTonnes_10 rfl (lv_at hl 0 rfl) ?_
    refine lv_aload_n hx hb dX3_shipTonnes_11 rfl (lv_at hl 2 rfl) ?_
    refine g_get (ci := 3) (C := RX3) (T := TX3) (M := 9) hx hb hts hinX3 hown hK hG (by omega) yW_o rfl 1 (by decide) hf19 rfl rfl dX3_shipTonnes_12 ?_
    refine lv_iload_n hx hb dX3_shipTonnes_15 rfl (lv_at hl 1 rfl) ?_
    refine g_aald (j := b + 16 + k) hx hb hK hG (by omega) yW_h (t0 := 2) rfl (k := k) rfl (by omega) (by decide) rfl dX3_shipTonnes_16 ?_
    refine g_get (ci := 0) (C := RX0) (T := TX0) (M := 2) hx hb hts hinX0 hown hK hG (by omega) (yW_ho (by omega)) rfl 0 (by decide) hf67 rfl rfl dX3_shipTonnes_17 ?_
    refine lv_iadd hx hb dX3_shipTonnes_20 ?_
    refine lv_istore_n (lv' := [(1, .int ((y_ships y k) + (hT ((yH y) k)))), (2, .int (nI k)), (0, .ref (L b))]) hx hb dX3_shipTonnes_21 rfl hl (by decide) rfl (fun ls hl => ?_)
    refine lv_iinc (v := nI (k + 1)) (lv' := [(2, .int (nI (k + 1))), (1, .int ((y_ships y k) + (hT ((yH y) k)))), (0, .ref (L b))]) hx hb dX3_shipTonnes_22 hl (k := 1) rfl (nI_add k 1) (by decide) rfl (fun ls hl => ?_)
    refine lv_goto (tgt := 4) hx hb dX3_shipTonnes_25 (by decide) ?_
    have hl : lv_has ls 3 [(1, .int ((y_ships y k) + (hT ((yH y) k)))), (2, .int (nI (k + 1))), (0, .ref (L b))] := lv_sub hl [1, 0, 2] rfl
    exact ih4 (k + 1) _ _ _ (by omega) ⟨by omega, hG.to (rfl), hS, lv_to hl (rfl)⟩
set_option maxHeartbeats 4000000 in
set_option maxRecDepth 100000 in
theorem k_X3_padsOn (l : Launch) (D : va_G) (cy : Nat → ClassId) (N : Nat) (L : Nat → Nat) (F : Nat → va_E) (b : Nat) (y : YT) (hb : b + 22 ≤ N)    : GM l D cy N L yX3_padsOn wsX3_padsOn ({ frames := 0, cells := 0, slots := 0, locals := 0 }) [.ref (L b)] (yW cy L F b y) (some (.int (y_pads y 4))) (yW cy L F b y) := by
  refine GM.ofW (cc := cX3_padsOn) (maxL := 3) (ret := (some .int)) (by decide) rfl (Nat.le_of_ble_eq_true rfl) ?_
  intro p e s m below meth c ls hx hb hr hts hown hlocks hml hK hA hG hS hl
  have hl : lv_has ls 3 [(0, .ref (L b))] := hl
  have hf11 := hts (.fieldLink RX3 11 "SiloPads$Yard" "silos" "[LSiloPads$Silo;") (by decide +kernel)
  have hinX3 : ∀ w ∈ u_ws RX3 TX3 9, w ∈ wsX3_padsOn := by decide +kernel
  have hf70 := hts (.fieldLink RX3 70 "SiloPads$Silo" "padsOn" "I") (by decide +kernel)
  have hinX1 : ∀ w ∈ u_ws RX1 TX1 6, w ∈ wsX3_padsOn := by decide +kernel
  refine lv_iconst (v := 0) hx hb dX3_padsOn_0 (by decide) ?_
  refine lv_istore_n (lv' := [(1, .int 0), (0, .ref (L b))]) hx hb dX3_padsOn_1 rfl hl (by decide) rfl (fun ls hl => ?_)
  refine lv_iconst (v := 0) hx hb dX3_padsOn_2 (by decide) ?_
  refine lv_istore_n (lv' := [(2, .int 0), (1, .int 0), (0, .ref (L b))]) hx hb dX3_padsOn_3 rfl hl (by decide) rfl (fun ls hl => ?_)
  refine W.loop (σ := Nat) (fun k H locs ls => (k ≤ 4) ∧ GW D N L (gA N L s.heap.size) (yW cy L F b y) H ∧ va_S (gA N L s.heap.size) s.heap H locs ∧ lv_has ls 3 [(1, .int (y_pads y k)), (2, .int (nI k)), (0, .ref (L b))]) (fun k => 4 - k) 0 ⟨by omega, hG.to (rfl), hS, lv_to (lv_sub hl [1, 0, 2] rfl) (rfl)⟩ ?_
  intro k H locs ls hP9 ih4
  obtain ⟨hk9, hG, hS, hl⟩ := hP9
  refine lv_iload_n hx hb dX3_padsOn_4 rfl (lv_at hl 1 rfl) ?_
  refine lv_iconst (v := 4) hx hb dX3_padsOn_5 (by decide) ?_
  refine lv_icmp_ge (tgt := 27) hx hb dX3_padsOn_6 (by decide) (fun c_6 => ?_) (fun c_6 => ?_)
  · skip
    have c_6 : 4 ≤ k := (nI_leI (a := 4) (b := k) (by omega) (by omega)).mp c_6
    refine lv_iload_n hx hb dX3_padsOn_27 rfl (lv_at hl 0 rfl) ?_
    exact g_iret hx hb hr hlocks hK hG hS rfl dX3_padsOn_28 ⟨(congrArg (fun z9 => some (Value.int z9)) (by rw [show k = 4 by omega])), rfl⟩
  · skip
    have c_6 : ¬ 4 ≤ k := fun h9 => c_6 ((nI_leI (a := 4) (b := k) (by omega) (by omega)).mpr h9)
    refine lv_iload_n hx hb dX3_padsOn_9 rfl (lv_at hl 0 rfl) ?_
    refine lv_aload_n hx hb dX3_padsOn_10 rfl (lv_at hl 2 rfl) ?_
    refine g_get (ci := 3) (C := RX3) (T := TX3) (M := 9) hx hb hts hinX3 hown hK hG (by omega) yW_o rfl 0 (by decide) hf11 rfl rfl dX3_padsOn_11 ?_
    refine lv_iload_n hx hb dX3_padsOn_14 rfl (lv_at hl 1 rfl) ?_
    refine g_aald (j := b + 4 + 3 * k) hx hb hK hG (by omega) yW_s (t0 := 1) rfl (k := k) rfl (by omega) (by decide) rfl dX3_padsOn_15 ?_
    refine g_get (ci := 1) (C := RX1) (T := TX1) (M := 6) hx hb hts hinX1 hown hK hG (by omega) (yW_so (by omega)) rfl 3 (by decide) hf70 rfl rfl dX3_padsOn_16 ?_
    refine lv_iadd hx hb dX3_padsOn_19 ?_
    refine lv_istore_n (lv' := [(1, .int ((y_pads y k) + (sP ((yS y) k)))), (2, .int (nI k)), (0, .ref (L b))]) hx hb dX3_padsOn_20 rfl hl (by decide) rfl (fun ls hl => ?_)
    refine lv_iinc (v := nI (k + 1)) (lv' := [(2, .int (nI (k + 1))), (1, .int ((y_pads y k) + (sP ((yS y) k)))), (0, .ref (L b))]) hx hb dX3_padsOn_21 hl (k := 1) rfl (nI_add k 1) (by decide) rfl (fun ls hl => ?_)
    refine lv_goto (tgt := 4) hx hb dX3_padsOn_24 (by decide) ?_
    have hl : lv_has ls 3 [(1, .int ((y_pads y k) + (sP ((yS y) k)))), (2, .int (nI (k + 1))), (0, .ref (L b))] := lv_sub hl [1, 0, 2] rfl
    exact ih4 (k + 1) _ _ _ (by omega) ⟨by omega, hG.to (rfl), hS, lv_to hl (rfl)⟩
set_option maxHeartbeats 4000000 in
set_option maxRecDepth 100000 in
theorem k_X3_arches (l : Launch) (D : va_G) (cy : Nat → ClassId) (N : Nat) (L : Nat → Nat) (F : Nat → va_E) (b : Nat) (y : YT) (hb : b + 22 ≤ N)    : GM l D cy N L yX3_arches wsX3_arches ({ frames := 0, cells := 0, slots := 0, locals := 0 }) [.ref (L b)] (yW cy L F b y) (some (.int (y_arches y 4))) (yW cy L F b y) := by
  refine GM.ofW (cc := cX3_arches) (maxL := 3) (ret := (some .int)) (by decide) rfl (Nat.le_of_ble_eq_true rfl) ?_
  intro p e s m below meth c ls hx hb hr hts hown hlocks hml hK hA hG hS hl
  have hl : lv_has ls 3 [(0, .ref (L b))] := hl
  have hf11 := hts (.fieldLink RX3 11 "SiloPads$Yard" "silos" "[LSiloPads$Silo;") (by decide +kernel)
  have hinX3 : ∀ w ∈ u_ws RX3 TX3 9, w ∈ wsX3_arches := by decide +kernel
  have hf73 := hts (.fieldLink RX3 73 "SiloPads$Silo" "arch" "I") (by decide +kernel)
  have hinX1 : ∀ w ∈ u_ws RX1 TX1 6, w ∈ wsX3_arches := by decide +kernel
  refine lv_iconst (v := 0) hx hb dX3_arches_0 (by decide) ?_
  refine lv_istore_n (lv' := [(1, .int 0), (0, .ref (L b))]) hx hb dX3_arches_1 rfl hl (by decide) rfl (fun ls hl => ?_)
  refine lv_iconst (v := 0) hx hb dX3_arches_2 (by decide) ?_
  refine lv_istore_n (lv' := [(2, .int 0), (1, .int 0), (0, .ref (L b))]) hx hb dX3_arches_3 rfl hl (by decide) rfl (fun ls hl => ?_)
  refine W.loop (σ := Nat) (fun k H locs ls => (k ≤ 4) ∧ GW D N L (gA N L s.heap.size) (yW cy L F b y) H ∧ va_S (gA N L s.heap.size) s.heap H locs ∧ lv_has ls 3 [(1, .int (y_arches y k)), (2, .int (nI k)), (0, .ref (L b))]) (fun k => 4 - k) 0 ⟨by omega, hG.to (rfl), hS, lv_to (lv_sub hl [1, 0, 2] rfl) (rfl)⟩ ?_
  intro k H locs ls hP9 ih4
  obtain ⟨hk9, hG, hS, hl⟩ := hP9
  refine lv_iload_n hx hb dX3_arches_4 rfl (lv_at hl 1 rfl) ?_
  refine lv_iconst (v := 4) hx hb dX3_arches_5 (by decide) ?_
  refine lv_icmp_ge (tgt := 35) hx hb dX3_arches_6 (by decide) (fun c_6 => ?_) (fun c_6 => ?_)
  · skip
    have c_6 : 4 ≤ k := (nI_leI (a := 4) (b := k) (by omega) (by omega)).mp c_6
    refine lv_iload_n hx hb dX3_arches_35 rfl (lv_at hl 0 rfl) ?_
    exact g_iret hx hb hr hlocks hK hG hS rfl dX3_arches_36 ⟨(congrArg (fun z9 => some (Value.int z9)) (by rw [show k = 4 by omega])), rfl⟩
  · skip
    have c_6 : ¬ 4 ≤ k := fun h9 => c_6 ((nI_leI (a := 4) (b := k) (by omega) (by omega)).mpr h9)
    refine lv_iload_n hx hb dX3_arches_9 rfl (lv_at hl 0 rfl) ?_
    refine lv_aload_n hx hb dX3_arches_10 rfl (lv_at hl 2 rfl) ?_
    refine g_get (ci := 3) (C := RX3) (T := TX3) (M := 9) hx hb hts hinX3 hown hK hG (by omega) yW_o rfl 0 (by decide) hf11 rfl rfl dX3_arches_11 ?_
    refine lv_iload_n hx hb dX3_arches_14 rfl (lv_at hl 1 rfl) ?_
    refine g_aald (j := b + 4 + 3 * k) hx hb hK hG (by omega) yW_s (t0 := 1) rfl (k := k) rfl (by omega) (by decide) rfl dX3_arches_15 ?_
    refine g_get (ci := 1) (C := RX1) (T := TX1) (M := 6) hx hb hts hinX1 hown hK hG (by omega) (yW_so (by omega)) rfl 4 (by decide) hf73 rfl rfl dX3_arches_16 ?_
    refine lv_if_ne (tgt := 26) hx hb dX3_arches_19 (by decide) (fun c_19 => ?_) (fun c_19 => ?_)
    · skip
      refine lv_iconst (v := 1) hx hb dX3_arches_26 (by decide) ?_
      refine lv_iadd hx hb dX3_arches_27 ?_
      refine lv_istore_n (lv' := [(1, .int ((y_arches y k) + 1)), (2, .int (nI k)), (0, .ref (L b))]) hx hb dX3_arches_28 rfl hl (by decide) rfl (fun ls hl => ?_)
      refine lv_iinc (v := nI (k + 1)) (lv' := [(2, .int (nI (k + 1))), (1, .int ((y_arches y k) + 1)), (0, .ref (L b))]) hx hb dX3_arches_29 hl (k := 1) rfl (nI_add k 1) (by decide) rfl (fun ls hl => ?_)
      refine lv_goto (tgt := 4) hx hb dX3_arches_32 (by decide) ?_
      have hl : lv_has ls 3 [(1, .int ((y_arches y k) + 1)), (2, .int (nI (k + 1))), (0, .ref (L b))] := lv_sub hl [1, 0, 2] rfl
      exact ih4 (k + 1) _ _ _ (by omega) ⟨by omega, hG.to (rfl), hS, lv_to hl (by simp only [y_arches, c_6, c_19, if_true, if_false])⟩
    · skip
      refine lv_iconst (v := 0) hx hb dX3_arches_22 (by decide) ?_
      refine lv_goto (tgt := 27) hx hb dX3_arches_23 (by decide) ?_
      refine lv_iadd hx hb dX3_arches_27 ?_
      refine lv_istore_n (lv' := [(1, .int ((y_arches y k) + 0)), (2, .int (nI k)), (0, .ref (L b))]) hx hb dX3_arches_28 rfl hl (by decide) rfl (fun ls hl => ?_)
      refine lv_iinc (v := nI (k + 1)) (lv' := [(2, .int (nI (k + 1))), (1, .int ((y_arches y k) + 0)), (0, .ref (L b))]) hx hb dX3_arches_29 hl (k := 1) rfl (nI_add k 1) (by decide) rfl (fun ls hl => ?_)
      refine lv_goto (tgt := 4) hx hb dX3_arches_32 (by decide) ?_
      have hl : lv_has ls 3 [(1, .int ((y_arches y k) + 0)), (2, .int (nI (k + 1))), (0, .ref (L b))] := lv_sub hl [1, 0, 2] rfl
      exact ih4 (k + 1) _ _ _ (by omega) ⟨by omega, hG.to (rfl), hS, lv_to hl (by simp only [y_arches, c_6, eq_true c_19, if_true, if_false])⟩
set_option maxHeartbeats 4000000 in
set_option maxRecDepth 100000 in
theorem k_X3_becomeLike (l : Launch) (D : va_G) (cy : Nat → ClassId) (N : Nat) (L : Nat → Nat) (F : Nat → va_E) (b2 : Nat) (y2 : YT) (b : Nat) (y : YT) (hb : b + 22 ≤ N) (hb2 : b2 + 22 ≤ N) (hd : b2 + 22 ≤ b ∨ b + 22 ≤ b2)    : GM l D cy N L yX3_becomeLike wsX3_becomeLike ({ frames := 1, cells := 0, slots := 0, locals := 22 }) [.ref (L b), .ref (L b2)] (yW cy L (yW cy L F b2 y2) b y) (none) (yW cy L (yW cy L F b2 y2) b (y_like y y2)) := by
  refine GM.ofW (cc := cX3_becomeLike) (maxL := 3) (ret := none) (by decide) rfl (Nat.le_of_ble_eq_true rfl) ?_
  intro p e s m below meth c ls hx hb hr hts hown hlocks hml hK hA hG hS hl
  have hl : lv_has ls 3 [(0, .ref (L b)), (1, .ref (L b2))] := hl
  have hf32 := hts (.fieldLink RX3 32 "SiloPads$Yard" "settings" "[I") (by decide +kernel)
  have hinX3 : ∀ w ∈ u_ws RX3 TX3 9, w ∈ wsX3_becomeLike := by decide +kernel
  have hf35 := hts (.fieldLink RX3 35 "SiloPads$Yard" "days" "I") (by decide +kernel)
  have hf39 := hts (.fieldLink RX3 39 "SiloPads$Yard" "dust" "I") (by decide +kernel)
  have hf42 := hts (.fieldLink RX3 42 "SiloPads$Yard" "brought" "I") (by decide +kernel)
  have hf45 := hts (.fieldLink RX3 45 "SiloPads$Yard" "gone" "I") (by decide +kernel)
  have hf48 := hts (.fieldLink RX3 48 "SiloPads$Yard" "shakes" "I") (by decide +kernel)
  have hf51 := hts (.fieldLink RX3 51 "SiloPads$Yard" "formed" "I") (by decide +kernel)
  have hf19 := hts (.fieldLink RX3 19 "SiloPads$Yard" "ships" "[LSiloPads$Ship;") (by decide +kernel)
  have hf11 := hts (.fieldLink RX3 11 "SiloPads$Yard" "silos" "[LSiloPads$Silo;") (by decide +kernel)
  refine lv_iconst (v := 0) hx hb dX3_becomeLike_0 (by decide) ?_
  refine lv_istore_n (lv' := [(2, .int 0), (0, .ref (L b)), (1, .ref (L b2))]) hx hb dX3_becomeLike_1 rfl hl (by decide) rfl (fun ls hl => ?_)
  refine W.loop (σ := Nat) (fun k H locs ls => (k ≤ 4) ∧ GW D N L (gA N L s.heap.size) (yW cy L (yW cy L F b2 y2) b (y_lS y y2 k)) H ∧ va_S (gA N L s.heap.size) s.heap H locs ∧ lv_has ls 3 [(2, .int (nI k)), (0, .ref (L b)), (1, .ref (L b2))]) (fun k => 4 - k) 0 ⟨by omega, hG.to (rfl), hS, lv_to (lv_sub hl [0, 1, 2] rfl) (rfl)⟩ ?_
  intro k H locs ls hP9 ih2
  obtain ⟨hk9, hG, hS, hl⟩ := hP9
  refine lv_iload_n hx hb dX3_becomeLike_2 rfl (lv_at hl 0 rfl) ?_
  refine lv_iconst (v := 4) hx hb dX3_becomeLike_3 (by decide) ?_
  refine lv_icmp_ge (tgt := 28) hx hb dX3_becomeLike_4 (by decide) (fun c_4 => ?_) (fun c_4 => ?_)
  · skip
    have c_4 : 4 ≤ k := (nI_leI (a := 4) (b := k) (by omega) (by omega)).mp c_4
    refine lv_iconst (v := 0) hx hb dX3_becomeLike_28 (by decide) ?_
    refine lv_istore_n (lv' := [(2, .int 0), (0, .ref (L b)), (1, .ref (L b2))]) hx hb dX3_becomeLike_29 rfl hl (by decide) rfl (fun ls hl => ?_)
    refine W.loop (σ := Nat) (fun k H locs ls => (k ≤ 6) ∧ GW D N L (gA N L s.heap.size) (yW cy L (yW cy L F b2 y2) b (y_lH (y_lS y y2 4) y2 k)) H ∧ va_S (gA N L s.heap.size) s.heap H locs ∧ lv_has ls 3 [(2, .int (nI k)), (0, .ref (L b)), (1, .ref (L b2))]) (fun k => 6 - k) 0 ⟨by omega, hG.to (by rw [show k = 4 by omega]; rfl), hS, lv_to (lv_sub hl [0, 1, 2] rfl) (rfl)⟩ ?_
    intro k H locs ls hP9 ih30
    obtain ⟨hk9, hG, hS, hl⟩ := hP9
    refine lv_iload_n hx hb dX3_becomeLike_30 rfl (lv_at hl 0 rfl) ?_
    refine lv_bipush (v := 6) hx hb dX3_becomeLike_31 (by decide) ?_
    refine lv_icmp_ge (tgt := 57) hx hb dX3_becomeLike_33 (by decide) (fun c_33 => ?_) (fun c_33 => ?_)
    · skip
      have c_33 : 6 ≤ k := (nI_leI (a := 6) (b := k) (by omega) (by omega)).mp c_33
      refine lv_iconst (v := 0) hx hb dX3_becomeLike_57 (by decide) ?_
      refine lv_istore_n (lv' := [(2, .int 0), (0, .ref (L b)), (1, .ref (L b2))]) hx hb dX3_becomeLike_58 rfl hl (by decide) rfl (fun ls hl => ?_)
      refine W.loop (σ := Nat) (fun k H locs ls => (k ≤ 4) ∧ GW D N L (gA N L s.heap.size) (yW cy L (yW cy L F b2 y2) b (y_lZ (y_lH (y_lS y y2 4) y2 6) y2 k)) H ∧ va_S (gA N L s.heap.size) s.heap H locs ∧ lv_has ls 3 [(2, .int (nI k)), (0, .ref (L b)), (1, .ref (L b2))]) (fun k => 4 - k) 0 ⟨by omega, hG.to (by rw [show k = 6 by omega, y_lZ_0]), hS, lv_to (lv_sub hl [0, 1, 2] rfl) (rfl)⟩ ?_
      intro k H locs ls hP9 ih59
      obtain ⟨hk9, hG, hS, hl⟩ := hP9
      refine lv_iload_n hx hb dX3_becomeLike_59 rfl (lv_at hl 0 rfl) ?_
      refine lv_aload_n hx hb dX3_becomeLike_60 rfl (lv_at hl 1 rfl) ?_
      refine g_get (ci := 3) (C := RX3) (T := TX3) (M := 9) hx hb hts hinX3 hown hK hG (by omega) yW_o rfl 2 (by decide) hf32 rfl rfl dX3_becomeLike_61 ?_
      refine g_alen (t0 := 0) (v := nI 4) hx hb hK hG (by omega) yW_z rfl rfl dX3_becomeLike_64 ?_
      refine lv_icmp_ge (tgt := 95) hx hb dX3_becomeLike_65 (by decide) (fun c_65 => ?_) (fun c_65 => ?_)
      · skip
        have c_65 : 4 ≤ k := (nI_leI (a := 4) (b := k) (by omega) (by omega)).mp c_65
        refine lv_aload_n hx hb dX3_becomeLike_95 rfl (lv_at hl 1 rfl) ?_
        refine lv_aload_n hx hb dX3_becomeLike_96 rfl (lv_at hl 2 rfl) ?_
        refine g_get (ci := 3) (C := RX3) (T := TX3) (M := 9) hx hb hts hinX3 hown hK hG (by omega) (by rw [yW_n (by omega)]; exact yW_o) rfl 3 (by decide) hf35 rfl rfl dX3_becomeLike_97 ?_
        refine g_put (ci := 3) (C := RX3) (T := TX3) (M := 9) (ty := .int) hx hb hts hinX3 tyX3 tyX3_ok nmX3 hown hK hG hS (by omega) yW_o rfl 3 (by decide) hf35 rfl rfl rfl rfl rfl (Nat.le_of_ble_eq_true rfl) dX3_becomeLike_100 rfl (fun H locs hG hS => ?_)
        have hG : GW D N L (gA N L s.heap.size) (yW cy L (yW cy L F b2 y2) b (yS (y_lZ (y_lH (y_lS y y2 4) y2 6) y2 k), yH (y_lZ (y_lH (y_lS y y2 4) y2 6) y2 k), yZ (y_lZ (y_lH (y_lS y y2 4) y2 6) y2 k), upd (yC (y_lZ (y_lH (y_lS y y2 4) y2 6) y2 k)) 0 ((yC y2) 0))) H := hG.to yW_u0
        refine lv_aload_n hx hb dX3_becomeLike_103 rfl (lv_at hl 1 rfl) ?_
        refine lv_aload_n hx hb dX3_becomeLike_104 rfl (lv_at hl 2 rfl) ?_
        refine g_get (ci := 3) (C := RX3) (T := TX3) (M := 9) hx hb hts hinX3 hown hK hG (by omega) (by rw [yW_n (by omega)]; exact yW_o) rfl 4 (by decide) hf39 rfl rfl dX3_becomeLike_105 ?_
        refine g_put (ci := 3) (C := RX3) (T := TX3) (M := 9) (ty := .int) hx hb hts hinX3 tyX3 tyX3_ok nmX3 hown hK hG hS (by omega) yW_o rfl 4 (by decide) hf39 rfl rfl rfl rfl rfl (Nat.le_of_ble_eq_true rfl) dX3_becomeLike_108 rfl (fun H locs hG hS => ?_)
        have hG : GW D N L (gA N L s.heap.size) (yW cy L (yW cy L F b2 y2) b (yS (y_lZ (y_lH (y_lS y y2 4) y2 6) y2 k), yH (y_lZ (y_lH (y_lS y y2 4) y2 6) y2 k), yZ (y_lZ (y_lH (y_lS y y2 4) y2 6) y2 k), upd (upd (yC (y_lZ (y_lH (y_lS y y2 4) y2 6) y2 k)) 0 ((yC y2) 0)) 1 ((yC y2) 1))) H := hG.to yW_u1
        refine lv_aload_n hx hb dX3_becomeLike_111 rfl (lv_at hl 1 rfl) ?_
        refine lv_aload_n hx hb dX3_becomeLike_112 rfl (lv_at hl 2 rfl) ?_
        refine g_get (ci := 3) (C := RX3) (T := TX3) (M := 9) hx hb hts hinX3 hown hK hG (by omega) (by rw [yW_n (by omega)]; exact yW_o) rfl 5 (by decide) hf42 rfl rfl dX3_becomeLike_113 ?_
        refine g_put (ci := 3) (C := RX3) (T := TX3) (M := 9) (ty := .int) hx hb hts hinX3 tyX3 tyX3_ok nmX3 hown hK hG hS (by omega) yW_o rfl 5 (by decide) hf42 rfl rfl rfl rfl rfl (Nat.le_of_ble_eq_true rfl) dX3_becomeLike_116 rfl (fun H locs hG hS => ?_)
        have hG : GW D N L (gA N L s.heap.size) (yW cy L (yW cy L F b2 y2) b (yS (y_lZ (y_lH (y_lS y y2 4) y2 6) y2 k), yH (y_lZ (y_lH (y_lS y y2 4) y2 6) y2 k), yZ (y_lZ (y_lH (y_lS y y2 4) y2 6) y2 k), upd (upd (upd (yC (y_lZ (y_lH (y_lS y y2 4) y2 6) y2 k)) 0 ((yC y2) 0)) 1 ((yC y2) 1)) 2 ((yC y2) 2))) H := hG.to yW_u2
        refine lv_aload_n hx hb dX3_becomeLike_119 rfl (lv_at hl 1 rfl) ?_
        refine lv_aload_n hx hb dX3_becomeLike_120 rfl (lv_at hl 2 rfl) ?_
        refine g_get (ci := 3) (C := RX3) (T := TX3) (M := 9) hx hb hts hinX3 hown hK hG (by omega) (by rw [yW_n (by omega)]; exact yW_o) rfl 6 (by decide) hf45 rfl rfl dX3_becomeLike_121 ?_
        refine g_put (ci := 3) (C := RX3) (T := TX3) (M := 9) (ty := .int) hx hb hts hinX3 tyX3 tyX3_ok nmX3 hown hK hG hS (by omega) yW_o rfl 6 (by decide) hf45 rfl rfl rfl rfl rfl (Nat.le_of_ble_eq_true rfl) dX3_becomeLike_124 rfl (fun H locs hG hS => ?_)
        have hG : GW D N L (gA N L s.heap.size) (yW cy L (yW cy L F b2 y2) b (yS (y_lZ (y_lH (y_lS y y2 4) y2 6) y2 k), yH (y_lZ (y_lH (y_lS y y2 4) y2 6) y2 k), yZ (y_lZ (y_lH (y_lS y y2 4) y2 6) y2 k), upd (upd (upd (upd (yC (y_lZ (y_lH (y_lS y y2 4) y2 6) y2 k)) 0 ((yC y2) 0)) 1 ((yC y2) 1)) 2 ((yC y2) 2)) 3 ((yC y2) 3))) H := hG.to yW_u3
        refine lv_aload_n hx hb dX3_becomeLike_127 rfl (lv_at hl 1 rfl) ?_
        refine lv_aload_n hx hb dX3_becomeLike_128 rfl (lv_at hl 2 rfl) ?_
        refine g_get (ci := 3) (C := RX3) (T := TX3) (M := 9) hx hb hts hinX3 hown hK hG (by omega) (by rw [yW_n (by omega)]; exact yW_o) rfl 7 (by decide) hf48 rfl rfl dX3_becomeLike_129 ?_
        refine g_put (ci := 3) (C := RX3) (T := TX3) (M := 9) (ty := .int) hx hb hts hinX3 tyX3 tyX3_ok nmX3 hown hK hG hS (by omega) yW_o rfl 7 (by decide) hf48 rfl rfl rfl rfl rfl (Nat.le_of_ble_eq_true rfl) dX3_becomeLike_132 rfl (fun H locs hG hS => ?_)
        have hG : GW D N L (gA N L s.heap.size) (yW cy L (yW cy L F b2 y2) b (yS (y_lZ (y_lH (y_lS y y2 4) y2 6) y2 k), yH (y_lZ (y_lH (y_lS y y2 4) y2 6) y2 k), yZ (y_lZ (y_lH (y_lS y y2 4) y2 6) y2 k), upd (upd (upd (upd (upd (yC (y_lZ (y_lH (y_lS y y2 4) y2 6) y2 k)) 0 ((yC y2) 0)) 1 ((yC y2) 1)) 2 ((yC y2) 2)) 3 ((yC y2) 3)) 4 ((yC y2) 4))) H := hG.to yW_u4
        refine lv_aload_n hx hb dX3_becomeLike_135 rfl (lv_at hl 1 rfl) ?_
        refine lv_aload_n hx hb dX3_becomeLike_136 rfl (lv_at hl 2 rfl) ?_
        refine g_get (ci := 3) (C := RX3) (T := TX3) (M := 9) hx hb hts hinX3 hown hK hG (by omega) (by rw [yW_n (by omega)]; exact yW_o) rfl 8 (by decide) hf51 rfl rfl dX3_becomeLike_137 ?_
        refine g_put (ci := 3) (C := RX3) (T := TX3) (M := 9) (ty := .int) hx hb hts hinX3 tyX3 tyX3_ok nmX3 hown hK hG hS (by omega) yW_o rfl 8 (by decide) hf51 rfl rfl rfl rfl rfl (Nat.le_of_ble_eq_true rfl) dX3_becomeLike_140 rfl (fun H locs hG hS => ?_)
        have hG : GW D N L (gA N L s.heap.size) (yW cy L (yW cy L F b2 y2) b (yS (y_lZ (y_lH (y_lS y y2 4) y2 6) y2 k), yH (y_lZ (y_lH (y_lS y y2 4) y2 6) y2 k), yZ (y_lZ (y_lH (y_lS y y2 4) y2 6) y2 k), upd (upd (upd (upd (upd (upd (yC (y_lZ (y_lH (y_lS y y2 4) y2 6) y2 k)) 0 ((yC y2) 0)) 1 ((yC y2) 1)) 2 ((yC y2) 2)) 3 ((yC y2) 3)) 4 ((yC y2) 4)) 5 ((yC y2) 5))) H := hG.to yW_u5
        exact g_vret hx hb hr hlocks hK hG hS dX3_becomeLike_143 ⟨rfl, (by rw [show k = 4 by omega]; rfl)⟩
      · skip
        have c_65 : ¬ 4 ≤ k := fun h9 => c_65 ((nI_leI (a := 4) (b := k) (by omega) (by omega)).mpr h9)
        refine lv_iload_n hx hb dX3_becomeLike_68 rfl (lv_at hl 0 rfl) ?_
        refine lv_aload_n hx hb dX3_becomeLike_69 rfl (lv_at hl 2 rfl) ?_
        refine g_get (ci := 3) (C := RX3) (T := TX3) (M := 9) hx hb hts hinX3 hown hK hG (by omega) (by rw [yW_n (by omega)]; exact yW_o) rfl 2 (by decide) hf32 rfl rfl dX3_becomeLike_70 ?_
        refine g_alen (t0 := 0) (v := nI 4) hx hb hK hG (by omega) (by rw [yW_n (by omega)]; exact yW_z) rfl rfl dX3_becomeLike_73 ?_
        refine lv_icmp_ge (tgt := 95) hx hb dX3_becomeLike_74 (by decide) (fun c_74 => ?_) (fun c_74 => ?_)
        · skip
          exact absurd c_74 (nI_ge (by omega) (by omega))
        · skip
          have c_74 : ¬ 4 ≤ k := fun h9 => c_74 ((nI_leI (a := 4) (b := k) (by omega) (by omega)).mpr h9)
          refine lv_aload_n hx hb dX3_becomeLike_77 rfl (lv_at hl 1 rfl) ?_
          refine g_get (ci := 3) (C := RX3) (T := TX3) (M := 9) hx hb hts hinX3 hown hK hG (by omega) yW_o rfl 2 (by decide) hf32 rfl rfl dX3_becomeLike_78 ?_
          refine lv_iload_n hx hb dX3_becomeLike_81 rfl (lv_at hl 0 rfl) ?_
          refine lv_aload_n hx hb dX3_becomeLike_82 rfl (lv_at hl 2 rfl) ?_
          refine g_get (ci := 3) (C := RX3) (T := TX3) (M := 9) hx hb hts hinX3 hown hK hG (by omega) (by rw [yW_n (by omega)]; exact yW_o) rfl 2 (by decide) hf32 rfl rfl dX3_becomeLike_83 ?_
          refine lv_iload_n hx hb dX3_becomeLike_86 rfl (lv_at hl 0 rfl) ?_
          refine g_iald hx hb hK hG (by omega) (by rw [yW_n (by omega)]; exact yW_z) (k := k) rfl (by omega) (by decide) dX3_becomeLike_87 ?_
          refine g_iast hx hb hK hG hS (by omega) yW_z (k := k) rfl (by omega) (by decide) dX3_becomeLike_88 (fun H locs hG hS => ?_)
          have hG : GW D N L (gA N L s.heap.size) (yW cy L (yW cy L F b2 y2) b (yS (y_lZ (y_lH (y_lS y y2 4) y2 6) y2 k), yH (y_lZ (y_lH (y_lS y y2 4) y2 6) y2 k), upd (yZ (y_lZ (y_lH (y_lS y y2 4) y2 6) y2 k)) k ((yZ y2) k), yC (y_lZ (y_lH (y_lS y y2 4) y2 6) y2 k))) H := hG.to yW_uz
          refine lv_iinc (v := nI (k + 1)) (lv' := [(2, .int (nI (k + 1))), (0, .ref (L b)), (1, .ref (L b2))]) hx hb dX3_becomeLike_89 hl (k := 0) rfl (nI_add k 1) (by decide) rfl (fun ls hl => ?_)
          refine lv_goto (tgt := 59) hx hb dX3_becomeLike_92 (by decide) ?_
          have hl : lv_has ls 3 [(2, .int (nI (k + 1))), (0, .ref (L b)), (1, .ref (L b2))] := lv_sub hl [0, 1, 2] rfl
          exact ih59 (k + 1) _ _ _ (by omega) ⟨by omega, hG.to (by rw [← y_lZ_s]; rfl), hS, lv_to hl (rfl)⟩
    · skip
      have c_33 : ¬ 6 ≤ k := fun h9 => c_33 ((nI_leI (a := 6) (b := k) (by omega) (by omega)).mpr h9)
      refine lv_aload_n hx hb dX3_becomeLike_36 rfl (lv_at hl 1 rfl) ?_
      refine g_get (ci := 3) (C := RX3) (T := TX3) (M := 9) hx hb hts hinX3 hown hK hG (by omega) yW_o rfl 1 (by decide) hf19 rfl rfl dX3_becomeLike_37 ?_
      refine lv_iload_n hx hb dX3_becomeLike_40 rfl (lv_at hl 0 rfl) ?_
      refine g_aald (j := b + 16 + k) hx hb hK hG (by omega) yW_h (t0 := 2) rfl (k := k) rfl (by omega) (by decide) rfl dX3_becomeLike_41 ?_
      refine lv_aload_n hx hb dX3_becomeLike_42 rfl (lv_at hl 2 rfl) ?_
      refine g_get (ci := 3) (C := RX3) (T := TX3) (M := 9) hx hb hts hinX3 hown hK hG (by omega) (by rw [yW_n (by omega)]; exact yW_o) rfl 1 (by decide) hf19 rfl rfl dX3_becomeLike_43 ?_
      refine lv_iload_n hx hb dX3_becomeLike_46 rfl (lv_at hl 0 rfl) ?_
      refine g_aald (j := b2 + 16 + k) hx hb hK hG (by omega) (by rw [yW_n (by omega)]; exact yW_h) (t0 := 2) rfl (k := k) rfl (by omega) (by decide) rfl dX3_becomeLike_47 ?_
      have hG : GW D N L (gA N L s.heap.size) (hW (hW (yW cy L (yW cy L F b2 y2) b (y_lH (y_lS y y2 4) y2 k)) (b2 + 16 + k) ((yH y2) k)) (b + 16 + k) ((yH (y_lH (y_lS y y2 4) y2 k)) k)) H := hG.to (by rw [yy_H0 (by omega) (j := k) (by omega), yW_H0 (j := k) (by omega)])
      refine g_cVv (As := [.ref (L (b2 + 16 + k))]) (rest := []) hx hb hml hown hts hK hA hG hS (k_X0_becomeLike l D cy N L _ _ _ _ _ (by omega) (by omega) (by omega)  ) (cwV 1 hts gX3_becomeLike_X0_becomeLike rfl rfl rfl (by decide +kernel) ⟨Nat.le_of_ble_eq_true rfl, Nat.le_of_ble_eq_true rfl⟩) (by omega) hW_o (ci := 0) rfl rfl rfl rfl hl.1 (Nat.le_of_ble_eq_true rfl) dX3_becomeLike_48 ⟨Nat.zero_le _, Nat.zero_le _⟩ (fun H locs hG hS => ?_)
      have hG : GW D N L (gA N L s.heap.size) (yW cy L (yW cy L F b2 y2) b (ySetH (y_lH (y_lS y y2 4) y2 k) k (hT ((yH y2) k), hH ((yH y2) k)))) H := hG.to (by rw [yy_H0 (by omega) (j := k) (by omega), yW_H (j := k) (by omega)] <;> rfl)
      refine lv_iinc (v := nI (k + 1)) (lv' := [(2, .int (nI (k + 1))), (0, .ref (L b)), (1, .ref (L b2))]) hx hb dX3_becomeLike_51 hl (k := 0) rfl (nI_add k 1) (by decide) rfl (fun ls hl => ?_)
      refine lv_goto (tgt := 30) hx hb dX3_becomeLike_54 (by decide) ?_
      have hl : lv_has ls 3 [(2, .int (nI (k + 1))), (0, .ref (L b)), (1, .ref (L b2))] := lv_sub hl [0, 1, 2] rfl
      exact ih30 (k + 1) _ _ _ (by omega) ⟨by omega, hG.to (rfl), hS, lv_to hl (rfl)⟩
  · skip
    have c_4 : ¬ 4 ≤ k := fun h9 => c_4 ((nI_leI (a := 4) (b := k) (by omega) (by omega)).mpr h9)
    refine lv_aload_n hx hb dX3_becomeLike_7 rfl (lv_at hl 1 rfl) ?_
    refine g_get (ci := 3) (C := RX3) (T := TX3) (M := 9) hx hb hts hinX3 hown hK hG (by omega) yW_o rfl 0 (by decide) hf11 rfl rfl dX3_becomeLike_8 ?_
    refine lv_iload_n hx hb dX3_becomeLike_11 rfl (lv_at hl 0 rfl) ?_
    refine g_aald (j := b + 4 + 3 * k) hx hb hK hG (by omega) yW_s (t0 := 1) rfl (k := k) rfl (by omega) (by decide) rfl dX3_becomeLike_12 ?_
    refine lv_aload_n hx hb dX3_becomeLike_13 rfl (lv_at hl 2 rfl) ?_
    refine g_get (ci := 3) (C := RX3) (T := TX3) (M := 9) hx hb hts hinX3 hown hK hG (by omega) (by rw [yW_n (by omega)]; exact yW_o) rfl 0 (by decide) hf11 rfl rfl dX3_becomeLike_14 ?_
    refine lv_iload_n hx hb dX3_becomeLike_17 rfl (lv_at hl 0 rfl) ?_
    refine g_aald (j := b2 + 4 + 3 * k) hx hb hK hG (by omega) (by rw [yW_n (by omega)]; exact yW_s) (t0 := 1) rfl (k := k) rfl (by omega) (by decide) rfl dX3_becomeLike_18 ?_
    have hG : GW D N L (gA N L s.heap.size) (sW cy L (sW cy L (yW cy L (yW cy L F b2 y2) b (y_lS y y2 k)) (b2 + 4 + 3 * k) ((yS y2) k)) (b + 4 + 3 * k) ((yS (y_lS y y2 k)) k)) H := hG.to (by rw [yy_S0 (by omega) (k := k) (by omega), yW_S0 (k := k) (by omega)])
    refine g_cVv (As := [.ref (L (b2 + 4 + 3 * k))]) (rest := []) hx hb hml hown hts hK hA hG hS (k_X1_becomeLike l D cy N L _ _ _ _ _ (by omega) (by omega) (by omega)  ) (cwV 1 hts gX3_becomeLike_X1_becomeLike rfl rfl rfl (by decide +kernel) ⟨Nat.le_of_ble_eq_true rfl, Nat.le_of_ble_eq_true rfl⟩) (by omega) sW_o (ci := 1) rfl rfl rfl rfl hl.1 (Nat.le_of_ble_eq_true rfl) dX3_becomeLike_19 ⟨Nat.zero_le _, Nat.zero_le _⟩ (fun H locs hG hS => ?_)
    have hG : GW D N L (gA N L s.heap.size) (yW cy L (yW cy L F b2 y2) b (ySetS (y_lS y y2 k) k (cpN (sT ((yS (y_lS y y2 k)) k)) (sT ((yS y2) k)) (0) (0) 10, cpN (sA ((yS (y_lS y y2 k)) k)) (sA ((yS y2) k)) (0) (0) 10, sN ((yS y2) k), sP ((yS y2) k), sC ((yS y2) k), sK ((yS y2) k)))) H := hG.to (by rw [yy_S0 (by omega) (k := k) (by omega), yW_S (k := k) (by omega)] <;> rfl)
    refine lv_iinc (v := nI (k + 1)) (lv' := [(2, .int (nI (k + 1))), (0, .ref (L b)), (1, .ref (L b2))]) hx hb dX3_becomeLike_22 hl (k := 0) rfl (nI_add k 1) (by decide) rfl (fun ls hl => ?_)
    refine lv_goto (tgt := 2) hx hb dX3_becomeLike_25 (by decide) ?_
    have hl : lv_has ls 3 [(2, .int (nI (k + 1))), (0, .ref (L b)), (1, .ref (L b2))] := lv_sub hl [0, 1, 2] rfl
    exact ih2 (k + 1) _ _ _ (by omega) ⟨by omega, hG.to (rfl), hS, lv_to hl (rfl)⟩
end
section
/-! rows of the whole object's cells, and what a store leaves -/
section CWROWS
variable {cy : Nat → ClassId} {L : Nat → Nat} {F : Nat → va_E} {k j p : Nat} {C : CT}
theorem cW_to : cW cy L F C 26 = .inr (1, [.ref (L 27), .ref (L 28), .int (nI (sN (cT C))), .int (sP (cT C)), .int (sC (cT C)), .int (sK (cT C))]) := cW_i (by omega)
theorem cW_ho : cW cy L F C 29 = .inr (0, [.int (hT (cU C)), .int (hH (cU C))]) := cW_i (by omega)
theorem cW_yo : cW cy L F C 1 = .inr (3, [.ref (L 2), .ref (L 3), .ref (L 4), .int (yC (cY C) 0), .int (yC (cY C) 1), .int (yC (cY C) 2), .int (yC (cY C) 3), .int (yC (cY C) 4), .int (yC (cY C) 5)]) := cW_i (by omega)
theorem cW_ys : cW cy L F C 2 = .inl (cy 1, 4, .inr (.inr (.inr (.inr (fun k => some (L (1 + 4 + 3 * k))))))) := cW_i (by omega)
theorem cW_yh : cW cy L F C 3 = .inl (cy 2, 6, .inr (.inr (.inr (.inr (fun j => some (L (1 + 16 + j))))))) := cW_i (by omega)
theorem cW_yz : cW cy L F C 4 = .inl (cy 0, 4, .inl (yZ (cY C))) := cW_i (by omega)
theorem cW_so (hk : k < 4) : cW cy L F C (1 + 4 + 3 * k) = .inr (1, [.ref (L (1 + 4 + 3 * k + 1)), .ref (L (1 + 4 + 3 * k + 2)), .int (nI (sN (yS (cY C) k))), .int (sP (yS (cY C) k)), .int (sC (yS (cY C) k)), .int (sK (yS (cY C) k))]) := by
  rw [show cW cy L F C = yW cy L (cW cy L F C) 1 (cY C) from cW_Y0.symm, yW_so hk]
theorem cW_st (hk : k < 4) : cW cy L F C (1 + 4 + 3 * k + 1) = .inl (cy 0, 10, .inl (sT (yS (cY C) k))) := by
  rw [show cW cy L F C = yW cy L (cW cy L F C) 1 (cY C) from cW_Y0.symm, yW_st hk]
theorem cW_sa (hk : k < 4) : cW cy L F C (1 + 4 + 3 * k + 2) = .inl (cy 0, 10, .inl (sA (yS (cY C) k))) := by
  rw [show cW cy L F C = yW cy L (cW cy L F C) 1 (cY C) from cW_Y0.symm, yW_sa hk]
theorem cW_sh (hj : j < 6) : cW cy L F C (1 + 16 + j) = .inr (0, [.int (hT (yH (cY C) j)), .int (hH (yH (cY C) j))]) := by
  rw [show cW cy L F C = yW cy L (cW cy L F C) 1 (cY C) from cW_Y0.symm, yW_ho hj]
theorem cW_vo (hp : p < 6) : cW cy L F C (30 + 22 * p) = .inr (3, [.ref (L (30 + 22 * p + 1)), .ref (L (30 + 22 * p + 2)), .ref (L (30 + 22 * p + 3)), .int (yC (cV C p) 0), .int (yC (cV C p) 1), .int (yC (cV C p) 2), .int (yC (cV C p) 3), .int (yC (cV C p) 4), .int (yC (cV C p) 5)]) := by
  rw [show cW cy L F C = yW cy L (cW cy L F C) (30 + 22 * p) (cV C p) from (cW_V0 hp).symm, yW_o]
theorem cW_uto {n : Nat} {a b d : Int32} : gup (cW cy L F C) 26 (.inr (1, [.ref (L 27), .ref (L 28), .int (nI n), .int a, .int b, .int d])) = cW cy L F (cMk (cY C) (cV C) (cM C) (cQ C) (cB C) (cL C) (cR C) (sT (cT C), sA (cT C), n, a, b, d) (cU C)) := by
  rw [show cW cy L F C = sW cy L (cW cy L F C) 26 (cT C) from cW_T0.symm]
  exact sW_uo.trans cW_T
theorem cW_uso (hk : k < 4) {n : Nat} {a b d : Int32} : gup (cW cy L F C) (1 + 4 + 3 * k) (.inr (1, [.ref (L (1 + 4 + 3 * k + 1)), .ref (L (1 + 4 + 3 * k + 2)), .int (nI n), .int a, .int b, .int d])) = cW cy L F (cMk (ySetS (cY C) k (sT (yS (cY C) k), sA (yS (cY C) k), n, a, b, d)) (cV C) (cM C) (cQ C) (cB C) (cL C) (cR C) (cT C) (cU C)) := by
  rw [show cW cy L F C = sW cy L (cW cy L F C) (1 + 4 + 3 * k) (yS (cY C) k) from (cW_S0 hk).symm]
  exact sW_uo.trans (cW_S hk)
theorem cW_usho (hj : j < 6) {a b : Int32} : gup (cW cy L F C) (1 + 16 + j) (.inr (0, [.int a, .int b])) = cW cy L F (cMk (ySetH (cY C) j (a, b)) (cV C) (cM C) (cQ C) (cB C) (cL C) (cR C) (cT C) (cU C)) := by
  rw [show cW cy L F C = hW (cW cy L F C) (1 + 16 + j) (yH (cY C) j) from (cW_H0 hj).symm]
  exact hW_uo.trans (cW_H hj)
theorem cW_uyz {f : Nat → Int32} : gup (cW cy L F C) 4 (.inl (cy 0, 4, .inl f)) = cW cy L F (cMk (yS (cY C), yH (cY C), f, yC (cY C)) (cV C) (cM C) (cQ C) (cB C) (cL C) (cR C) (cT C) (cU C)) := by
  rw [show cW cy L F C = yW cy L (cW cy L F C) 1 (cY C) from cW_Y0.symm]
  exact (yW_uz (b := 1)).trans cW_Y
theorem cW_uy0 {x9 : Int32} : gup (cW cy L F C) 1 (.inr (3, [.ref (L 2), .ref (L 3), .ref (L 4), .int x9, .int (yC (cY C) 1), .int (yC (cY C) 2), .int (yC (cY C) 3), .int (yC (cY C) 4), .int (yC (cY C) 5)])) = cW cy L F (cMk (yS (cY C), yH (cY C), yZ (cY C), upd (yC (cY C)) 0 x9) (cV C) (cM C) (cQ C) (cB C) (cL C) (cR C) (cT C) (cU C)) := by
  rw [show cW cy L F C = yW cy L (cW cy L F C) 1 (cY C) from cW_Y0.symm]
  exact (yW_u0 (b := 1)).trans cW_Y
theorem cW_uy1 {x9 : Int32} : gup (cW cy L F C) 1 (.inr (3, [.ref (L 2), .ref (L 3), .ref (L 4), .int (yC (cY C) 0), .int x9, .int (yC (cY C) 2), .int (yC (cY C) 3), .int (yC (cY C) 4), .int (yC (cY C) 5)])) = cW cy L F (cMk (yS (cY C), yH (cY C), yZ (cY C), upd (yC (cY C)) 1 x9) (cV C) (cM C) (cQ C) (cB C) (cL C) (cR C) (cT C) (cU C)) := by
  rw [show cW cy L F C = yW cy L (cW cy L F C) 1 (cY C) from cW_Y0.symm]
  exact (yW_u1 (b := 1)).trans cW_Y
theorem cW_uy2 {x9 : Int32} : gup (cW cy L F C) 1 (.inr (3, [.ref (L 2), .ref (L 3), .ref (L 4), .int (yC (cY C) 0), .int (yC (cY C) 1), .int x9, .int (yC (cY C) 3), .int (yC (cY C) 4), .int (yC (cY C) 5)])) = cW cy L F (cMk (yS (cY C), yH (cY C), yZ (cY C), upd (yC (cY C)) 2 x9) (cV C) (cM C) (cQ C) (cB C) (cL C) (cR C) (cT C) (cU C)) := by
  rw [show cW cy L F C = yW cy L (cW cy L F C) 1 (cY C) from cW_Y0.symm]
  exact (yW_u2 (b := 1)).trans cW_Y
theorem cW_uy3 {x9 : Int32} : gup (cW cy L F C) 1 (.inr (3, [.ref (L 2), .ref (L 3), .ref (L 4), .int (yC (cY C) 0), .int (yC (cY C) 1), .int (yC (cY C) 2), .int x9, .int (yC (cY C) 4), .int (yC (cY C) 5)])) = cW cy L F (cMk (yS (cY C), yH (cY C), yZ (cY C), upd (yC (cY C)) 3 x9) (cV C) (cM C) (cQ C) (cB C) (cL C) (cR C) (cT C) (cU C)) := by
  rw [show cW cy L F C = yW cy L (cW cy L F C) 1 (cY C) from cW_Y0.symm]
  exact (yW_u3 (b := 1)).trans cW_Y
theorem cW_uy4 {x9 : Int32} : gup (cW cy L F C) 1 (.inr (3, [.ref (L 2), .ref (L 3), .ref (L 4), .int (yC (cY C) 0), .int (yC (cY C) 1), .int (yC (cY C) 2), .int (yC (cY C) 3), .int x9, .int (yC (cY C) 5)])) = cW cy L F (cMk (yS (cY C), yH (cY C), yZ (cY C), upd (yC (cY C)) 4 x9) (cV C) (cM C) (cQ C) (cB C) (cL C) (cR C) (cT C) (cU C)) := by
  rw [show cW cy L F C = yW cy L (cW cy L F C) 1 (cY C) from cW_Y0.symm]
  exact (yW_u4 (b := 1)).trans cW_Y
theorem cW_uy5 {x9 : Int32} : gup (cW cy L F C) 1 (.inr (3, [.ref (L 2), .ref (L 3), .ref (L 4), .int (yC (cY C) 0), .int (yC (cY C) 1), .int (yC (cY C) 2), .int (yC (cY C) 3), .int (yC (cY C) 4), .int x9])) = cW cy L F (cMk (yS (cY C), yH (cY C), yZ (cY C), upd (yC (cY C)) 5 x9) (cV C) (cM C) (cQ C) (cB C) (cL C) (cR C) (cT C) (cU C)) := by
  rw [show cW cy L F C = yW cy L (cW cy L F C) 1 (cY C) from cW_Y0.symm]
  exact (yW_u5 (b := 1)).trans cW_Y
end CWROWS
end
section
/-! what the whole object's inner methods answer -/
def wfY (y : YT) : Prop := ∀ k, k < 4 → sN (yS y k) ≤ 10
theorem yS_set {y : YT} {k : Nat} {v : ST} : yS (ySetS y k v) k = v := by simp [yS, yH, ySetS]
theorem yS_setH {y : YT} {k j : Nat} {v : ST} {h : HT} : yS (ySetH (ySetS y k v) j h) k = v := by simp [yS, yH, ySetS, ySetH]
theorem yS_ne {y : YT} {k i : Nat} {v : ST} (h : i ≠ k) : yS (ySetS y k v) i = yS y i := by simp [yS, yH, ySetS, h]
theorem yH_set {y : YT} {j : Nat} {h : HT} : yH (ySetH y j h) j = h := by simp [yS, yH, ySetH]
theorem yH_ne {y : YT} {j i : Nat} {h : HT} (hn : i ≠ j) : yH (ySetH y j h) i = yH y i := by simp [yS, yH, ySetH, hn]
theorem wfY_set {y : YT} {k : Nat} {v : ST} (hy : wfY y) (hv : sN v ≤ 10) : wfY (ySetS y k v) := by
  intro i hi
  by_cases h : i = k
  · subst h
    rw [yS_set]
    exact hv
  · rw [yS_ne h]
    exact hy i hi
def y_let1 (y : YT) (k j q : Nat) : YT := ySetH (ySetS y k (c_poS (yZ y) (yS y k) (yH y j) q).1) j (c_poS (yZ y) (yS y k) (yH y j) q).2
def y_letR (y : YT) (k j q : Nat) : Int32 := c_poR (yZ y) (yS y k) (yH y j) q
def y_let (y : YT) (k j q : Nat) : YT :=
  (yS (y_let1 y k j q), yH (y_let1 y k j q), yZ (y_let1 y k j q), upd (yC (y_let1 y k j q)) 1 (yC (y_let1 y k j q) 1 + (s_total (yS y k) - s_total (yS (y_let1 y k j q) k) - y_letR y k j q)))
def y_d1 (y : YT) : YT := (yS y, yH y, yZ y, upd (yC y) 0 (yC y 0 + 1))
def y_dS (y : YT) : Nat → YT
  | 0 => y_d1 y
  | k + 1 => ySetS (y_dS y k) k (c_dayV (yZ (y_dS y k)) (yS (y_dS y k) k))
def y_dR (y : YT) (a : Int32) : Nat → Int32
  | 0 => a
  | k + 1 => y_dR y a k + c_dayR (yZ (y_dS y k)) (yS (y_dS y k) k)
def y_P (y : YT) : Nat → YT
  | 0 => y
  | d + 1 => y_dS (y_P y d) 4
def y_PR (y : YT) : Nat → Int32
  | 0 => 0
  | d + 1 => y_dR (y_P y d) (y_PR y d) 4
def y_pass (y : YT) (d : Nat) : YT := (yS (y_P y d), yH (y_P y d), yZ (y_P y d), upd (yC (y_P y d)) 5 (yC (y_P y d) 5 + y_PR y d))
theorem c_dayV_N {z : Nat → Int32} {v : ST} : sN (c_dayV z v) = sN v := by
  unfold c_dayV
  split
  · rfl
  · split <;> rfl
theorem wfY_dS {y : YT} (hy : wfY y) : ∀ k, k ≤ 4 → wfY (y_dS y k)
  | 0, _ => hy
  | k + 1, hk => wfY_set (wfY_dS hy k (by omega)) (by rw [c_dayV_N]; exact wfY_dS hy k (by omega) k (by omega))
theorem wfY_P {y : YT} (hy : wfY y) : ∀ d, wfY (y_P y d)
  | 0 => hy
  | d + 1 => wfY_dS (wfY_P hy d) 4 (by omega)
/-- the saved rows turned by one -/
def m_sh (M : Nat → Nat) : Nat → Nat → Nat
  | 0 => M
  | k + 1 => nSet (m_sh M k) k (m_sh M k (k + 1))
def m_rot (M : Nat → Nat) (n : Nat) : Nat → Nat := if n = 6 then nSet (m_sh M 5) 5 (M 0) else M
def n_rot (n : Nat) : Nat := if n = 6 then 5 else n
theorem nSet_lt {M : Nat → Nat} {k p : Nat} (h : ∀ i, i < 6 → M i < 6) (hp : p < 6) : ∀ i, i < 6 → nSet M k p i < 6 := by
  intro i hi
  unfold nSet
  split
  · exact hp
  · exact h i hi
theorem m_sh_lt {M : Nat → Nat} (h : ∀ i, i < 6 → M i < 6) : ∀ k, k ≤ 5 → ∀ i, i < 6 → m_sh M k i < 6
  | 0, _ => h
  | k + 1, hk => nSet_lt (m_sh_lt h k (by omega)) (m_sh_lt h k (by omega) (k + 1) (by omega))
theorem m_rot_lt {M : Nat → Nat} {n : Nat} (h : ∀ i, i < 6 → M i < 6) : ∀ i, i < 6 → m_rot M n i < 6 := by
  unfold m_rot
  split
  · exact nSet_lt (m_sh_lt h 5 (by omega)) (h 0 (by omega))
  · exact h
theorem n_rot_lt {n : Nat} (h : n ≤ 6) : n_rot n < 6 := by
  unfold n_rot
  split <;> omega
def c_save (C : CT) : CT :=
  (cY C, vSet (cV C) (m_rot (cM C) (cQ C) (n_rot (cQ C))) (y_like (cV C (m_rot (cM C) (cQ C) (n_rot (cQ C)))) (cY C)), m_rot (cM C) (cQ C), n_rot (cQ C) + 1, cB C, cL C, cR C, cT C, cU C)
/-- the best of the first silos, 4 for none -/
def y_best (y : YT) : Nat → Nat
  | 0 => 4
  | k + 1 => if sN (yS y k) ≤ 0 then y_best y k else if y_best y k = 4 then k else if c_more (yS y k) (yS y (y_best y k)) = 0 then y_best y k else k
theorem y_best_lt {y : YT} : ∀ k, y_best y k = 4 ∨ y_best y k < k
  | 0 => Or.inl rfl
  | k + 1 => by
    have h := y_best_lt (y := y) k
    unfold y_best
    split
    · omega
    · split
      · omega
      · split <;> omega
def y_next (y : YT) : Nat → Int32
  | 0 => -1
  | k + 1 => if s_can (yS y k) = 0 then y_next y k else if y_next y k = -1 then c_until (yZ y) (sA (yS y k) 0) else if c_until (yZ y) (sA (yS y k) 0) < y_next y k then c_until (yZ y) (sA (yS y k) 0) else y_next y k
def y_soft (y : YT) : Nat → Int32
  | 0 => 0
  | k + 1 => y_soft y k + c_soft (yZ y) (yS y k) (sN (yS y k))
theorem c_noSilo_k {k : Nat} (h : k < 4) : c_noSilo (nI k) = 0 := by
  rcases (show k = 0 ∨ k = 1 ∨ k = 2 ∨ k = 3 by omega) with rfl | rfl | rfl | rfl <;> rfl
theorem c_noShip_j {j : Nat} (h : j < 6) : c_noShip (nI j) = 0 := by
  rcases (show j = 0 ∨ j = 1 ∨ j = 2 ∨ j = 3 ∨ j = 4 ∨ j = 5 by omega) with rfl | rfl | rfl | rfl | rfl | rfl <;> rfl
end
section
/-! the best silo as an answer, how soft -/
def g_bestI (b : Nat) : Int32 := if b = 4 then -1 else nI b
theorem g_bestI_of {b : Nat} (h : b < 4) : g_bestI b = nI b := by
  unfold g_bestI
  rw [if_neg (by omega)]
theorem g_bestI_4 {b k : Nat} (h : b = 4 ∨ b < k) (hk : k ≤ 4) (e : g_bestI b = -1) : b = 4 := by
  rcases h with h | h
  · exact h
  · exfalso
    rw [g_bestI_of (by omega)] at e
    rcases (show b = 0 ∨ b = 1 ∨ b = 2 ∨ b = 3 by omega) with rfl | rfl | rfl | rfl <;> exact absurd e (by decide)
def y_softD (y : YT) : UInt64 := if y_silos y 4 = 0 then FP.dconst1 else FP.ddiv (FP.i2d (y_soft y 4)) (FP.i2d (y_silos y 4))
end
section
set_option maxHeartbeats 4000000 in
set_option maxRecDepth 100000 in
theorem k_X4_letOut (l : Launch) (D : va_G) (cy : Nat → ClassId) (N : Nat) (L : Nat → Nat) (F : Nat → va_E) (hN : 162 ≤ N) (C : CT) (k j q : Nat) (hy : wfY (cY C)) (hk : k < 4) (hj : j < 6) (hq : q < 1000) : GM l D cy N L yX4_letOut wsX4_letOut ({ frames := 4, cells := 0, slots := 0, locals := 93 }) [.ref (L 0), .ref (L (1 + 4 + 3 * k)), .ref (L (1 + 16 + j)), .int (nI q)] (cW cy L F C) (some (.int (y_letR (cY C) k j q))) (cW cy L F (y_let (cY C) k j q, cV C, cM C, cQ C, cB C, cL C, cR C, cT C, cU C)) := by
  refine GM.ofW (cc := cX4_letOut) (maxL := 6) (ret := (some .int)) (by decide) rfl (Nat.le_of_ble_eq_true rfl) ?_
  intro p e s m below meth c ls hx hb hr hts hown hlocks hml hK hA hG hS hl
  have hl : lv_has ls 6 [(0, .ref (L 0)), (1, .ref (L (1 + 4 + 3 * k))), (2, .ref (L (1 + 16 + j))), (3, .int (nI q))] := hl
  have hf10 := hts (.fieldLink RX4 10 "SiloPads" "now" "LSiloPads$Yard;") (by decide +kernel)
  have hinX4 : ∀ w ∈ u_ws RX4 TX4 8, w ∈ wsX4_letOut := by decide +kernel
  have hf222 := hts (.fieldLink RX4 222 "SiloPads$Yard" "dust" "I") (by decide +kernel)
  have hinX3 : ∀ w ∈ u_ws RX3 TX3 9, w ∈ wsX4_letOut := by decide +kernel
  refine lv_aload_n hx hb dX4_letOut_0 rfl (lv_at hl 1 rfl) ?_
  have hG : GW D N L (gA N L s.heap.size) (sW cy L (cW cy L F C) (1 + 4 + 3 * k) (yS (cY C) k)) _ := hG.to (by rw [cW_S0 (k := k) (by omega)])
  refine g_cVi (As := []) (rest := []) hx hb hml hown hts hK hA hG hS (k_X1_total l D cy N L _ (1 + 4 + 3 * k) (yS (cY C) k)  (by omega)  (hy k hk)) (cwV 0 hts gX4_letOut_X1_total rfl rfl rfl (by decide +kernel) ⟨Nat.le_of_ble_eq_true rfl, Nat.le_of_ble_eq_true rfl⟩) (by omega) sW_o (ci := 1) rfl rfl rfl rfl hl.1 (Nat.le_of_ble_eq_true rfl) dX4_letOut_1 ⟨Nat.zero_le _, Nat.zero_le _⟩ (fun H locs hG hS => ?_)
  have hG : GW D N L (gA N L s.heap.size) (cW cy L F C) _ := hG.to (by rw [cW_S0 (k := k) (by omega)] <;> rfl)
  refine lv_istore (lv' := [(4, .int (s_total (yS (cY C) k))), (0, .ref (L 0)), (1, .ref (L (1 + 4 + 3 * k))), (2, .ref (L (1 + 16 + j))), (3, .int (nI q))]) hx hb dX4_letOut_4 hl (by decide) rfl (fun ls hl => ?_)
  refine lv_aload_n hx hb dX4_letOut_6 rfl (lv_at hl 1 rfl) ?_
  refine lv_aload_n hx hb dX4_letOut_7 rfl (lv_at hl 2 rfl) ?_
  refine lv_aload_n hx hb dX4_letOut_8 rfl (lv_at hl 3 rfl) ?_
  refine lv_iload_n hx hb dX4_letOut_9 rfl (lv_at hl 4 rfl) ?_
  have hG : GW D N L (gA N L s.heap.size) (hW (sW cy L (cW cy L F C) (1 + 4 + 3 * k) (yS (cY C) k)) (1 + 16 + j) (yH (cY C) j)) _ := hG.to (by rw [cW_S0 (k := k) (by omega), cW_H0 (j := j) (by omega)])
  refine g_cVi (As := [.ref (L (1 + 4 + 3 * k)), .ref (L (1 + 16 + j)), .int (nI q)]) (rest := []) hx hb hml hown hts hK hA hG hS (k_X4_pour l D cy N L _ (1 + 4 + 3 * k) (yS (cY C) k) (1 + 16 + j) (yH (cY C) j)  (yZ (cY C)) (by omega) (by omega) (by omega) (by omega) (by omega) (cE_cW (F := F) (c := C)) q (hy k hk) (by omega)) (cwV 3 hts gX4_letOut_X4_pour rfl rfl rfl (by decide +kernel) ⟨Nat.le_of_ble_eq_true rfl, Nat.le_of_ble_eq_true rfl⟩) (by omega) (by rw [hW_n (by omega), sW_n (by omega)]; exact cW_o) (ci := 4) rfl rfl rfl rfl hl.1 (Nat.le_of_ble_eq_true rfl) dX4_letOut_10 ⟨Nat.zero_le _, Nat.zero_le _⟩ (fun H locs hG hS => ?_)
  have hG : GW D N L (gA N L s.heap.size) (cW cy L F (ySetH (ySetS (cY C) k ((c_poS (yZ (cY C)) (yS (cY C) k) (yH (cY C) j) q).1)) j ((c_poS (yZ (cY C)) (yS (cY C) k) (yH (cY C) j) q).2), cV C, cM C, cQ C, cB C, cL C, cR C, cT C, cU C)) _ := hG.to (by rw [cW_S (k := k) (by omega), cW_H (j := j) (by omega)] <;> rfl)
  refine lv_istore (lv' := [(5, .int (c_poR (yZ (cY C)) (yS (cY C) k) (yH (cY C) j) q)), (4, .int (s_total (yS (cY C) k))), (0, .ref (L 0)), (1, .ref (L (1 + 4 + 3 * k))), (2, .ref (L (1 + 16 + j))), (3, .int (nI q))]) hx hb dX4_letOut_13 hl (by decide) rfl (fun ls hl => ?_)
  refine lv_aload_n hx hb dX4_letOut_15 rfl (lv_at hl 2 rfl) ?_
  refine g_get (ci := 4) (C := RX4) (T := TX4) (M := 8) hx hb hts hinX4 hown hK hG (by omega) cW_o rfl 0 (by decide) hf10 rfl rfl dX4_letOut_16 ?_
  refine lv_dup hx hb dX4_letOut_19 rfl ?_
  refine g_get (ci := 3) (C := RX3) (T := TX3) (M := 9) hx hb hts hinX3 hown hK hG (by omega) cW_yo rfl 4 (by decide) hf222 rfl rfl dX4_letOut_20 ?_
  refine lv_iload hx hb dX4_letOut_23 (lv_at hl 1 rfl) ?_
  refine lv_aload_n hx hb dX4_letOut_25 rfl (lv_at hl 3 rfl) ?_
  have hG : GW D N L (gA N L s.heap.size) (sW cy L (cW cy L F (ySetH (ySetS (cY C) k ((c_poS (yZ (cY C)) (yS (cY C) k) (yH (cY C) j) q).1)) j ((c_poS (yZ (cY C)) (yS (cY C) k) (yH (cY C) j) q).2), cV C, cM C, cQ C, cB C, cL C, cR C, cT C, cU C)) (1 + 4 + 3 * k) (yS (ySetH (ySetS (cY C) k ((c_poS (yZ (cY C)) (yS (cY C) k) (yH (cY C) j) q).1)) j ((c_poS (yZ (cY C)) (yS (cY C) k) (yH (cY C) j) q).2)) k)) _ := hG.to (by rw [cW_S0 (k := k) (by omega)])
  refine g_cVi (As := []) (rest := [.int (s_total (yS (cY C) k)), .int (yC (ySetH (ySetS (cY C) k ((c_poS (yZ (cY C)) (yS (cY C) k) (yH (cY C) j) q).1)) j ((c_poS (yZ (cY C)) (yS (cY C) k) (yH (cY C) j) q).2)) 1), .ref (L 1)]) hx hb hml hown hts hK hA hG hS (k_X1_total l D cy N L _ (1 + 4 + 3 * k) (yS (ySetH (ySetS (cY C) k ((c_poS (yZ (cY C)) (yS (cY C) k) (yH (cY C) j) q).1)) j ((c_poS (yZ (cY C)) (yS (cY C) k) (yH (cY C) j) q).2)) k)  (by omega)  (by rw [yS_setH]; exact c_po_N (hy k hk) q)) (cwV 0 hts gX4_letOut_X1_total rfl rfl rfl (by decide +kernel) ⟨Nat.le_of_ble_eq_true rfl, Nat.le_of_ble_eq_true rfl⟩) (by omega) sW_o (ci := 1) rfl rfl rfl rfl hl.1 (Nat.le_of_ble_eq_true rfl) dX4_letOut_26 ⟨Nat.zero_le _, Nat.zero_le _⟩ (fun H locs hG hS => ?_)
  have hG : GW D N L (gA N L s.heap.size) (cW cy L F (ySetH (ySetS (cY C) k ((c_poS (yZ (cY C)) (yS (cY C) k) (yH (cY C) j) q).1)) j ((c_poS (yZ (cY C)) (yS (cY C) k) (yH (cY C) j) q).2), cV C, cM C, cQ C, cB C, cL C, cR C, cT C, cU C)) _ := hG.to (by rw [cW_S0 (k := k) (by omega)] <;> rfl)
  refine lv_isub hx hb dX4_letOut_29 ?_
  refine lv_iload hx hb dX4_letOut_30 (lv_at hl 0 rfl) ?_
  refine lv_isub hx hb dX4_letOut_32 ?_
  refine lv_iadd hx hb dX4_letOut_33 ?_
  refine g_put (ci := 3) (C := RX3) (T := TX3) (M := 9) (ty := .int) hx hb hts hinX3 tyX3 tyX3_ok nmX3 hown hK hG hS (by omega) cW_yo rfl 4 (by decide) hf222 rfl rfl rfl rfl rfl (Nat.le_of_ble_eq_true rfl) dX4_letOut_34 rfl (fun H locs hG hS => ?_)
  have hG : GW D N L (gA N L s.heap.size) (cW cy L F ((yS (ySetH (ySetS (cY C) k ((c_poS (yZ (cY C)) (yS (cY C) k) (yH (cY C) j) q).1)) j ((c_poS (yZ (cY C)) (yS (cY C) k) (yH (cY C) j) q).2)), yH (ySetH (ySetS (cY C) k ((c_poS (yZ (cY C)) (yS (cY C) k) (yH (cY C) j) q).1)) j ((c_poS (yZ (cY C)) (yS (cY C) k) (yH (cY C) j) q).2)), yZ (ySetH (ySetS (cY C) k ((c_poS (yZ (cY C)) (yS (cY C) k) (yH (cY C) j) q).1)) j ((c_poS (yZ (cY C)) (yS (cY C) k) (yH (cY C) j) q).2)), upd (yC (ySetH (ySetS (cY C) k ((c_poS (yZ (cY C)) (yS (cY C) k) (yH (cY C) j) q).1)) j ((c_poS (yZ (cY C)) (yS (cY C) k) (yH (cY C) j) q).2))) 1 ((yC (ySetH (ySetS (cY C) k ((c_poS (yZ (cY C)) (yS (cY C) k) (yH (cY C) j) q).1)) j ((c_poS (yZ (cY C)) (yS (cY C) k) (yH (cY C) j) q).2)) 1) + (((s_total (yS (cY C) k)) - (s_total (yS (ySetH (ySetS (cY C) k ((c_poS (yZ (cY C)) (yS (cY C) k) (yH (cY C) j) q).1)) j ((c_poS (yZ (cY C)) (yS (cY C) k) (yH (cY C) j) q).2)) k))) - (c_poR (yZ (cY C)) (yS (cY C) k) (yH (cY C) j) q)))), cV C, cM C, cQ C, cB C, cL C, cR C, cT C, cU C)) _ := hG.to cW_uy1
  refine lv_iload hx hb dX4_letOut_37 (lv_at hl 0 rfl) ?_
  exact g_iret hx hb hr hlocks hK hG hS rfl dX4_letOut_39 ⟨(congrArg (fun z9 => some (Value.int z9)) (by rfl)), (by rfl)⟩
set_option maxHeartbeats 4000000 in
set_option maxRecDepth 100000 in
theorem k_X4_passDays (l : Launch) (D : va_G) (cy : Nat → ClassId) (N : Nat) (L : Nat → Nat) (F : Nat → va_E) (hN : 162 ≤ N) (C : CT) (d : Nat) (hy : wfY (cY C)) (hd : d < 1000) : GM l D cy N L yX4_passDays wsX4_passDays ({ frames := 2, cells := 0, slots := 0, locals := 43 }) [.ref (L 0), .int (nI d)] (cW cy L F C) (some (.int (y_PR (cY C) d))) (cW cy L F (y_pass (cY C) d, cV C, cM C, cQ C, cB C, cL C, cR C, cT C, cU C)) := by
  refine GM.ofW (cc := cX4_passDays) (maxL := 5) (ret := (some .int)) (by decide) rfl (Nat.le_of_ble_eq_true rfl) ?_
  intro p e s m below meth c ls hx hb hr hts hown hlocks hml hK hA hG hS hl
  have hl : lv_has ls 5 [(0, .ref (L 0)), (1, .int (nI d))] := hl
  have hf10 := hts (.fieldLink RX4 10 "SiloPads" "now" "LSiloPads$Yard;") (by decide +kernel)
  have hinX4 : ∀ w ∈ u_ws RX4 TX4 8, w ∈ wsX4_passDays := by decide +kernel
  have hf228 := hts (.fieldLink RX4 228 "SiloPads$Yard" "formed" "I") (by decide +kernel)
  have hinX3 : ∀ w ∈ u_ws RX3 TX3 9, w ∈ wsX4_passDays := by decide +kernel
  have hf213 := hts (.fieldLink RX4 213 "SiloPads$Yard" "days" "I") (by decide +kernel)
  have hf94 := hts (.fieldLink RX4 94 "SiloPads$Yard" "silos" "[LSiloPads$Silo;") (by decide +kernel)
  refine lv_iconst (v := 0) hx hb dX4_passDays_0 (by decide) ?_
  refine lv_istore_n (lv' := [(2, .int 0), (0, .ref (L 0)), (1, .int (nI d))]) hx hb dX4_passDays_1 rfl hl (by decide) rfl (fun ls hl => ?_)
  refine lv_iconst (v := 0) hx hb dX4_passDays_2 (by decide) ?_
  refine lv_istore_n (lv' := [(3, .int 0), (2, .int 0), (0, .ref (L 0)), (1, .int (nI d))]) hx hb dX4_passDays_3 rfl hl (by decide) rfl (fun ls hl => ?_)
  refine W.loop (σ := Nat) (fun i H locs ls => (i ≤ d) ∧ GW D N L (gA N L s.heap.size) (cW cy L F (y_P (cY C) i, cV C, cM C, cQ C, cB C, cL C, cR C, cT C, cU C)) H ∧ va_S (gA N L s.heap.size) s.heap H locs ∧ lv_has ls 5 [(2, .int (y_PR (cY C) i)), (3, .int (nI i)), (0, .ref (L 0)), (1, .int (nI d))]) (fun i => d - i) 0 ⟨by omega, hG.to (rfl), hS, lv_to (lv_sub hl [1, 0, 2, 3] rfl) (rfl)⟩ ?_
  intro i H locs ls hP9 ih4
  obtain ⟨hi9, hG, hS, hl⟩ := hP9
  have hy9 := wfY_P hy i
  refine lv_iload_n hx hb dX4_passDays_4 rfl (lv_at hl 1 rfl) ?_
  refine lv_iload_n hx hb dX4_passDays_5 rfl (lv_at hl 3 rfl) ?_
  refine lv_icmp_ge (tgt := 60) hx hb dX4_passDays_6 (by decide) (fun c_6 => ?_) (fun c_6 => ?_)
  · skip
    have c_6 : d ≤ i := (nI_leI (a := d) (b := i) (by omega) (by omega)).mp c_6
    refine lv_aload_n hx hb dX4_passDays_60 rfl (lv_at hl 2 rfl) ?_
    refine g_get (ci := 4) (C := RX4) (T := TX4) (M := 8) hx hb hts hinX4 hown hK hG (by omega) cW_o rfl 0 (by decide) hf10 rfl rfl dX4_passDays_61 ?_
    refine lv_dup hx hb dX4_passDays_64 rfl ?_
    refine g_get (ci := 3) (C := RX3) (T := TX3) (M := 9) hx hb hts hinX3 hown hK hG (by omega) cW_yo rfl 8 (by decide) hf228 rfl rfl dX4_passDays_65 ?_
    refine lv_iload_n hx hb dX4_passDays_68 rfl (lv_at hl 0 rfl) ?_
    refine lv_iadd hx hb dX4_passDays_69 ?_
    refine g_put (ci := 3) (C := RX3) (T := TX3) (M := 9) (ty := .int) hx hb hts hinX3 tyX3 tyX3_ok nmX3 hown hK hG hS (by omega) cW_yo rfl 8 (by decide) hf228 rfl rfl rfl rfl rfl (Nat.le_of_ble_eq_true rfl) dX4_passDays_70 rfl (fun H locs hG hS => ?_)
    have hG : GW D N L (gA N L s.heap.size) (cW cy L F ((yS (y_P (cY C) i), yH (y_P (cY C) i), yZ (y_P (cY C) i), upd (yC (y_P (cY C) i)) 5 ((yC (y_P (cY C) i) 5) + (y_PR (cY C) i))), cV C, cM C, cQ C, cB C, cL C, cR C, cT C, cU C)) _ := hG.to cW_uy5
    refine lv_iload_n hx hb dX4_passDays_73 rfl (lv_at hl 0 rfl) ?_
    exact g_iret hx hb hr hlocks hK hG hS rfl dX4_passDays_74 ⟨(congrArg (fun z9 => some (Value.int z9)) (by rw [show i = d by omega])), (by rw [show i = d by omega]; rfl)⟩
  · skip
    have c_6 : ¬ d ≤ i := fun h9 => c_6 ((nI_leI (a := d) (b := i) (by omega) (by omega)).mpr h9)
    refine lv_aload_n hx hb dX4_passDays_9 rfl (lv_at hl 2 rfl) ?_
    refine g_get (ci := 4) (C := RX4) (T := TX4) (M := 8) hx hb hts hinX4 hown hK hG (by omega) cW_o rfl 0 (by decide) hf10 rfl rfl dX4_passDays_10 ?_
    refine lv_dup hx hb dX4_passDays_13 rfl ?_
    refine g_get (ci := 3) (C := RX3) (T := TX3) (M := 9) hx hb hts hinX3 hown hK hG (by omega) cW_yo rfl 3 (by decide) hf213 rfl rfl dX4_passDays_14 ?_
    refine lv_iconst (v := 1) hx hb dX4_passDays_17 (by decide) ?_
    refine lv_iadd hx hb dX4_passDays_18 ?_
    refine g_put (ci := 3) (C := RX3) (T := TX3) (M := 9) (ty := .int) hx hb hts hinX3 tyX3 tyX3_ok nmX3 hown hK hG hS (by omega) cW_yo rfl 3 (by decide) hf213 rfl rfl rfl rfl rfl (Nat.le_of_ble_eq_true rfl) dX4_passDays_19 rfl (fun H locs hG hS => ?_)
    have hG : GW D N L (gA N L s.heap.size) (cW cy L F ((yS (y_P (cY C) i), yH (y_P (cY C) i), yZ (y_P (cY C) i), upd (yC (y_P (cY C) i)) 0 ((yC (y_P (cY C) i) 0) + 1)), cV C, cM C, cQ C, cB C, cL C, cR C, cT C, cU C)) _ := hG.to cW_uy0
    refine lv_iconst (v := 0) hx hb dX4_passDays_22 (by decide) ?_
    refine lv_istore (lv' := [(4, .int 0), (2, .int (y_PR (cY C) i)), (3, .int (nI i)), (0, .ref (L 0)), (1, .int (nI d))]) hx hb dX4_passDays_23 hl (by decide) rfl (fun ls hl => ?_)
    refine W.loop (σ := Nat) (fun k H locs ls => (k ≤ 4) ∧ GW D N L (gA N L s.heap.size) (cW cy L F (y_dS (y_P (cY C) i) k, cV C, cM C, cQ C, cB C, cL C, cR C, cT C, cU C)) H ∧ va_S (gA N L s.heap.size) s.heap H locs ∧ lv_has ls 5 [(2, .int (y_dR (y_P (cY C) i) (y_PR (cY C) i) k)), (4, .int (nI k)), (3, .int (nI i)), (0, .ref (L 0)), (1, .int (nI d))]) (fun k => 4 - k) 0 ⟨by omega, hG.to (rfl), hS, lv_to (lv_sub hl [1, 0, 2, 3, 4] rfl) (rfl)⟩ ?_
    intro k H locs ls hP9 ih25
    obtain ⟨hk9, hG, hS, hl⟩ := hP9
    have hy8 := wfY_dS hy9 k hk9
    refine lv_iload hx hb dX4_passDays_25 (lv_at hl 1 rfl) ?_
    refine lv_iconst (v := 4) hx hb dX4_passDays_27 (by decide) ?_
    refine lv_icmp_ge (tgt := 54) hx hb dX4_passDays_28 (by decide) (fun c_28 => ?_) (fun c_28 => ?_)
    · skip
      have c_28 : 4 ≤ k := (nI_leI (a := 4) (b := k) (by omega) (by omega)).mp c_28
      refine lv_iinc (v := nI (i + 1)) (lv' := [(3, .int (nI (i + 1))), (2, .int (y_dR (y_P (cY C) i) (y_PR (cY C) i) k)), (4, .int (nI k)), (0, .ref (L 0)), (1, .int (nI d))]) hx hb dX4_passDays_54 hl (k := 2) rfl (nI_add i 1) (by decide) rfl (fun ls hl => ?_)
      refine lv_goto (tgt := 4) hx hb dX4_passDays_57 (by decide) ?_
      have hl : lv_has ls 5 [(2, .int (y_dR (y_P (cY C) i) (y_PR (cY C) i) k)), (3, .int (nI (i + 1))), (0, .ref (L 0)), (1, .int (nI d))] := lv_sub hl [1, 0, 3, 4] rfl
      exact ih4 (i + 1) _ _ _ (by omega) ⟨by omega, hG.to (by rw [show k = 4 by omega]; rfl), hS, lv_to hl (by rw [show k = 4 by omega]; rfl)⟩
    · skip
      have c_28 : ¬ 4 ≤ k := fun h9 => c_28 ((nI_leI (a := 4) (b := k) (by omega) (by omega)).mpr h9)
      refine lv_iload_n hx hb dX4_passDays_31 rfl (lv_at hl 0 rfl) ?_
      refine lv_aload_n hx hb dX4_passDays_32 rfl (lv_at hl 3 rfl) ?_
      refine lv_aload_n hx hb dX4_passDays_33 rfl (lv_at hl 3 rfl) ?_
      refine g_get (ci := 4) (C := RX4) (T := TX4) (M := 8) hx hb hts hinX4 hown hK hG (by omega) cW_o rfl 0 (by decide) hf10 rfl rfl dX4_passDays_34 ?_
      refine g_get (ci := 3) (C := RX3) (T := TX3) (M := 9) hx hb hts hinX3 hown hK hG (by omega) cW_yo rfl 0 (by decide) hf94 rfl rfl dX4_passDays_37 ?_
      refine lv_iload hx hb dX4_passDays_40 (lv_at hl 1 rfl) ?_
      refine g_aald (j := 1 + 4 + 3 * k) hx hb hK hG (by omega) cW_ys (t0 := 1) rfl (k := k) rfl (by omega) (by decide) rfl dX4_passDays_42 ?_
      have hG : GW D N L (gA N L s.heap.size) (sW cy L (cW cy L F (y_dS (y_P (cY C) i) k, cV C, cM C, cQ C, cB C, cL C, cR C, cT C, cU C)) (1 + 4 + 3 * k) (yS (y_dS (y_P (cY C) i) k) k)) _ := hG.to (by rw [cW_S0 (k := k) (by omega)])
      refine g_cVi (As := [.ref (L (1 + 4 + 3 * k))]) (rest := [.int (y_dR (y_P (cY C) i) (y_PR (cY C) i) k)]) hx hb hml hown hts hK hA hG hS (k_X4_passDayIn l D cy N L _ (1 + 4 + 3 * k) (yS (y_dS (y_P (cY C) i) k) k)  (yZ (y_dS (y_P (cY C) i) k)) (by omega) (by omega) (cE_cW (F := F) (c := (y_dS (y_P (cY C) i) k, cV C, cM C, cQ C, cB C, cL C, cR C, cT C, cU C)))  (hy8 k (by omega))) (cwV 1 hts gX4_passDays_X4_passDayIn rfl rfl rfl (by decide +kernel) ⟨Nat.le_of_ble_eq_true rfl, Nat.le_of_ble_eq_true rfl⟩) (by omega) (by rw [sW_n (by omega)]; exact cW_o) (ci := 4) rfl rfl rfl rfl hl.1 (Nat.le_of_ble_eq_true rfl) dX4_passDays_43 ⟨Nat.zero_le _, Nat.zero_le _⟩ (fun H locs hG hS => ?_)
      have hG : GW D N L (gA N L s.heap.size) (cW cy L F (ySetS (y_dS (y_P (cY C) i) k) k (c_dayV (yZ (y_dS (y_P (cY C) i) k)) (yS (y_dS (y_P (cY C) i) k) k)), cV C, cM C, cQ C, cB C, cL C, cR C, cT C, cU C)) _ := hG.to (by rw [cW_S (k := k) (by omega)] <;> rfl)
      refine lv_iadd hx hb dX4_passDays_46 ?_
      refine lv_istore_n (lv' := [(2, .int ((y_dR (y_P (cY C) i) (y_PR (cY C) i) k) + (c_dayR (yZ (y_dS (y_P (cY C) i) k)) (yS (y_dS (y_P (cY C) i) k) k)))), (4, .int (nI k)), (3, .int (nI i)), (0, .ref (L 0)), (1, .int (nI d))]) hx hb dX4_passDays_47 rfl hl (by decide) rfl (fun ls hl => ?_)
      refine lv_iinc (v := nI (k + 1)) (lv' := [(4, .int (nI (k + 1))), (2, .int ((y_dR (y_P (cY C) i) (y_PR (cY C) i) k) + (c_dayR (yZ (y_dS (y_P (cY C) i) k)) (yS (y_dS (y_P (cY C) i) k) k)))), (3, .int (nI i)), (0, .ref (L 0)), (1, .int (nI d))]) hx hb dX4_passDays_48 hl (k := 1) rfl (nI_add k 1) (by decide) rfl (fun ls hl => ?_)
      refine lv_goto (tgt := 25) hx hb dX4_passDays_51 (by decide) ?_
      have hl : lv_has ls 5 [(2, .int ((y_dR (y_P (cY C) i) (y_PR (cY C) i) k) + (c_dayR (yZ (y_dS (y_P (cY C) i) k)) (yS (y_dS (y_P (cY C) i) k) k)))), (4, .int (nI (k + 1))), (3, .int (nI i)), (0, .ref (L 0)), (1, .int (nI d))] := lv_sub hl [1, 0, 2, 3, 4] rfl
      exact ih25 (k + 1) _ _ _ (by omega) ⟨by omega, hG.to (rfl), hS, lv_to hl (rfl)⟩
set_option maxHeartbeats 4000000 in
set_option maxRecDepth 100000 in
theorem k_X4_urgent (l : Launch) (D : va_G) (cy : Nat → ClassId) (N : Nat) (L : Nat → Nat) (F : Nat → va_E) (hN : 162 ≤ N) (C : CT)  (hy : wfY (cY C)) : GM l D cy N L yX4_urgent wsX4_urgent ({ frames := 3, cells := 0, slots := 0, locals := 64 }) [.ref (L 0)] (cW cy L F C) (some (.int (g_bestI (y_best (cY C) 4)))) (cW cy L F C) := by
  refine GM.ofW (cc := cX4_urgent) (maxL := 3) (ret := (some .int)) (by decide) rfl (Nat.le_of_ble_eq_true rfl) ?_
  intro p e s m below meth c ls hx hb hr hts hown hlocks hml hK hA hG hS hl
  have hl : lv_has ls 3 [(0, .ref (L 0))] := hl
  have hf10 := hts (.fieldLink RX4 10 "SiloPads" "now" "LSiloPads$Yard;") (by decide +kernel)
  have hinX4 : ∀ w ∈ u_ws RX4 TX4 8, w ∈ wsX4_urgent := by decide +kernel
  have hf94 := hts (.fieldLink RX4 94 "SiloPads$Yard" "silos" "[LSiloPads$Silo;") (by decide +kernel)
  have hinX3 : ∀ w ∈ u_ws RX3 TX3 9, w ∈ wsX4_urgent := by decide +kernel
  have hf125 := hts (.fieldLink RX4 125 "SiloPads$Silo" "layers" "I") (by decide +kernel)
  have hinX1 : ∀ w ∈ u_ws RX1 TX1 6, w ∈ wsX4_urgent := by decide +kernel
  refine lv_iconst (v := -1) hx hb dX4_urgent_0 (by decide) ?_
  refine lv_istore_n (lv' := [(1, .int (-1)), (0, .ref (L 0))]) hx hb dX4_urgent_1 rfl hl (by decide) rfl (fun ls hl => ?_)
  refine lv_iconst (v := 0) hx hb dX4_urgent_2 (by decide) ?_
  refine lv_istore_n (lv' := [(2, .int 0), (1, .int (-1)), (0, .ref (L 0))]) hx hb dX4_urgent_3 rfl hl (by decide) rfl (fun ls hl => ?_)
  refine W.loop (σ := Nat) (fun k H locs ls => (k ≤ 4) ∧ GW D N L (gA N L s.heap.size) (cW cy L F C) H ∧ va_S (gA N L s.heap.size) s.heap H locs ∧ lv_has ls 3 [(1, .int (g_bestI (y_best (cY C) k))), (2, .int (nI k)), (0, .ref (L 0))]) (fun k => 4 - k) 0 ⟨by omega, hG.to (rfl), hS, lv_to (lv_sub hl [1, 0, 2] rfl) (rfl)⟩ ?_
  intro k H locs ls hP9 ih4
  obtain ⟨hk9, hG, hS, hl⟩ := hP9
  refine lv_iload_n hx hb dX4_urgent_4 rfl (lv_at hl 1 rfl) ?_
  refine lv_iconst (v := 4) hx hb dX4_urgent_5 (by decide) ?_
  refine lv_icmp_ge (tgt := 61) hx hb dX4_urgent_6 (by decide) (fun c_6 => ?_) (fun c_6 => ?_)
  · skip
    have c_6 : 4 ≤ k := (nI_leI (a := 4) (b := k) (by omega) (by omega)).mp c_6
    refine lv_iload_n hx hb dX4_urgent_61 rfl (lv_at hl 0 rfl) ?_
    exact g_iret hx hb hr hlocks hK hG hS rfl dX4_urgent_62 ⟨(congrArg (fun z9 => some (Value.int z9)) (by rw [show k = 4 by omega])), rfl⟩
  · skip
    have c_6 : ¬ 4 ≤ k := fun h9 => c_6 ((nI_leI (a := 4) (b := k) (by omega) (by omega)).mpr h9)
    have hyk := hy k (by omega)
    refine lv_aload_n hx hb dX4_urgent_9 rfl (lv_at hl 2 rfl) ?_
    refine g_get (ci := 4) (C := RX4) (T := TX4) (M := 8) hx hb hts hinX4 hown hK hG (by omega) cW_o rfl 0 (by decide) hf10 rfl rfl dX4_urgent_10 ?_
    refine g_get (ci := 3) (C := RX3) (T := TX3) (M := 9) hx hb hts hinX3 hown hK hG (by omega) cW_yo rfl 0 (by decide) hf94 rfl rfl dX4_urgent_13 ?_
    refine lv_iload_n hx hb dX4_urgent_16 rfl (lv_at hl 1 rfl) ?_
    refine g_aald (j := 1 + 4 + 3 * k) hx hb hK hG (by omega) cW_ys (t0 := 1) rfl (k := k) rfl (by omega) (by decide) rfl dX4_urgent_17 ?_
    refine g_get (ci := 1) (C := RX1) (T := TX1) (M := 6) hx hb hts hinX1 hown hK hG (by omega) (cW_so (k := k) (by omega)) rfl 2 (by decide) hf125 rfl rfl dX4_urgent_18 ?_
    refine lv_if_le (tgt := 55) hx hb dX4_urgent_21 (by decide) (fun c_21 => ?_) (fun c_21 => ?_)
    · skip
      have c_21 : (sN (yS (cY C) k)) ≤ 0 := (nI_leI (a := sN (yS (cY C) k)) (b := 0) (by omega) (by omega)).mp c_21
      refine lv_iinc (v := nI (k + 1)) (lv' := [(2, .int (nI (k + 1))), (1, .int (g_bestI (y_best (cY C) k))), (0, .ref (L 0))]) hx hb dX4_urgent_55 hl (k := 1) rfl (nI_add k 1) (by decide) rfl (fun ls hl => ?_)
      refine lv_goto (tgt := 4) hx hb dX4_urgent_58 (by decide) ?_
      have hl : lv_has ls 3 [(1, .int (g_bestI (y_best (cY C) k))), (2, .int (nI (k + 1))), (0, .ref (L 0))] := lv_sub hl [1, 0, 2] rfl
      exact ih4 (k + 1) _ _ _ (by omega) ⟨by omega, hG.to (rfl), hS, lv_to hl (by first | (simp only [y_best, hb8, c_6, c_21, if_true, if_false, g_bestI_of (show k < 4 by omega)]; done) | (simp only [y_best, c_6, c_21, if_true, if_false]; done))⟩
    · skip
      have c_21 : ¬ (sN (yS (cY C) k)) ≤ 0 := fun h9 => c_21 ((nI_leI (a := sN (yS (cY C) k)) (b := 0) (by omega) (by omega)).mpr h9)
      refine lv_iload_n hx hb dX4_urgent_24 rfl (lv_at hl 0 rfl) ?_
      refine lv_iconst (v := -1) hx hb dX4_urgent_25 (by decide) ?_
      refine lv_icmp_eq (tgt := 53) hx hb dX4_urgent_26 (by decide) (fun c_26 => ?_) (fun c_26 => ?_)
      · skip
        have hb8 : y_best (cY C) k = 4 := g_bestI_4 (y_best_lt (y := cY C) k) (by omega) c_26
        refine lv_iload_n hx hb dX4_urgent_53 rfl (lv_at hl 1 rfl) ?_
        refine lv_istore_n (lv' := [(1, .int (nI k)), (2, .int (nI k)), (0, .ref (L 0))]) hx hb dX4_urgent_54 rfl hl (by decide) rfl (fun ls hl => ?_)
        refine lv_iinc (v := nI (k + 1)) (lv' := [(2, .int (nI (k + 1))), (1, .int (nI k)), (0, .ref (L 0))]) hx hb dX4_urgent_55 hl (k := 1) rfl (nI_add k 1) (by decide) rfl (fun ls hl => ?_)
        refine lv_goto (tgt := 4) hx hb dX4_urgent_58 (by decide) ?_
        have hl : lv_has ls 3 [(1, .int (nI k)), (2, .int (nI (k + 1))), (0, .ref (L 0))] := lv_sub hl [1, 0, 2] rfl
        exact ih4 (k + 1) _ _ _ (by omega) ⟨by omega, hG.to (rfl), hS, lv_to hl (by first | (simp only [y_best, hb8, c_6, c_21, eq_true c_26, if_true, if_false, g_bestI_of (show k < 4 by omega)]; done) | (simp only [y_best, c_6, c_21, eq_true c_26, if_true, if_false]; done))⟩
      · skip
        have hb8 : ¬ y_best (cY C) k = 4 := fun h9 => c_26 (by rw [h9]; rfl)
        have hb7 := y_best_lt (y := cY C) k
        refine lv_aload_n hx hb dX4_urgent_29 rfl (lv_at hl 2 rfl) ?_
        refine g_get (ci := 4) (C := RX4) (T := TX4) (M := 8) hx hb hts hinX4 hown hK hG (by omega) cW_o rfl 0 (by decide) hf10 rfl rfl dX4_urgent_30 ?_
        refine g_get (ci := 3) (C := RX3) (T := TX3) (M := 9) hx hb hts hinX3 hown hK hG (by omega) cW_yo rfl 0 (by decide) hf94 rfl rfl dX4_urgent_33 ?_
        refine lv_iload_n hx hb dX4_urgent_36 rfl (lv_at hl 1 rfl) ?_
        refine g_aald (j := 1 + 4 + 3 * k) hx hb hK hG (by omega) cW_ys (t0 := 1) rfl (k := k) rfl (by omega) (by decide) rfl dX4_urgent_37 ?_
        refine lv_aload_n hx hb dX4_urgent_38 rfl (lv_at hl 2 rfl) ?_
        refine g_get (ci := 4) (C := RX4) (T := TX4) (M := 8) hx hb hts hinX4 hown hK hG (by omega) cW_o rfl 0 (by decide) hf10 rfl rfl dX4_urgent_39 ?_
        refine g_get (ci := 3) (C := RX3) (T := TX3) (M := 9) hx hb hts hinX3 hown hK hG (by omega) cW_yo rfl 0 (by decide) hf94 rfl rfl dX4_urgent_42 ?_
        refine lv_iload_n hx hb dX4_urgent_45 rfl (lv_at hl 0 rfl) ?_
        refine lv_toN (k := y_best (cY C) k) (g_bestI_of (by omega)) ?_
        refine g_aald (j := 1 + 4 + 3 * (y_best (cY C) k)) hx hb hK hG (by omega) cW_ys (t0 := 1) rfl (k := y_best (cY C) k) rfl (by omega) (by decide) rfl dX4_urgent_46 ?_
        have hG : GW D N L (gA N L s.heap.size) (sW cy L (sW cy L (cW cy L F C) (1 + 4 + 3 * (y_best (cY C) k)) (yS (cY C) (y_best (cY C) k))) (1 + 4 + 3 * k) (yS (cY C) k)) _ := hG.to (by rw [cW_S0 (k := (y_best (cY C) k)) (by omega), cW_S0 (k := k) (by omega)])
        refine g_cSi (As := [.ref (L (1 + 4 + 3 * k)), .ref (L (1 + 4 + 3 * (y_best (cY C) k)))]) (rest := []) hx hb hml hown hts hK hA hG hS (k_X4_isMoreUrgent l D cy N L _ (1 + 4 + 3 * (y_best (cY C) k)) (yS (cY C) (y_best (cY C) k)) (1 + 4 + 3 * k) (yS (cY C) k)  (by omega) (by omega) (by omega)  (hy _ (by omega)) (hy _ (by omega))) (g_cwS 2 hts gX4_urgent_X4_isMoreUrgent rfl rfl rfl (by decide +kernel) ⟨Nat.le_of_ble_eq_true rfl, Nat.le_of_ble_eq_true rfl⟩) rfl rfl hl.1 (Nat.le_of_ble_eq_true rfl) dX4_urgent_47 ⟨Nat.zero_le _, Nat.zero_le _⟩ (fun H locs hG hS => ?_)
        have hG : GW D N L (gA N L s.heap.size) (cW cy L F C) _ := hG.to (by rw [cW_S0 (k := (y_best (cY C) k)) (by omega), cW_S0 (k := k) (by omega)] <;> rfl)
        refine lv_if_eq (tgt := 55) hx hb dX4_urgent_50 (by decide) (fun c_50 => ?_) (fun c_50 => ?_)
        · skip
          refine lv_iinc (v := nI (k + 1)) (lv' := [(2, .int (nI (k + 1))), (1, .int (g_bestI (y_best (cY C) k))), (0, .ref (L 0))]) hx hb dX4_urgent_55 hl (k := 1) rfl (nI_add k 1) (by decide) rfl (fun ls hl => ?_)
          refine lv_goto (tgt := 4) hx hb dX4_urgent_58 (by decide) ?_
          have hl : lv_has ls 3 [(1, .int (g_bestI (y_best (cY C) k))), (2, .int (nI (k + 1))), (0, .ref (L 0))] := lv_sub hl [1, 0, 2] rfl
          exact ih4 (k + 1) _ _ _ (by omega) ⟨by omega, hG.to (rfl), hS, lv_to hl (by first | (simp only [y_best, hb8, c_6, c_21, c_26, eq_true c_50, if_true, if_false, g_bestI_of (show k < 4 by omega)]; done) | (simp only [y_best, c_6, c_21, c_26, eq_true c_50, if_true, if_false]; done))⟩
        · skip
          refine lv_iload_n hx hb dX4_urgent_53 rfl (lv_at hl 1 rfl) ?_
          refine lv_istore_n (lv' := [(1, .int (nI k)), (2, .int (nI k)), (0, .ref (L 0))]) hx hb dX4_urgent_54 rfl hl (by decide) rfl (fun ls hl => ?_)
          refine lv_iinc (v := nI (k + 1)) (lv' := [(2, .int (nI (k + 1))), (1, .int (nI k)), (0, .ref (L 0))]) hx hb dX4_urgent_55 hl (k := 1) rfl (nI_add k 1) (by decide) rfl (fun ls hl => ?_)
          refine lv_goto (tgt := 4) hx hb dX4_urgent_58 (by decide) ?_
          have hl : lv_has ls 3 [(1, .int (nI k)), (2, .int (nI (k + 1))), (0, .ref (L 0))] := lv_sub hl [1, 0, 2] rfl
          exact ih4 (k + 1) _ _ _ (by omega) ⟨by omega, hG.to (rfl), hS, lv_to hl (by first | (simp only [y_best, hb8, c_6, c_21, c_26, c_50, if_true, if_false, g_bestI_of (show k < 4 by omega)]; done) | (simp only [y_best, c_6, c_21, c_26, c_50, if_true, if_false]; done))⟩
set_option maxHeartbeats 4000000 in
set_option maxRecDepth 100000 in
theorem k_X4_softness (l : Launch) (D : va_G) (cy : Nat → ClassId) (N : Nat) (L : Nat → Nat) (F : Nat → va_E) (hN : 162 ≤ N) (C : CT)  (hy : wfY (cY C)) (hf : ¬ y_silos (cY C) 4 = 0 → vf_n64 (FP.ddiv (FP.i2d (y_soft (cY C) 4)) (FP.i2d (y_silos (cY C) 4)))) : GM l D cy N L yX4_softness wsX4_softness ({ frames := 3, cells := 0, slots := 0, locals := 65 }) [.ref (L 0)] (cW cy L F C) (some (.double (y_softD (cY C)))) (cW cy L F C) := by
  refine GM.ofW (cc := cX4_softness) (maxL := 4) (ret := (some .double)) (by decide) rfl (Nat.le_of_ble_eq_true rfl) ?_
  intro p e s m below meth c ls hx hb hr hts hown hlocks hml hK hA hG hS hl
  have hl : lv_has ls 4 [(0, .ref (L 0))] := hl
  have hf10 := hts (.fieldLink RX4 10 "SiloPads" "now" "LSiloPads$Yard;") (by decide +kernel)
  have hinX4 : ∀ w ∈ u_ws RX4 TX4 8, w ∈ wsX4_softness := by decide +kernel
  have hf94 := hts (.fieldLink RX4 94 "SiloPads$Yard" "silos" "[LSiloPads$Silo;") (by decide +kernel)
  have hinX3 : ∀ w ∈ u_ws RX3 TX3 9, w ∈ wsX4_softness := by decide +kernel
  refine lv_aload_n hx hb dX4_softness_0 rfl (lv_at hl 0 rfl) ?_
  refine g_get (ci := 4) (C := RX4) (T := TX4) (M := 8) hx hb hts hinX4 hown hK hG (by omega) cW_o rfl 0 (by decide) hf10 rfl rfl dX4_softness_1 ?_
  have hG : GW D N L (gA N L s.heap.size) (yW cy L (cW cy L F C) (1) (cY C)) _ := hG.to (by rw [cW_Y0 ])
  refine g_cVi (As := []) (rest := []) hx hb hml hown hts hK hA hG hS (k_X3_siloTonnes l D cy N L _ 1 (cY C)  (by omega)  (hy)) (cwV 0 hts gX4_softness_X3_siloTonnes rfl rfl rfl (by decide +kernel) ⟨Nat.le_of_ble_eq_true rfl, Nat.le_of_ble_eq_true rfl⟩) (by omega) yW_o (ci := 3) rfl rfl rfl rfl hl.1 (Nat.le_of_ble_eq_true rfl) dX4_softness_4 ⟨Nat.zero_le _, Nat.zero_le _⟩ (fun H locs hG hS => ?_)
  have hG : GW D N L (gA N L s.heap.size) (cW cy L F C) _ := hG.to (by rw [cW_Y0 ] <;> rfl)
  refine lv_istore_n (lv' := [(1, .int (y_silos (cY C) 4)), (0, .ref (L 0))]) hx hb dX4_softness_7 rfl hl (by decide) rfl (fun ls hl => ?_)
  refine lv_iload_n hx hb dX4_softness_8 rfl (lv_at hl 0 rfl) ?_
  refine lv_if_ne (tgt := 14) hx hb dX4_softness_9 (by decide) (fun c_9 => ?_) (fun c_9 => ?_)
  · skip
    refine lv_iconst (v := 0) hx hb dX4_softness_14 (by decide) ?_
    refine lv_istore_n (lv' := [(2, .int 0), (1, .int (y_silos (cY C) 4)), (0, .ref (L 0))]) hx hb dX4_softness_15 rfl hl (by decide) rfl (fun ls hl => ?_)
    refine lv_iconst (v := 0) hx hb dX4_softness_16 (by decide) ?_
    refine lv_istore_n (lv' := [(3, .int 0), (2, .int 0), (1, .int (y_silos (cY C) 4)), (0, .ref (L 0))]) hx hb dX4_softness_17 rfl hl (by decide) rfl (fun ls hl => ?_)
    refine W.loop (σ := Nat) (fun k H locs ls => (k ≤ 4) ∧ GW D N L (gA N L s.heap.size) (cW cy L F C) H ∧ va_S (gA N L s.heap.size) s.heap H locs ∧ lv_has ls 4 [(2, .int (y_soft (cY C) k)), (3, .int (nI k)), (1, .int (y_silos (cY C) 4)), (0, .ref (L 0))]) (fun k => 4 - k) 0 ⟨by omega, hG.to (rfl), hS, lv_to (lv_sub hl [1, 0, 2, 3] rfl) (rfl)⟩ ?_
    intro k H locs ls hP9 ih18
    obtain ⟨hk9, hG, hS, hl⟩ := hP9
    refine lv_iload_n hx hb dX4_softness_18 rfl (lv_at hl 1 rfl) ?_
    refine lv_iconst (v := 4) hx hb dX4_softness_19 (by decide) ?_
    refine lv_icmp_ge (tgt := 45) hx hb dX4_softness_20 (by decide) (fun c_20 => ?_) (fun c_20 => ?_)
    · skip
      have c_20 : 4 ≤ k := (nI_leI (a := 4) (b := k) (by omega) (by omega)).mp c_20
      refine lv_iload_n hx hb dX4_softness_45 rfl (lv_at hl 0 rfl) ?_
      refine lv_i2d hx hb dX4_softness_46 ?_
      refine lv_iload_n hx hb dX4_softness_47 rfl (lv_at hl 2 rfl) ?_
      refine lv_i2d hx hb dX4_softness_48 ?_
      refine lv_ddiv hx hb dX4_softness_49 (by rw [show k = 4 by omega]; exact hf c_9) ?_
      exact g_dret hx hb hr hlocks hK hG hS dX4_softness_50 ⟨(congrArg (fun z9 => some (Value.double z9)) (by first | (simp only [y_softD, c_9, c_20, if_true, if_false]; done) | (rw [show k = 4 by omega]; simp only [y_softD, c_9, c_20, if_true, if_false]))), rfl⟩
    · skip
      have c_20 : ¬ 4 ≤ k := fun h9 => c_20 ((nI_leI (a := 4) (b := k) (by omega) (by omega)).mpr h9)
      refine lv_iload_n hx hb dX4_softness_23 rfl (lv_at hl 0 rfl) ?_
      refine lv_aload_n hx hb dX4_softness_24 rfl (lv_at hl 3 rfl) ?_
      refine lv_aload_n hx hb dX4_softness_25 rfl (lv_at hl 3 rfl) ?_
      refine g_get (ci := 4) (C := RX4) (T := TX4) (M := 8) hx hb hts hinX4 hown hK hG (by omega) cW_o rfl 0 (by decide) hf10 rfl rfl dX4_softness_26 ?_
      refine g_get (ci := 3) (C := RX3) (T := TX3) (M := 9) hx hb hts hinX3 hown hK hG (by omega) cW_yo rfl 0 (by decide) hf94 rfl rfl dX4_softness_29 ?_
      refine lv_iload_n hx hb dX4_softness_32 rfl (lv_at hl 1 rfl) ?_
      refine g_aald (j := 1 + 4 + 3 * k) hx hb hK hG (by omega) cW_ys (t0 := 1) rfl (k := k) rfl (by omega) (by decide) rfl dX4_softness_33 ?_
      have hG : GW D N L (gA N L s.heap.size) (sW cy L (cW cy L F C) (1 + 4 + 3 * k) (yS (cY C) k)) _ := hG.to (by rw [cW_S0 (k := k) (by omega)])
      refine g_cVi (As := [.ref (L (1 + 4 + 3 * k))]) (rest := [.int (y_soft (cY C) k)]) hx hb hml hown hts hK hA hG hS (k_X4_softTonnes l D cy N L _ (1 + 4 + 3 * k) (yS (cY C) k)  (yZ (cY C)) (by omega) (by omega) (cE_cW (F := F) (c := C))  (hy k (by omega))) (cwV 1 hts gX4_softness_X4_softTonnes rfl rfl rfl (by decide +kernel) ⟨Nat.le_of_ble_eq_true rfl, Nat.le_of_ble_eq_true rfl⟩) (by omega) (by rw [sW_n (by omega)]; exact cW_o) (ci := 4) rfl rfl rfl rfl hl.1 (Nat.le_of_ble_eq_true rfl) dX4_softness_34 ⟨Nat.zero_le _, Nat.zero_le _⟩ (fun H locs hG hS => ?_)
      have hG : GW D N L (gA N L s.heap.size) (cW cy L F C) _ := hG.to (by rw [cW_S0 (k := k) (by omega)] <;> rfl)
      refine lv_iadd hx hb dX4_softness_37 ?_
      refine lv_istore_n (lv' := [(2, .int ((y_soft (cY C) k) + (c_soft (yZ (cY C)) (yS (cY C) k) (sN (yS (cY C) k))))), (3, .int (nI k)), (1, .int (y_silos (cY C) 4)), (0, .ref (L 0))]) hx hb dX4_softness_38 rfl hl (by decide) rfl (fun ls hl => ?_)
      refine lv_iinc (v := nI (k + 1)) (lv' := [(3, .int (nI (k + 1))), (2, .int ((y_soft (cY C) k) + (c_soft (yZ (cY C)) (yS (cY C) k) (sN (yS (cY C) k))))), (1, .int (y_silos (cY C) 4)), (0, .ref (L 0))]) hx hb dX4_softness_39 hl (k := 1) rfl (nI_add k 1) (by decide) rfl (fun ls hl => ?_)
      refine lv_goto (tgt := 18) hx hb dX4_softness_42 (by decide) ?_
      have hl : lv_has ls 4 [(2, .int ((y_soft (cY C) k) + (c_soft (yZ (cY C)) (yS (cY C) k) (sN (yS (cY C) k))))), (3, .int (nI (k + 1))), (1, .int (y_silos (cY C) 4)), (0, .ref (L 0))] := lv_sub hl [1, 0, 2, 3] rfl
      exact ih18 (k + 1) _ _ _ (by omega) ⟨by omega, hG.to (rfl), hS, lv_to hl (rfl)⟩
  · skip
    refine lv_dconst1 hx hb dX4_softness_12 ?_
    exact g_dret hx hb hr hlocks hK hG hS dX4_softness_13 ⟨(congrArg (fun z9 => some (Value.double z9)) (by first | (simp only [y_softD, eq_true c_9, if_true, if_false]; done) | (rw [show k = 4 by omega]; simp only [y_softD, eq_true c_9, if_true, if_false]))), rfl⟩
end
section
set_option maxHeartbeats 4000000 in
set_option maxRecDepth 100000 in
theorem k_X4_saveState (l : Launch) (D : va_G) (cy : Nat → ClassId) (N : Nat) (L : Nat → Nat) (F : Nat → va_E) (hN : 162 ≤ N) (C : CT)  (hq : cQ C ≤ 6) (hm : ∀ i, i < 6 → cM C i < 6) : GM l D cy N L yX4_saveState wsX4_saveState ({ frames := 2, cells := 0, slots := 0, locals := 44 }) [.ref (L 0)] (cW cy L F C) (none) (cW cy L F (c_save C)) := by
  refine GM.ofW (cc := cX4_saveState) (maxL := 3) (ret := none) (by decide) rfl (Nat.le_of_ble_eq_true rfl) ?_
  intro p e s m below meth c ls hx hb hr hts hown hlocks hml hK hA hG hS hl
  have hl : lv_has ls 3 [(0, .ref (L 0))] := hl
  have hf20 := hts (.fieldLink RX4 20 "SiloPads" "savedStates" "I") (by decide +kernel)
  have hinX4 : ∀ w ∈ u_ws RX4 TX4 8, w ∈ wsX4_saveState := by decide +kernel
  have hf16 := hts (.fieldLink RX4 16 "SiloPads" "saved" "[LSiloPads$Yard;") (by decide +kernel)
  have hf10 := hts (.fieldLink RX4 10 "SiloPads" "now" "LSiloPads$Yard;") (by decide +kernel)
  have hm0 := hm 0 (by omega)
  have hr6 := n_rot_lt hq
  have hrl := m_rot_lt (n := cQ C) hm (n_rot (cQ C)) hr6
  refine W.cut (pc2 := 61) (st2 := []) (P := fun H locs ls => (True) ∧ GW D N L (gA N L s.heap.size) (cW cy L F (cY C, cV C, m_rot (cM C) (cQ C), n_rot (cQ C), cB C, cL C, cR C, cT C, cU C)) H ∧ va_S (gA N L s.heap.size) s.heap H locs ∧ lv_has ls 3 [(0, .ref (L 0))]) (fun hcut61 => ?_) (fun H locs ls hP9 => ?_)
  · skip
    refine lv_aload_n hx hb dX4_saveState_0 rfl (lv_at hl 0 rfl) ?_
    refine g_get (ci := 4) (C := RX4) (T := TX4) (M := 8) hx hb hts hinX4 hown hK hG (by omega) cW_o rfl 2 (by decide) hf20 rfl rfl dX4_saveState_1 ?_
    refine lv_bipush (v := 6) hx hb dX4_saveState_4 (by decide) ?_
    refine lv_icmp_ne (tgt := 61) hx hb dX4_saveState_6 (by decide) (fun c_6 => ?_) (fun c_6 => ?_)
    · skip
      have c_6 : ¬ (cQ C) = 6 := fun h9 => c_6 ((nI_eq (a := cQ C) (b := 6) (by omega) (by omega)).mpr h9)
      have hl : lv_has ls 3 [(0, .ref (L 0))] := lv_sub hl [0] rfl
      exact hcut61 _ _ _ ⟨trivial, hG.to (by first | (simp only [m_rot, n_rot, c_6, if_true, if_false]; done) | (subst hie; simp only [m_rot, n_rot, c_6, if_true, if_false]; rw [show cQ C - 1 = 5 by omega])), hS, lv_to hl (rfl)⟩
    · skip
      have c_6 : (cQ C) = 6 := (nI_eq (a := cQ C) (b := 6) (by omega) (by omega)).mp c_6
      refine lv_aload_n hx hb dX4_saveState_9 rfl (lv_at hl 0 rfl) ?_
      refine g_get (ci := 4) (C := RX4) (T := TX4) (M := 8) hx hb hts hinX4 hown hK hG (by omega) cW_o rfl 1 (by decide) hf16 rfl rfl dX4_saveState_10 ?_
      refine lv_iconst (v := 0) hx hb dX4_saveState_13 (by decide) ?_
      refine g_aald (j := 30 + 22 * ((cM C) 0)) hx hb hK hG (by omega) cW_v (t0 := 3) rfl (k := 0) rfl (by omega) (by decide) rfl dX4_saveState_14 ?_
      refine lv_astore_n (lv' := [(1, .ref (L (30 + 22 * ((cM C) 0)))), (0, .ref (L 0))]) hx hb dX4_saveState_15 rfl hl (by decide) rfl (fun ls hl => ?_)
      refine lv_iconst (v := 1) hx hb dX4_saveState_16 (by decide) ?_
      refine lv_istore_n (lv' := [(2, .int 1), (1, .ref (L (30 + 22 * ((cM C) 0)))), (0, .ref (L 0))]) hx hb dX4_saveState_17 rfl hl (by decide) rfl (fun ls hl => ?_)
      refine W.loop (σ := Nat) (fun i H locs ls => (i ≤ 5) ∧ GW D N L (gA N L s.heap.size) (cW cy L F (cY C, cV C, m_sh (cM C) i, cQ C, cB C, cL C, cR C, cT C, cU C)) H ∧ va_S (gA N L s.heap.size) s.heap H locs ∧ lv_has ls 3 [(2, .int (nI (i + 1))), (1, .ref (L (30 + 22 * ((cM C) 0)))), (0, .ref (L 0))]) (fun i => 5 - i) 0 ⟨by omega, hG.to (rfl), hS, lv_to (lv_sub hl [0, 1, 2] rfl) (rfl)⟩ ?_
      intro i H locs ls hP9 ih18
      obtain ⟨hi9, hG, hS, hl⟩ := hP9
      have hms := m_sh_lt hm i (by omega)
      have hmi := hms i (by omega)
      refine lv_iload_n hx hb dX4_saveState_18 rfl (lv_at hl 0 rfl) ?_
      refine lv_bipush (v := 6) hx hb dX4_saveState_19 (by decide) ?_
      refine lv_icmp_ge (tgt := 44) hx hb dX4_saveState_21 (by decide) (fun c_21 => ?_) (fun c_21 => ?_)
      · skip
        have c_21 : 6 ≤ (i + 1) := (nI_leI (a := 6) (b := i + 1) (by omega) (by omega)).mp c_21
        have hie : i = 5 := by omega
        refine lv_aload_n hx hb dX4_saveState_44 rfl (lv_at hl 2 rfl) ?_
        refine g_get (ci := 4) (C := RX4) (T := TX4) (M := 8) hx hb hts hinX4 hown hK hG (by omega) cW_o rfl 1 (by decide) hf16 rfl rfl dX4_saveState_45 ?_
        refine lv_iconst (v := 5) hx hb dX4_saveState_48 (by decide) ?_
        refine lv_aload_n hx hb dX4_saveState_49 rfl (lv_at hl 1 rfl) ?_
        refine g_aast (j := 30 + 22 * ((cM C) 0)) (ci := 3) hx hb hK hG hS (by omega) cW_v (t0 := 3) rfl (by omega) (cW_vo (p := ((cM C) 0)) (by omega)) rfl (k := 5) rfl (by omega) (by decide) dX4_saveState_50 (fun H locs hG hS => ?_)
        have hG : GW D N L (gA N L s.heap.size) (cW cy L F (cY C, cV C, nSet (m_sh (cM C) i) 5 ((cM C) 0), cQ C, cB C, cL C, cR C, cT C, cU C)) _ := hG.to cW_uv
        refine lv_aload_n hx hb dX4_saveState_51 rfl (lv_at hl 2 rfl) ?_
        refine lv_dup hx hb dX4_saveState_52 rfl ?_
        refine g_get (ci := 4) (C := RX4) (T := TX4) (M := 8) hx hb hts hinX4 hown hK hG (by omega) cW_o rfl 2 (by decide) hf20 rfl rfl dX4_saveState_53 ?_
        refine lv_iconst (v := 1) hx hb dX4_saveState_56 (by decide) ?_
        refine lv_isub hx hb dX4_saveState_57 ?_
        refine lv_toN (k := (cQ C) - 1) (pk_sub (a := cQ C) (b := 1) (by omega)) ?_
        refine g_put (ci := 4) (C := RX4) (T := TX4) (M := 8) (ty := .int) hx hb hts hinX4 tyX4 tyX4_ok nmX4 hown hK hG hS (by omega) cW_o rfl 2 (by decide) hf20 rfl rfl rfl rfl rfl (Nat.le_of_ble_eq_true rfl) dX4_saveState_58 rfl (fun H locs hG hS => ?_)
        have hG : GW D N L (gA N L s.heap.size) (cW cy L F (cY C, cV C, nSet (m_sh (cM C) i) 5 ((cM C) 0), (cQ C) - 1, cB C, cL C, cR C, cT C, cU C)) _ := hG.to cW_uo
        have hl : lv_has ls 3 [(0, .ref (L 0))] := lv_sub hl [2] rfl
        exact hcut61 _ _ _ ⟨trivial, hG.to (by first | (simp only [m_rot, n_rot, eq_true c_6, c_21, if_true, if_false]; done) | (subst hie; simp only [m_rot, n_rot, eq_true c_6, c_21, if_true, if_false]; rw [show cQ C - 1 = 5 by omega])), hS, lv_to hl (rfl)⟩
      · skip
        have c_21 : ¬ 6 ≤ (i + 1) := fun h9 => c_21 ((nI_leI (a := 6) (b := i + 1) (by omega) (by omega)).mpr h9)
        have hmj := hms (i + 1) (by omega)
        refine lv_aload_n hx hb dX4_saveState_24 rfl (lv_at hl 2 rfl) ?_
        refine g_get (ci := 4) (C := RX4) (T := TX4) (M := 8) hx hb hts hinX4 hown hK hG (by omega) cW_o rfl 1 (by decide) hf16 rfl rfl dX4_saveState_25 ?_
        refine lv_iload_n hx hb dX4_saveState_28 rfl (lv_at hl 0 rfl) ?_
        refine lv_iconst (v := 1) hx hb dX4_saveState_29 (by decide) ?_
        refine lv_isub hx hb dX4_saveState_30 ?_
        refine lv_toN (k := (i + 1) - 1) (pk_sub (a := i + 1) (b := 1) (by omega)) ?_
        refine lv_aload_n hx hb dX4_saveState_31 rfl (lv_at hl 2 rfl) ?_
        refine g_get (ci := 4) (C := RX4) (T := TX4) (M := 8) hx hb hts hinX4 hown hK hG (by omega) cW_o rfl 1 (by decide) hf16 rfl rfl dX4_saveState_32 ?_
        refine lv_iload_n hx hb dX4_saveState_35 rfl (lv_at hl 0 rfl) ?_
        refine g_aald (j := 30 + 22 * ((m_sh (cM C) i) (i + 1))) hx hb hK hG (by omega) cW_v (t0 := 3) rfl (k := i + 1) rfl (by omega) (by decide) rfl dX4_saveState_36 ?_
        refine g_aast (j := 30 + 22 * ((m_sh (cM C) i) (i + 1))) (ci := 3) hx hb hK hG hS (by omega) cW_v (t0 := 3) rfl (by omega) (cW_vo (p := ((m_sh (cM C) i) (i + 1))) (by omega)) rfl (k := (i + 1) - 1) rfl (by omega) (by decide) dX4_saveState_37 (fun H locs hG hS => ?_)
        have hG : GW D N L (gA N L s.heap.size) (cW cy L F (cY C, cV C, nSet (m_sh (cM C) i) ((i + 1) - 1) ((m_sh (cM C) i) (i + 1)), cQ C, cB C, cL C, cR C, cT C, cU C)) _ := hG.to cW_uv
        refine lv_iinc (v := nI ((i + 1) + 1)) (lv' := [(2, .int (nI ((i + 1) + 1))), (1, .ref (L (30 + 22 * ((cM C) 0)))), (0, .ref (L 0))]) hx hb dX4_saveState_38 hl (k := 0) rfl (nI_add (i + 1) 1) (by decide) rfl (fun ls hl => ?_)
        refine lv_goto (tgt := 18) hx hb dX4_saveState_41 (by decide) ?_
        have hl : lv_has ls 3 [(2, .int (nI ((i + 1) + 1))), (1, .ref (L (30 + 22 * ((cM C) 0)))), (0, .ref (L 0))] := lv_sub hl [0, 1, 2] rfl
        exact ih18 (i + 1) _ _ _ (by omega) ⟨by omega, hG.to (rfl), hS, lv_to hl (rfl)⟩
  · obtain ⟨-, hG, hS, hl⟩ := hP9
    refine lv_aload_n hx hb dX4_saveState_61 rfl (lv_at hl 0 rfl) ?_
    refine g_get (ci := 4) (C := RX4) (T := TX4) (M := 8) hx hb hts hinX4 hown hK hG (by omega) cW_o rfl 1 (by decide) hf16 rfl rfl dX4_saveState_62 ?_
    refine lv_aload_n hx hb dX4_saveState_65 rfl (lv_at hl 0 rfl) ?_
    refine g_get (ci := 4) (C := RX4) (T := TX4) (M := 8) hx hb hts hinX4 hown hK hG (by omega) cW_o rfl 2 (by decide) hf20 rfl rfl dX4_saveState_66 ?_
    refine g_aald (j := 30 + 22 * ((m_rot (cM C) (cQ C)) (n_rot (cQ C)))) hx hb hK hG (by omega) cW_v (t0 := 3) rfl (k := n_rot (cQ C)) rfl (by omega) (by decide) rfl dX4_saveState_69 ?_
    refine lv_aload_n hx hb dX4_saveState_70 rfl (lv_at hl 0 rfl) ?_
    refine g_get (ci := 4) (C := RX4) (T := TX4) (M := 8) hx hb hts hinX4 hown hK hG (by omega) cW_o rfl 0 (by decide) hf10 rfl rfl dX4_saveState_71 ?_
    have hG : GW D N L (gA N L s.heap.size) (yW cy L (yW cy L (cW cy L F (cY C, cV C, m_rot (cM C) (cQ C), n_rot (cQ C), cB C, cL C, cR C, cT C, cU C)) (1) (cY C)) (30 + 22 * ((m_rot (cM C) (cQ C)) (n_rot (cQ C)))) ((cV C) ((m_rot (cM C) (cQ C)) (n_rot (cQ C))))) _ := hG.to (by rw [cW_Y0 , cW_V0 (p := ((m_rot (cM C) (cQ C)) (n_rot (cQ C)))) (by omega)])
    refine g_cVv (As := [.ref (L 1)]) (rest := []) hx hb hml hown hts hK hA hG hS (k_X3_becomeLike l D cy N L _ 1 (cY C) (30 + 22 * ((m_rot (cM C) (cQ C)) (n_rot (cQ C)))) ((cV C) ((m_rot (cM C) (cQ C)) (n_rot (cQ C))))  (by omega) (by omega) (by omega)  ) (cwV 1 hts gX4_saveState_X3_becomeLike rfl rfl rfl (by decide +kernel) ⟨Nat.le_of_ble_eq_true rfl, Nat.le_of_ble_eq_true rfl⟩) (by omega) yW_o (ci := 3) rfl rfl rfl rfl hl.1 (Nat.le_of_ble_eq_true rfl) dX4_saveState_74 ⟨Nat.zero_le _, Nat.zero_le _⟩ (fun H locs hG hS => ?_)
    have hG : GW D N L (gA N L s.heap.size) (cW cy L F (cY C, vSet (cV C) ((m_rot (cM C) (cQ C)) (n_rot (cQ C))) (y_like ((cV C) ((m_rot (cM C) (cQ C)) (n_rot (cQ C)))) (cY C)), m_rot (cM C) (cQ C), n_rot (cQ C), cB C, cL C, cR C, cT C, cU C)) _ := hG.to (by rw [cW_Y0 , cW_V (p := ((m_rot (cM C) (cQ C)) (n_rot (cQ C)))) (by omega)] <;> rfl)
    refine lv_aload_n hx hb dX4_saveState_77 rfl (lv_at hl 0 rfl) ?_
    refine lv_dup hx hb dX4_saveState_78 rfl ?_
    refine g_get (ci := 4) (C := RX4) (T := TX4) (M := 8) hx hb hts hinX4 hown hK hG (by omega) cW_o rfl 2 (by decide) hf20 rfl rfl dX4_saveState_79 ?_
    refine lv_iconst (v := 1) hx hb dX4_saveState_82 (by decide) ?_
    refine lv_iadd hx hb dX4_saveState_83 ?_
    refine lv_toN (k := (n_rot (cQ C)) + 1) (nI_add (n_rot (cQ C)) 1) ?_
    refine g_put (ci := 4) (C := RX4) (T := TX4) (M := 8) (ty := .int) hx hb hts hinX4 tyX4 tyX4_ok nmX4 hown hK hG hS (by omega) cW_o rfl 2 (by decide) hf20 rfl rfl rfl rfl rfl (Nat.le_of_ble_eq_true rfl) dX4_saveState_84 rfl (fun H locs hG hS => ?_)
    have hG : GW D N L (gA N L s.heap.size) (cW cy L F (cY C, vSet (cV C) ((m_rot (cM C) (cQ C)) (n_rot (cQ C))) (y_like ((cV C) ((m_rot (cM C) (cQ C)) (n_rot (cQ C)))) (cY C)), m_rot (cM C) (cQ C), (n_rot (cQ C)) + 1, cB C, cL C, cR C, cT C, cU C)) _ := hG.to cW_uo
    exact g_vret hx hb hr hlocks hK hG hS dX4_saveState_87 ⟨rfl, (by rfl)⟩
end
section
/-! what the whole object's calls answer -/
def c_setY (C : CT) (y : YT) : CT := (y, cV C, cM C, cQ C, cB C, cL C, cR C, cT C, cU C)
def c_unl (C : CT) (k j : Nat) (t : Int32) : CT :=
  c_setY C (ySetH (ySetS (cY C) k (s_fill (yS (cY C) k) (c_brR (yS (cY C) k) (yH (cY C) j) t))) j (hT (yH (cY C) j) - c_brR (yS (cY C) k) (yH (cY C) j) t, hH (yH (cY C) j)))
def y_ship1 (y : YT) (j : Nat) (u t : Int32) : YT := ySetH (ySetH y j (t, hH (yH y j))) j (hT (yH (ySetH y j (t, hH (yH y j))) j), u)
def y_ship (y : YT) (j : Nat) (u t : Int32) : YT :=
  (yS (y_ship1 y j u t), yH (y_ship1 y j u t), yZ (y_ship1 y j u t), upd (upd (yC (y_ship1 y j u t)) 2 (yC (y_ship1 y j u t) 2 + t)) 3 (upd (yC (y_ship1 y j u t)) 2 (yC (y_ship1 y j u t) 2 + t) 3 + hT (yH y j)))
theorem ySetH_two {y : YT} {j : Nat} {h h2 : HT} : ySetH (ySetH y j h) j h2 = ySetH y j h2 := by
  unfold ySetH
  have e : (fun i => if i = j then h2 else (fun i => if i = j then h else y.2.1 i) i) = fun i => if i = j then h2 else y.2.1 i := by
    funext i
    by_cases hi : i = j <;> simp [hi]
  exact congrArg (fun z => ((y.1, z, y.2.2) : YT)) e
def y_padsS (y : YT) (k : Nat) (q : Int32) : YT := ySetS y k (sT (yS y k), sA (yS y k), sN (yS y k), q, sC (yS y k), sK (yS y k))
def y_shakeR (y : YT) (k : Nat) : Int32 := if c_brk (yZ y) (yS y k) = 1 then 1 else 0
def y_sh0 (y : YT) (k : Nat) : YT := ySetS y k (sT (yS y k), sA (yS y k), sN (yS y k), sP (yS y k), sC (yS y k), sK (yS y k) + 1)
def y_sh1 (y : YT) (k : Nat) : YT := (yS (y_sh0 y k), yH (y_sh0 y k), yZ (y_sh0 y k), upd (yC (y_sh0 y k)) 4 (yC (y_sh0 y k) 4 + 1))
def y_shake1 (y : YT) (k : Nat) : YT := ySetS (y_sh1 y k) k (sT (yS (y_sh1 y k) k), s_young (sA (yS (y_sh1 y k) k)), sN (yS (y_sh1 y k) k), sP (yS (y_sh1 y k) k), sC (yS (y_sh1 y k) k), sK (yS (y_sh1 y k) k))
def y_shake (y : YT) (k : Nat) : YT :=
  if c_brk (yZ y) (yS y k) = 1 then ySetS (y_shake1 y k) k (sT (yS (y_shake1 y k) k), sA (yS (y_shake1 y k) k), sN (yS (y_shake1 y k) k), sP (yS (y_shake1 y k) k), 0, sK (yS (y_shake1 y k) k)) else y_shake1 y k
def y_setZ (y : YT) (i : Nat) (v : Int32) : YT := (yS y, yH y, upd (yZ y) i v, yC y)
def y_tellS (y : YT) (k : Nat) (v : Int32) : Int32 :=
  if v = 0 then s_total (yS y k) else if v = 1 then nI (sN (yS y k)) else if v = 2 then sP (yS y k) else if v = 3 then (if sC (yS y k) = 0 then 0 else 1) else if v = 4 then sK (yS y k) else c_outH (yZ y) (yS y k) (sP (yS y k))
def y_tellL (y : YT) (k j : Nat) (v : Int32) : Int32 :=
  if v = 0 then sT (yS y k) j else if v = 1 then sA (yS y k) j else g_set (sA (yS y k) j) (yZ y 1)
def y_tellH (y : YT) (j : Nat) (v : Int32) : Int32 := if v = 0 then hT (yH y j) else hH (yH y j)
def c_count (C : CT) (v : Int32) : Int32 :=
  if v = 0 then yC (cY C) 0 else if v = 1 then y_silos (cY C) 4 else if v = 2 then y_ships (cY C) 6 else if v = 3 then yC (cY C) 1 else if v = 4 then yC (cY C) 2 else if v = 5 then yC (cY C) 3
  else if v = 6 then y_pads (cY C) 4 else if v = 7 then y_arches (cY C) 4 else if v = 8 then yC (cY C) 4 else if v = 9 then yC (cY C) 5 else if v = 10 then yZ (cY C) 0 else if v = 11 then yZ (cY C) 1 else if v = 12 then yZ (cY C) 2 else if v = 13 then yZ (cY C) 3 else nI (cQ C)
def y_why (y : YT) (k j : Nat) : Int32 :=
  if sN (yS y k) = 0 then 1 else if sC (yS y k) = 2 then 2 else if hH (yH y j) - hT (yH y j) = 0 then 3 else if c_outH (yZ y) (yS y k) (sP (yS y k)) = 0 then 4 else 0
/-- the trial silo and ship, made like the silo k (with u pads) and the ship j -/
def c_tr (C : CT) (k : Nat) (u : Int32) : ST := (cpN (sT (cT C)) (sT (yS (cY C) k)) (0) (0) 10, cpN (sA (cT C)) (sA (yS (cY C) k)) (0) (0) 10, sN (yS (cY C) k), u, sC (yS (cY C) k), sK (yS (cY C) k))
def c_tu (C : CT) (j : Nat) : HT := (hT (yH (cY C) j), hH (yH (cY C) j))
def c_ifR (C : CT) (k j q : Nat) (u : Int32) : Int32 := c_poR (yZ (cY C)) (c_tr C k u) (c_tu C j) q
def c_ifS (C : CT) (k j q : Nat) (u : Int32) : CT :=
  (cY C, cV C, cM C, cQ C, cB C, cL C, cR C, (c_poS (yZ (cY C)) (c_tr C k u) (c_tu C j) q).1, (c_poS (yZ (cY C)) (c_tr C k u) (c_tu C j) q).2)
end
section
set_option maxHeartbeats 4000000 in
set_option maxRecDepth 100000 in
theorem k_X4_unload_ok (l : Launch) (D : va_G) (cy : Nat → ClassId) (N : Nat) (L : Nat → Nat) (F : Nat → va_E) (hN : 162 ≤ N) (C : CT) (k j : Nat) (t : Int32) (hy : wfY (cY C)) (hq : cQ C ≤ 6) (hm : ∀ i, i < 6 → cM C i < 6) (hk : k < 4) (hj : j < 6) (ht1 : ¬ t < 1) (ht2 : t ≤ 500) : GM l D cy N L yX4_unload wsX4_unload ({ frames := 7, cells := 0, slots := 0, locals := 150 }) [.ref (L 0), .int (nI k), .int (nI j), .int t] (cW cy L F C) (some (.int (c_brR (yS (cY C) k) (yH (cY C) j) t))) (cW cy L F (c_unl (c_save C) k j t)) := by
  refine GM.ofW (cc := cX4_unload) (maxL := 4) (ret := (some .int)) (by decide) rfl (Nat.le_of_ble_eq_true rfl) ?_
  intro p e s m below meth c ls hx hb hr hts hown hlocks hml hK hA hG hS hl
  have hl : lv_has ls 4 [(0, .ref (L 0)), (1, .int (nI k)), (2, .int (nI j)), (3, .int t)] := hl
  have hf10 := hts (.fieldLink RX4 10 "SiloPads" "now" "LSiloPads$Yard;") (by decide +kernel)
  have hinX4 : ∀ w ∈ u_ws RX4 TX4 8, w ∈ wsX4_unload := by decide +kernel
  have hf94 := hts (.fieldLink RX4 94 "SiloPads$Yard" "silos" "[LSiloPads$Silo;") (by decide +kernel)
  have hinX3 : ∀ w ∈ u_ws RX3 TX3 9, w ∈ wsX4_unload := by decide +kernel
  have hf71 := hts (.fieldLink RX4 71 "SiloPads$Yard" "ships" "[LSiloPads$Ship;") (by decide +kernel)
  refine lv_iload_n hx hb dX4_unload_0 rfl (lv_at hl 1 rfl) ?_
  refine g_cSi (As := [.int (nI k)]) (rest := []) hx hb hml hown hts hK hA hG hS (k_X4_isNoSilo l D cy N L _ (nI k) ) (g_cwS 1 hts gX4_unload_X4_isNoSilo rfl rfl rfl (by decide +kernel) ⟨Nat.le_of_ble_eq_true rfl, Nat.le_of_ble_eq_true rfl⟩) rfl rfl hl.1 (Nat.le_of_ble_eq_true rfl) dX4_unload_1 ⟨Nat.zero_le _, Nat.zero_le _⟩ (fun H locs hG hS => ?_)
  refine lv_toI (y := 0) (c_noSilo_k hk) ?_
  refine lv_if_ne (tgt := 14) hx hb dX4_unload_4 (by decide) (fun c_4 => ?_) (fun c_4 => ?_)
  · skip
    exact absurd c_4 (by decide)
  · skip
    refine lv_iload_n hx hb dX4_unload_7 rfl (lv_at hl 2 rfl) ?_
    refine g_cSi (As := [.int (nI j)]) (rest := []) hx hb hml hown hts hK hA hG hS (k_X4_isNoShip l D cy N L _ (nI j) ) (g_cwS 1 hts gX4_unload_X4_isNoShip rfl rfl rfl (by decide +kernel) ⟨Nat.le_of_ble_eq_true rfl, Nat.le_of_ble_eq_true rfl⟩) rfl rfl hl.1 (Nat.le_of_ble_eq_true rfl) dX4_unload_8 ⟨Nat.zero_le _, Nat.zero_le _⟩ (fun H locs hG hS => ?_)
    refine lv_toI (y := 0) (c_noShip_j hj) ?_
    refine lv_if_eq (tgt := 24) hx hb dX4_unload_11 (by decide) (fun c_11 => ?_) (fun c_11 => ?_)
    · skip
      refine lv_iload_n hx hb dX4_unload_24 rfl (lv_at hl 3 rfl) ?_
      refine lv_iconst (v := 1) hx hb dX4_unload_25 (by decide) ?_
      refine lv_icmp_lt (tgt := 36) hx hb dX4_unload_26 (by decide) (fun c_26 => ?_) (fun c_26 => ?_)
      · skip
        exact absurd c_26 ht1
      · skip
        refine lv_iload_n hx hb dX4_unload_29 rfl (lv_at hl 3 rfl) ?_
        refine lv_sipush (v := 500) hx hb dX4_unload_30 (by decide) ?_
        refine lv_icmp_le (tgt := 46) hx hb dX4_unload_33 (by decide) (fun c_33 => ?_) (fun c_33 => ?_)
        · skip
          refine lv_aload_n hx hb dX4_unload_46 rfl (lv_at hl 0 rfl) ?_
          refine g_cVv (As := []) (rest := []) hx hb hml hown hts hK hA hG hS (k_X4_saveState l D cy N L _ (by omega) C  (hq) (hm)) (cwV 0 hts gX4_unload_X4_saveState rfl rfl rfl (by decide +kernel) ⟨Nat.le_of_ble_eq_true rfl, Nat.le_of_ble_eq_true rfl⟩) (by omega) cW_o (ci := 4) rfl rfl rfl rfl hl.1 (Nat.le_of_ble_eq_true rfl) dX4_unload_47 ⟨Nat.zero_le _, Nat.zero_le _⟩ (fun H locs hG hS => ?_)
          refine lv_aload_n hx hb dX4_unload_50 rfl (lv_at hl 0 rfl) ?_
          refine lv_aload_n hx hb dX4_unload_51 rfl (lv_at hl 0 rfl) ?_
          refine g_get (ci := 4) (C := RX4) (T := TX4) (M := 8) hx hb hts hinX4 hown hK hG (by omega) cW_o rfl 0 (by decide) hf10 rfl rfl dX4_unload_52 ?_
          refine g_get (ci := 3) (C := RX3) (T := TX3) (M := 9) hx hb hts hinX3 hown hK hG (by omega) cW_yo rfl 0 (by decide) hf94 rfl rfl dX4_unload_55 ?_
          refine lv_iload_n hx hb dX4_unload_58 rfl (lv_at hl 1 rfl) ?_
          refine g_aald (j := 1 + 4 + 3 * k) hx hb hK hG (by omega) cW_ys (t0 := 1) rfl (k := k) rfl (by omega) (by decide) rfl dX4_unload_59 ?_
          refine lv_aload_n hx hb dX4_unload_60 rfl (lv_at hl 0 rfl) ?_
          refine g_get (ci := 4) (C := RX4) (T := TX4) (M := 8) hx hb hts hinX4 hown hK hG (by omega) cW_o rfl 0 (by decide) hf10 rfl rfl dX4_unload_61 ?_
          refine g_get (ci := 3) (C := RX3) (T := TX3) (M := 9) hx hb hts hinX3 hown hK hG (by omega) cW_yo rfl 1 (by decide) hf71 rfl rfl dX4_unload_64 ?_
          refine lv_iload_n hx hb dX4_unload_67 rfl (lv_at hl 2 rfl) ?_
          refine g_aald (j := 1 + 16 + j) hx hb hK hG (by omega) cW_yh (t0 := 2) rfl (k := j) rfl (by omega) (by decide) rfl dX4_unload_68 ?_
          refine lv_iload_n hx hb dX4_unload_69 rfl (lv_at hl 3 rfl) ?_
          have hG : GW D N L (gA N L s.heap.size) (hW (sW cy L (cW cy L F (c_save C)) (1 + 4 + 3 * k) (yS (cY (c_save C)) k)) (1 + 16 + j) (yH (cY (c_save C)) j)) _ := hG.to (by rw [cW_S0 (k := k) (by omega), cW_H0 (j := j) (by omega)])
          refine g_cVi (As := [.ref (L (1 + 4 + 3 * k)), .ref (L (1 + 16 + j)), .int t]) (rest := []) hx hb hml hown hts hK hA hG hS (k_X4_bringIn l D cy N L _ (1 + 4 + 3 * k) (yS (cY (c_save C)) k) (1 + 16 + j) (yH (cY (c_save C)) j)  (yZ (cY (c_save C))) (by omega) (by omega) (by omega) (by omega) (by omega) (cE_cW (F := F) (c := c_save C)) t (hy k hk)) (cwV 3 hts gX4_unload_X4_bringIn rfl rfl rfl (by decide +kernel) ⟨Nat.le_of_ble_eq_true rfl, Nat.le_of_ble_eq_true rfl⟩) (by omega) (by rw [hW_n (by omega), sW_n (by omega)]; exact cW_o) (ci := 4) rfl rfl rfl rfl hl.1 (Nat.le_of_ble_eq_true rfl) dX4_unload_70 ⟨Nat.zero_le _, Nat.zero_le _⟩ (fun H locs hG hS => ?_)
          have hG : GW D N L (gA N L s.heap.size) (cW cy L F (ySetH (ySetS (cY (c_save C)) k (s_fill (yS (cY (c_save C)) k) (c_brR (yS (cY (c_save C)) k) (yH (cY (c_save C)) j) t))) j (hT (yH (cY (c_save C)) j) - c_brR (yS (cY (c_save C)) k) (yH (cY (c_save C)) j) t, hH (yH (cY (c_save C)) j)), cV (c_save C), cM (c_save C), cQ (c_save C), cB (c_save C), cL (c_save C), cR (c_save C), cT (c_save C), cU (c_save C))) _ := hG.to (by rw [cW_S (k := k) (by omega), cW_H (j := j) (by omega)] <;> rfl)
          exact g_iret hx hb hr hlocks hK hG hS rfl dX4_unload_73 ⟨(congrArg (fun z9 => some (Value.int z9)) (by rfl)), (by rfl)⟩
        · skip
          exact absurd ht2 c_33
    · skip
      exact absurd c_11 (by decide)
set_option maxHeartbeats 4000000 in
set_option maxRecDepth 100000 in
theorem k_X4_flow_ok (l : Launch) (D : va_G) (cy : Nat → ClassId) (N : Nat) (L : Nat → Nat) (F : Nat → va_E) (hN : 162 ≤ N) (C : CT) (k j q : Nat) (hy : wfY (cY C)) (hq : cQ C ≤ 6) (hm : ∀ i, i < 6 → cM C i < 6) (hk : k < 4) (hj : j < 6) (h1 : 1 ≤ q) (h2 : q ≤ 24) : GM l D cy N L yX4_flow wsX4_flow ({ frames := 7, cells := 0, slots := 0, locals := 150 }) [.ref (L 0), .int (nI k), .int (nI j), .int (nI q)] (cW cy L F C) (some (.int (y_letR (cY C) k j q))) (cW cy L F (c_setY (c_save C) (y_let (cY C) k j q))) := by
  refine GM.ofW (cc := cX4_flow) (maxL := 4) (ret := (some .int)) (by decide) rfl (Nat.le_of_ble_eq_true rfl) ?_
  intro p e s m below meth c ls hx hb hr hts hown hlocks hml hK hA hG hS hl
  have hl : lv_has ls 4 [(0, .ref (L 0)), (1, .int (nI k)), (2, .int (nI j)), (3, .int (nI q))] := hl
  have hf10 := hts (.fieldLink RX4 10 "SiloPads" "now" "LSiloPads$Yard;") (by decide +kernel)
  have hinX4 : ∀ w ∈ u_ws RX4 TX4 8, w ∈ wsX4_flow := by decide +kernel
  have hf94 := hts (.fieldLink RX4 94 "SiloPads$Yard" "silos" "[LSiloPads$Silo;") (by decide +kernel)
  have hinX3 : ∀ w ∈ u_ws RX3 TX3 9, w ∈ wsX4_flow := by decide +kernel
  have hf71 := hts (.fieldLink RX4 71 "SiloPads$Yard" "ships" "[LSiloPads$Ship;") (by decide +kernel)
  refine lv_iload_n hx hb dX4_flow_0 rfl (lv_at hl 1 rfl) ?_
  refine g_cSi (As := [.int (nI k)]) (rest := []) hx hb hml hown hts hK hA hG hS (k_X4_isNoSilo l D cy N L _ (nI k) ) (g_cwS 1 hts gX4_flow_X4_isNoSilo rfl rfl rfl (by decide +kernel) ⟨Nat.le_of_ble_eq_true rfl, Nat.le_of_ble_eq_true rfl⟩) rfl rfl hl.1 (Nat.le_of_ble_eq_true rfl) dX4_flow_1 ⟨Nat.zero_le _, Nat.zero_le _⟩ (fun H locs hG hS => ?_)
  refine lv_toI (y := 0) (c_noSilo_k hk) ?_
  refine lv_if_ne (tgt := 14) hx hb dX4_flow_4 (by decide) (fun c_4 => ?_) (fun c_4 => ?_)
  · skip
    exact absurd c_4 (by decide)
  · skip
    refine lv_iload_n hx hb dX4_flow_7 rfl (lv_at hl 2 rfl) ?_
    refine g_cSi (As := [.int (nI j)]) (rest := []) hx hb hml hown hts hK hA hG hS (k_X4_isNoShip l D cy N L _ (nI j) ) (g_cwS 1 hts gX4_flow_X4_isNoShip rfl rfl rfl (by decide +kernel) ⟨Nat.le_of_ble_eq_true rfl, Nat.le_of_ble_eq_true rfl⟩) rfl rfl hl.1 (Nat.le_of_ble_eq_true rfl) dX4_flow_8 ⟨Nat.zero_le _, Nat.zero_le _⟩ (fun H locs hG hS => ?_)
    refine lv_toI (y := 0) (c_noShip_j hj) ?_
    refine lv_if_eq (tgt := 24) hx hb dX4_flow_11 (by decide) (fun c_11 => ?_) (fun c_11 => ?_)
    · skip
      refine lv_iload_n hx hb dX4_flow_24 rfl (lv_at hl 3 rfl) ?_
      refine lv_iconst (v := 1) hx hb dX4_flow_25 (by decide) ?_
      refine lv_icmp_lt (tgt := 35) hx hb dX4_flow_26 (by decide) (fun c_26 => ?_) (fun c_26 => ?_)
      · skip
        have c_26 : q < 1 := (nI_ltI (a := q) (b := 1) (by omega) (by omega)).mp c_26
        exfalso; omega
      · skip
        have c_26 : ¬ q < 1 := fun h9 => c_26 ((nI_ltI (a := q) (b := 1) (by omega) (by omega)).mpr h9)
        refine lv_iload_n hx hb dX4_flow_29 rfl (lv_at hl 3 rfl) ?_
        refine lv_bipush (v := 24) hx hb dX4_flow_30 (by decide) ?_
        refine lv_icmp_le (tgt := 45) hx hb dX4_flow_32 (by decide) (fun c_32 => ?_) (fun c_32 => ?_)
        · skip
          have c_32 : q ≤ 24 := (nI_leI (a := q) (b := 24) (by omega) (by omega)).mp c_32
          refine lv_aload_n hx hb dX4_flow_45 rfl (lv_at hl 0 rfl) ?_
          refine g_cVv (As := []) (rest := []) hx hb hml hown hts hK hA hG hS (k_X4_saveState l D cy N L _ (by omega) C  (hq) (hm)) (cwV 0 hts gX4_flow_X4_saveState rfl rfl rfl (by decide +kernel) ⟨Nat.le_of_ble_eq_true rfl, Nat.le_of_ble_eq_true rfl⟩) (by omega) cW_o (ci := 4) rfl rfl rfl rfl hl.1 (Nat.le_of_ble_eq_true rfl) dX4_flow_46 ⟨Nat.zero_le _, Nat.zero_le _⟩ (fun H locs hG hS => ?_)
          refine lv_aload_n hx hb dX4_flow_49 rfl (lv_at hl 0 rfl) ?_
          refine lv_aload_n hx hb dX4_flow_50 rfl (lv_at hl 0 rfl) ?_
          refine g_get (ci := 4) (C := RX4) (T := TX4) (M := 8) hx hb hts hinX4 hown hK hG (by omega) cW_o rfl 0 (by decide) hf10 rfl rfl dX4_flow_51 ?_
          refine g_get (ci := 3) (C := RX3) (T := TX3) (M := 9) hx hb hts hinX3 hown hK hG (by omega) cW_yo rfl 0 (by decide) hf94 rfl rfl dX4_flow_54 ?_
          refine lv_iload_n hx hb dX4_flow_57 rfl (lv_at hl 1 rfl) ?_
          refine g_aald (j := 1 + 4 + 3 * k) hx hb hK hG (by omega) cW_ys (t0 := 1) rfl (k := k) rfl (by omega) (by decide) rfl dX4_flow_58 ?_
          refine lv_aload_n hx hb dX4_flow_59 rfl (lv_at hl 0 rfl) ?_
          refine g_get (ci := 4) (C := RX4) (T := TX4) (M := 8) hx hb hts hinX4 hown hK hG (by omega) cW_o rfl 0 (by decide) hf10 rfl rfl dX4_flow_60 ?_
          refine g_get (ci := 3) (C := RX3) (T := TX3) (M := 9) hx hb hts hinX3 hown hK hG (by omega) cW_yo rfl 1 (by decide) hf71 rfl rfl dX4_flow_63 ?_
          refine lv_iload_n hx hb dX4_flow_66 rfl (lv_at hl 2 rfl) ?_
          refine g_aald (j := 1 + 16 + j) hx hb hK hG (by omega) cW_yh (t0 := 2) rfl (k := j) rfl (by omega) (by decide) rfl dX4_flow_67 ?_
          refine lv_iload_n hx hb dX4_flow_68 rfl (lv_at hl 3 rfl) ?_
          refine g_cVi (As := [.ref (L (1 + 4 + 3 * k)), .ref (L (1 + 16 + j)), .int (nI q)]) (rest := []) hx hb hml hown hts hK hA hG hS (k_X4_letOut l D cy N L _ (by omega) (c_save C) k j q (hy) (by omega) (by omega) (by omega)) (cwV 3 hts gX4_flow_X4_letOut rfl rfl rfl (by decide +kernel) ⟨Nat.le_of_ble_eq_true rfl, Nat.le_of_ble_eq_true rfl⟩) (by omega) cW_o (ci := 4) rfl rfl rfl rfl hl.1 (Nat.le_of_ble_eq_true rfl) dX4_flow_69 ⟨Nat.zero_le _, Nat.zero_le _⟩ (fun H locs hG hS => ?_)
          exact g_iret hx hb hr hlocks hK hG hS rfl dX4_flow_72 ⟨(congrArg (fun z9 => some (Value.int z9)) (by rfl)), (by rfl)⟩
        · skip
          have c_32 : ¬ q ≤ 24 := fun h9 => c_32 ((nI_leI (a := q) (b := 24) (by omega) (by omega)).mpr h9)
          exfalso; omega
    · skip
      exact absurd c_11 (by decide)
set_option maxHeartbeats 4000000 in
set_option maxRecDepth 100000 in
theorem k_X4_ship_ok (l : Launch) (D : va_G) (cy : Nat → ClassId) (N : Nat) (L : Nat → Nat) (F : Nat → va_E) (hN : 162 ≤ N) (C : CT) (j : Nat) (u t : Int32) (hy : wfY (cY C)) (hq : cQ C ≤ 6) (hm : ∀ i, i < 6 → cM C i < 6) (hj : j < 6) (hu1 : ¬ u < 0) (hu2 : ¬ 900 < u) (ht1 : ¬ t < 0) (ht2 : t ≤ u) : GM l D cy N L yX4_ship wsX4_ship ({ frames := 7, cells := 0, slots := 0, locals := 150 }) [.ref (L 0), .int (nI j), .int u, .int t] (cW cy L F C) (some (.int (hT (yH (cY C) j)))) (cW cy L F (c_setY (c_save C) (y_ship (cY C) j u t))) := by
  refine GM.ofW (cc := cX4_ship) (maxL := 6) (ret := (some .int)) (by decide) rfl (Nat.le_of_ble_eq_true rfl) ?_
  intro p e s m below meth c ls hx hb hr hts hown hlocks hml hK hA hG hS hl
  have hl : lv_has ls 6 [(0, .ref (L 0)), (1, .int (nI j)), (2, .int u), (3, .int t)] := hl
  have hf10 := hts (.fieldLink RX4 10 "SiloPads" "now" "LSiloPads$Yard;") (by decide +kernel)
  have hinX4 : ∀ w ∈ u_ws RX4 TX4 8, w ∈ wsX4_ship := by decide +kernel
  have hf71 := hts (.fieldLink RX4 71 "SiloPads$Yard" "ships" "[LSiloPads$Ship;") (by decide +kernel)
  have hinX3 : ∀ w ∈ u_ws RX3 TX3 9, w ∈ wsX4_ship := by decide +kernel
  have hf75 := hts (.fieldLink RX4 75 "SiloPads$Ship" "tonnes" "I") (by decide +kernel)
  have hinX0 : ∀ w ∈ u_ws RX0 TX0 2, w ∈ wsX4_ship := by decide +kernel
  have hf78 := hts (.fieldLink RX4 78 "SiloPads$Ship" "hold" "I") (by decide +kernel)
  have hf81 := hts (.fieldLink RX4 81 "SiloPads$Yard" "brought" "I") (by decide +kernel)
  have hf84 := hts (.fieldLink RX4 84 "SiloPads$Yard" "gone" "I") (by decide +kernel)
  refine lv_iload_n hx hb dX4_ship_0 rfl (lv_at hl 1 rfl) ?_
  refine g_cSi (As := [.int (nI j)]) (rest := []) hx hb hml hown hts hK hA hG hS (k_X4_isNoShip l D cy N L _ (nI j) ) (g_cwS 1 hts gX4_ship_X4_isNoShip rfl rfl rfl (by decide +kernel) ⟨Nat.le_of_ble_eq_true rfl, Nat.le_of_ble_eq_true rfl⟩) rfl rfl hl.1 (Nat.le_of_ble_eq_true rfl) dX4_ship_1 ⟨Nat.zero_le _, Nat.zero_le _⟩ (fun H locs hG hS => ?_)
  refine lv_toI (y := 0) (c_noShip_j hj) ?_
  refine lv_if_eq (tgt := 17) hx hb dX4_ship_4 (by decide) (fun c_4 => ?_) (fun c_4 => ?_)
  · skip
    refine lv_iload_n hx hb dX4_ship_17 rfl (lv_at hl 2 rfl) ?_
    refine lv_if_lt (tgt := 37) hx hb dX4_ship_18 (by decide) (fun c_18 => ?_) (fun c_18 => ?_)
    · skip
      exact absurd c_18 hu1
    · skip
      refine lv_iload_n hx hb dX4_ship_21 rfl (lv_at hl 2 rfl) ?_
      refine lv_sipush (v := 900) hx hb dX4_ship_22 (by decide) ?_
      refine lv_icmp_gt (tgt := 37) hx hb dX4_ship_25 (by decide) (fun c_25 => ?_) (fun c_25 => ?_)
      · skip
        exact absurd c_25 hu2
      · skip
        refine lv_iload_n hx hb dX4_ship_28 rfl (lv_at hl 3 rfl) ?_
        refine lv_if_lt (tgt := 37) hx hb dX4_ship_29 (by decide) (fun c_29 => ?_) (fun c_29 => ?_)
        · skip
          exact absurd c_29 ht1
        · skip
          refine lv_iload_n hx hb dX4_ship_32 rfl (lv_at hl 3 rfl) ?_
          refine lv_iload_n hx hb dX4_ship_33 rfl (lv_at hl 2 rfl) ?_
          refine lv_icmp_le (tgt := 47) hx hb dX4_ship_34 (by decide) (fun c_34 => ?_) (fun c_34 => ?_)
          · skip
            refine lv_aload_n hx hb dX4_ship_47 rfl (lv_at hl 0 rfl) ?_
            refine g_cVv (As := []) (rest := []) hx hb hml hown hts hK hA hG hS (k_X4_saveState l D cy N L _ (by omega) C  (hq) (hm)) (cwV 0 hts gX4_ship_X4_saveState rfl rfl rfl (by decide +kernel) ⟨Nat.le_of_ble_eq_true rfl, Nat.le_of_ble_eq_true rfl⟩) (by omega) cW_o (ci := 4) rfl rfl rfl rfl hl.1 (Nat.le_of_ble_eq_true rfl) dX4_ship_48 ⟨Nat.zero_le _, Nat.zero_le _⟩ (fun H locs hG hS => ?_)
            refine lv_aload_n hx hb dX4_ship_51 rfl (lv_at hl 0 rfl) ?_
            refine g_get (ci := 4) (C := RX4) (T := TX4) (M := 8) hx hb hts hinX4 hown hK hG (by omega) cW_o rfl 0 (by decide) hf10 rfl rfl dX4_ship_52 ?_
            refine g_get (ci := 3) (C := RX3) (T := TX3) (M := 9) hx hb hts hinX3 hown hK hG (by omega) cW_yo rfl 1 (by decide) hf71 rfl rfl dX4_ship_55 ?_
            refine lv_iload_n hx hb dX4_ship_58 rfl (lv_at hl 1 rfl) ?_
            refine g_aald (j := 1 + 16 + j) hx hb hK hG (by omega) cW_yh (t0 := 2) rfl (k := j) rfl (by omega) (by decide) rfl dX4_ship_59 ?_
            refine lv_astore (lv' := [(4, .ref (L (1 + 16 + j))), (0, .ref (L 0)), (1, .int (nI j)), (2, .int u), (3, .int t)]) hx hb dX4_ship_60 hl (by decide) rfl (fun ls hl => ?_)
            refine lv_aload hx hb dX4_ship_62 (lv_at hl 0 rfl) ?_
            refine g_get (ci := 0) (C := RX0) (T := TX0) (M := 2) hx hb hts hinX0 hown hK hG (by omega) (cW_sh (j := j) (by omega)) rfl 0 (by decide) hf75 rfl rfl dX4_ship_64 ?_
            refine lv_istore (lv' := [(5, .int (hT (yH (cY (c_save C)) j))), (4, .ref (L (1 + 16 + j))), (0, .ref (L 0)), (1, .int (nI j)), (2, .int u), (3, .int t)]) hx hb dX4_ship_67 hl (by decide) rfl (fun ls hl => ?_)
            refine lv_aload hx hb dX4_ship_69 (lv_at hl 1 rfl) ?_
            refine lv_iload_n hx hb dX4_ship_71 rfl (lv_at hl 5 rfl) ?_
            refine g_put (ci := 0) (C := RX0) (T := TX0) (M := 2) (ty := .int) hx hb hts hinX0 tyX0 tyX0_ok nmX0 hown hK hG hS (by omega) (cW_sh (j := j) (by omega)) rfl 0 (by decide) hf75 rfl rfl rfl rfl rfl (Nat.le_of_ble_eq_true rfl) dX4_ship_72 rfl (fun H locs hG hS => ?_)
            have hG : GW D N L (gA N L s.heap.size) (cW cy L F (ySetH (cY (c_save C)) j (t, hH (yH (cY (c_save C)) j)), cV (c_save C), cM (c_save C), cQ (c_save C), cB (c_save C), cL (c_save C), cR (c_save C), cT (c_save C), cU (c_save C))) _ := hG.to (cW_usho (j := j) (by omega))
            refine lv_aload hx hb dX4_ship_75 (lv_at hl 1 rfl) ?_
            refine lv_iload_n hx hb dX4_ship_77 rfl (lv_at hl 4 rfl) ?_
            refine g_put (ci := 0) (C := RX0) (T := TX0) (M := 2) (ty := .int) hx hb hts hinX0 tyX0 tyX0_ok nmX0 hown hK hG hS (by omega) (cW_sh (j := j) (by omega)) rfl 1 (by decide) hf78 rfl rfl rfl rfl rfl (Nat.le_of_ble_eq_true rfl) dX4_ship_78 rfl (fun H locs hG hS => ?_)
            have hG : GW D N L (gA N L s.heap.size) (cW cy L F (ySetH (ySetH (cY (c_save C)) j (t, hH (yH (cY (c_save C)) j))) j (hT (yH (ySetH (cY (c_save C)) j (t, hH (yH (cY (c_save C)) j))) j), u), cV (c_save C), cM (c_save C), cQ (c_save C), cB (c_save C), cL (c_save C), cR (c_save C), cT (c_save C), cU (c_save C))) _ := hG.to (cW_usho (j := j) (by omega))
            refine lv_aload_n hx hb dX4_ship_81 rfl (lv_at hl 2 rfl) ?_
            refine g_get (ci := 4) (C := RX4) (T := TX4) (M := 8) hx hb hts hinX4 hown hK hG (by omega) cW_o rfl 0 (by decide) hf10 rfl rfl dX4_ship_82 ?_
            refine lv_dup hx hb dX4_ship_85 rfl ?_
            refine g_get (ci := 3) (C := RX3) (T := TX3) (M := 9) hx hb hts hinX3 hown hK hG (by omega) cW_yo rfl 5 (by decide) hf81 rfl rfl dX4_ship_86 ?_
            refine lv_iload_n hx hb dX4_ship_89 rfl (lv_at hl 5 rfl) ?_
            refine lv_iadd hx hb dX4_ship_90 ?_
            refine g_put (ci := 3) (C := RX3) (T := TX3) (M := 9) (ty := .int) hx hb hts hinX3 tyX3 tyX3_ok nmX3 hown hK hG hS (by omega) cW_yo rfl 5 (by decide) hf81 rfl rfl rfl rfl rfl (Nat.le_of_ble_eq_true rfl) dX4_ship_91 rfl (fun H locs hG hS => ?_)
            have hG : GW D N L (gA N L s.heap.size) (cW cy L F ((yS (ySetH (ySetH (cY (c_save C)) j (t, hH (yH (cY (c_save C)) j))) j (hT (yH (ySetH (cY (c_save C)) j (t, hH (yH (cY (c_save C)) j))) j), u)), yH (ySetH (ySetH (cY (c_save C)) j (t, hH (yH (cY (c_save C)) j))) j (hT (yH (ySetH (cY (c_save C)) j (t, hH (yH (cY (c_save C)) j))) j), u)), yZ (ySetH (ySetH (cY (c_save C)) j (t, hH (yH (cY (c_save C)) j))) j (hT (yH (ySetH (cY (c_save C)) j (t, hH (yH (cY (c_save C)) j))) j), u)), upd (yC (ySetH (ySetH (cY (c_save C)) j (t, hH (yH (cY (c_save C)) j))) j (hT (yH (ySetH (cY (c_save C)) j (t, hH (yH (cY (c_save C)) j))) j), u))) 2 ((yC (ySetH (ySetH (cY (c_save C)) j (t, hH (yH (cY (c_save C)) j))) j (hT (yH (ySetH (cY (c_save C)) j (t, hH (yH (cY (c_save C)) j))) j), u)) 2) + t)), cV (c_save C), cM (c_save C), cQ (c_save C), cB (c_save C), cL (c_save C), cR (c_save C), cT (c_save C), cU (c_save C))) _ := hG.to cW_uy2
            refine lv_aload_n hx hb dX4_ship_94 rfl (lv_at hl 2 rfl) ?_
            refine g_get (ci := 4) (C := RX4) (T := TX4) (M := 8) hx hb hts hinX4 hown hK hG (by omega) cW_o rfl 0 (by decide) hf10 rfl rfl dX4_ship_95 ?_
            refine lv_dup hx hb dX4_ship_98 rfl ?_
            refine g_get (ci := 3) (C := RX3) (T := TX3) (M := 9) hx hb hts hinX3 hown hK hG (by omega) cW_yo rfl 6 (by decide) hf84 rfl rfl dX4_ship_99 ?_
            refine lv_iload hx hb dX4_ship_102 (lv_at hl 0 rfl) ?_
            refine lv_iadd hx hb dX4_ship_104 ?_
            refine g_put (ci := 3) (C := RX3) (T := TX3) (M := 9) (ty := .int) hx hb hts hinX3 tyX3 tyX3_ok nmX3 hown hK hG hS (by omega) cW_yo rfl 6 (by decide) hf84 rfl rfl rfl rfl rfl (Nat.le_of_ble_eq_true rfl) dX4_ship_105 rfl (fun H locs hG hS => ?_)
            have hG : GW D N L (gA N L s.heap.size) (cW cy L F ((yS (yS (ySetH (ySetH (cY (c_save C)) j (t, hH (yH (cY (c_save C)) j))) j (hT (yH (ySetH (cY (c_save C)) j (t, hH (yH (cY (c_save C)) j))) j), u)), yH (ySetH (ySetH (cY (c_save C)) j (t, hH (yH (cY (c_save C)) j))) j (hT (yH (ySetH (cY (c_save C)) j (t, hH (yH (cY (c_save C)) j))) j), u)), yZ (ySetH (ySetH (cY (c_save C)) j (t, hH (yH (cY (c_save C)) j))) j (hT (yH (ySetH (cY (c_save C)) j (t, hH (yH (cY (c_save C)) j))) j), u)), upd (yC (ySetH (ySetH (cY (c_save C)) j (t, hH (yH (cY (c_save C)) j))) j (hT (yH (ySetH (cY (c_save C)) j (t, hH (yH (cY (c_save C)) j))) j), u))) 2 ((yC (ySetH (ySetH (cY (c_save C)) j (t, hH (yH (cY (c_save C)) j))) j (hT (yH (ySetH (cY (c_save C)) j (t, hH (yH (cY (c_save C)) j))) j), u)) 2) + t)), yH (yS (ySetH (ySetH (cY (c_save C)) j (t, hH (yH (cY (c_save C)) j))) j (hT (yH (ySetH (cY (c_save C)) j (t, hH (yH (cY (c_save C)) j))) j), u)), yH (ySetH (ySetH (cY (c_save C)) j (t, hH (yH (cY (c_save C)) j))) j (hT (yH (ySetH (cY (c_save C)) j (t, hH (yH (cY (c_save C)) j))) j), u)), yZ (ySetH (ySetH (cY (c_save C)) j (t, hH (yH (cY (c_save C)) j))) j (hT (yH (ySetH (cY (c_save C)) j (t, hH (yH (cY (c_save C)) j))) j), u)), upd (yC (ySetH (ySetH (cY (c_save C)) j (t, hH (yH (cY (c_save C)) j))) j (hT (yH (ySetH (cY (c_save C)) j (t, hH (yH (cY (c_save C)) j))) j), u))) 2 ((yC (ySetH (ySetH (cY (c_save C)) j (t, hH (yH (cY (c_save C)) j))) j (hT (yH (ySetH (cY (c_save C)) j (t, hH (yH (cY (c_save C)) j))) j), u)) 2) + t)), yZ (yS (ySetH (ySetH (cY (c_save C)) j (t, hH (yH (cY (c_save C)) j))) j (hT (yH (ySetH (cY (c_save C)) j (t, hH (yH (cY (c_save C)) j))) j), u)), yH (ySetH (ySetH (cY (c_save C)) j (t, hH (yH (cY (c_save C)) j))) j (hT (yH (ySetH (cY (c_save C)) j (t, hH (yH (cY (c_save C)) j))) j), u)), yZ (ySetH (ySetH (cY (c_save C)) j (t, hH (yH (cY (c_save C)) j))) j (hT (yH (ySetH (cY (c_save C)) j (t, hH (yH (cY (c_save C)) j))) j), u)), upd (yC (ySetH (ySetH (cY (c_save C)) j (t, hH (yH (cY (c_save C)) j))) j (hT (yH (ySetH (cY (c_save C)) j (t, hH (yH (cY (c_save C)) j))) j), u))) 2 ((yC (ySetH (ySetH (cY (c_save C)) j (t, hH (yH (cY (c_save C)) j))) j (hT (yH (ySetH (cY (c_save C)) j (t, hH (yH (cY (c_save C)) j))) j), u)) 2) + t)), upd (yC (yS (ySetH (ySetH (cY (c_save C)) j (t, hH (yH (cY (c_save C)) j))) j (hT (yH (ySetH (cY (c_save C)) j (t, hH (yH (cY (c_save C)) j))) j), u)), yH (ySetH (ySetH (cY (c_save C)) j (t, hH (yH (cY (c_save C)) j))) j (hT (yH (ySetH (cY (c_save C)) j (t, hH (yH (cY (c_save C)) j))) j), u)), yZ (ySetH (ySetH (cY (c_save C)) j (t, hH (yH (cY (c_save C)) j))) j (hT (yH (ySetH (cY (c_save C)) j (t, hH (yH (cY (c_save C)) j))) j), u)), upd (yC (ySetH (ySetH (cY (c_save C)) j (t, hH (yH (cY (c_save C)) j))) j (hT (yH (ySetH (cY (c_save C)) j (t, hH (yH (cY (c_save C)) j))) j), u))) 2 ((yC (ySetH (ySetH (cY (c_save C)) j (t, hH (yH (cY (c_save C)) j))) j (hT (yH (ySetH (cY (c_save C)) j (t, hH (yH (cY (c_save C)) j))) j), u)) 2) + t))) 3 ((yC (yS (ySetH (ySetH (cY (c_save C)) j (t, hH (yH (cY (c_save C)) j))) j (hT (yH (ySetH (cY (c_save C)) j (t, hH (yH (cY (c_save C)) j))) j), u)), yH (ySetH (ySetH (cY (c_save C)) j (t, hH (yH (cY (c_save C)) j))) j (hT (yH (ySetH (cY (c_save C)) j (t, hH (yH (cY (c_save C)) j))) j), u)), yZ (ySetH (ySetH (cY (c_save C)) j (t, hH (yH (cY (c_save C)) j))) j (hT (yH (ySetH (cY (c_save C)) j (t, hH (yH (cY (c_save C)) j))) j), u)), upd (yC (ySetH (ySetH (cY (c_save C)) j (t, hH (yH (cY (c_save C)) j))) j (hT (yH (ySetH (cY (c_save C)) j (t, hH (yH (cY (c_save C)) j))) j), u))) 2 ((yC (ySetH (ySetH (cY (c_save C)) j (t, hH (yH (cY (c_save C)) j))) j (hT (yH (ySetH (cY (c_save C)) j (t, hH (yH (cY (c_save C)) j))) j), u)) 2) + t)) 3) + (hT (yH (cY (c_save C)) j)))), cV (c_save C), cM (c_save C), cQ (c_save C), cB (c_save C), cL (c_save C), cR (c_save C), cT (c_save C), cU (c_save C))) _ := hG.to cW_uy3
            refine lv_iload hx hb dX4_ship_108 (lv_at hl 0 rfl) ?_
            exact g_iret hx hb hr hlocks hK hG hS rfl dX4_ship_110 ⟨(congrArg (fun z9 => some (Value.int z9)) (by rfl)), (by rfl)⟩
          · skip
            exact absurd ht2 c_34
  · skip
    exact absurd c_4 (by decide)
set_option maxHeartbeats 4000000 in
set_option maxRecDepth 100000 in
theorem k_X4_pass_ok (l : Launch) (D : va_G) (cy : Nat → ClassId) (N : Nat) (L : Nat → Nat) (F : Nat → va_E) (hN : 162 ≤ N) (C : CT) (q : Nat) (hy : wfY (cY C)) (hq : cQ C ≤ 6) (hm : ∀ i, i < 6 → cM C i < 6) (h1 : 1 ≤ q) (h2 : q ≤ 30) : GM l D cy N L yX4_pass wsX4_pass ({ frames := 7, cells := 0, slots := 0, locals := 150 }) [.ref (L 0), .int (nI q)] (cW cy L F C) (some (.int (y_PR (cY C) q))) (cW cy L F (c_setY (c_save C) (y_pass (cY C) q))) := by
  refine GM.ofW (cc := cX4_pass) (maxL := 2) (ret := (some .int)) (by decide) rfl (Nat.le_of_ble_eq_true rfl) ?_
  intro p e s m below meth c ls hx hb hr hts hown hlocks hml hK hA hG hS hl
  have hl : lv_has ls 2 [(0, .ref (L 0)), (1, .int (nI q))] := hl
  refine lv_iload_n hx hb dX4_pass_0 rfl (lv_at hl 1 rfl) ?_
  refine lv_iconst (v := 1) hx hb dX4_pass_1 (by decide) ?_
  refine lv_icmp_lt (tgt := 11) hx hb dX4_pass_2 (by decide) (fun c_2 => ?_) (fun c_2 => ?_)
  · skip
    have c_2 : q < 1 := (nI_ltI (a := q) (b := 1) (by omega) (by omega)).mp c_2
    exfalso; omega
  · skip
    have c_2 : ¬ q < 1 := fun h9 => c_2 ((nI_ltI (a := q) (b := 1) (by omega) (by omega)).mpr h9)
    refine lv_iload_n hx hb dX4_pass_5 rfl (lv_at hl 1 rfl) ?_
    refine lv_bipush (v := 30) hx hb dX4_pass_6 (by decide) ?_
    refine lv_icmp_le (tgt := 21) hx hb dX4_pass_8 (by decide) (fun c_8 => ?_) (fun c_8 => ?_)
    · skip
      have c_8 : q ≤ 30 := (nI_leI (a := q) (b := 30) (by omega) (by omega)).mp c_8
      refine lv_aload_n hx hb dX4_pass_21 rfl (lv_at hl 0 rfl) ?_
      refine g_cVv (As := []) (rest := []) hx hb hml hown hts hK hA hG hS (k_X4_saveState l D cy N L _ (by omega) C  (hq) (hm)) (cwV 0 hts gX4_pass_X4_saveState rfl rfl rfl (by decide +kernel) ⟨Nat.le_of_ble_eq_true rfl, Nat.le_of_ble_eq_true rfl⟩) (by omega) cW_o (ci := 4) rfl rfl rfl rfl hl.1 (Nat.le_of_ble_eq_true rfl) dX4_pass_22 ⟨Nat.zero_le _, Nat.zero_le _⟩ (fun H locs hG hS => ?_)
      refine lv_aload_n hx hb dX4_pass_25 rfl (lv_at hl 0 rfl) ?_
      refine lv_iload_n hx hb dX4_pass_26 rfl (lv_at hl 1 rfl) ?_
      refine g_cVi (As := [.int (nI q)]) (rest := []) hx hb hml hown hts hK hA hG hS (k_X4_passDays l D cy N L _ (by omega) (c_save C) q (hy) (by omega)) (cwV 1 hts gX4_pass_X4_passDays rfl rfl rfl (by decide +kernel) ⟨Nat.le_of_ble_eq_true rfl, Nat.le_of_ble_eq_true rfl⟩) (by omega) cW_o (ci := 4) rfl rfl rfl rfl hl.1 (Nat.le_of_ble_eq_true rfl) dX4_pass_27 ⟨Nat.zero_le _, Nat.zero_le _⟩ (fun H locs hG hS => ?_)
      exact g_iret hx hb hr hlocks hK hG hS rfl dX4_pass_30 ⟨(congrArg (fun z9 => some (Value.int z9)) (by rfl)), (by rfl)⟩
    · skip
      have c_8 : ¬ q ≤ 30 := fun h9 => c_8 ((nI_leI (a := q) (b := 30) (by omega) (by omega)).mpr h9)
      exfalso; omega
set_option maxHeartbeats 4000000 in
set_option maxRecDepth 100000 in
theorem k_X4_undo_ok (l : Launch) (D : va_G) (cy : Nat → ClassId) (N : Nat) (L : Nat → Nat) (F : Nat → va_E) (hN : 162 ≤ N) (C : CT)  (hq1 : 1 ≤ cQ C) (hq : cQ C ≤ 6) (hm : ∀ i, i < 6 → cM C i < 6) : GM l D cy N L yX4_undo wsX4_undo ({ frames := 7, cells := 0, slots := 0, locals := 150 }) [.ref (L 0)] (cW cy L F C) (some (.int (nI (cQ C - 1)))) (cW cy L F (y_like (cY C) (cV C (cM C (cQ C - 1))), cV C, cM C, cQ C - 1, cB C, cL C, cR C, cT C, cU C)) := by
  refine GM.ofW (cc := cX4_undo) (maxL := 1) (ret := (some .int)) (by decide) rfl (Nat.le_of_ble_eq_true rfl) ?_
  intro p e s m below meth c ls hx hb hr hts hown hlocks hml hK hA hG hS hl
  have hl : lv_has ls 1 [(0, .ref (L 0))] := hl
  have hf20 := hts (.fieldLink RX4 20 "SiloPads" "savedStates" "I") (by decide +kernel)
  have hinX4 : ∀ w ∈ u_ws RX4 TX4 8, w ∈ wsX4_undo := by decide +kernel
  have hf10 := hts (.fieldLink RX4 10 "SiloPads" "now" "LSiloPads$Yard;") (by decide +kernel)
  have hf16 := hts (.fieldLink RX4 16 "SiloPads" "saved" "[LSiloPads$Yard;") (by decide +kernel)
  have hmq := hm (cQ C - 1) (by omega)
  refine lv_aload_n hx hb dX4_undo_0 rfl (lv_at hl 0 rfl) ?_
  refine g_get (ci := 4) (C := RX4) (T := TX4) (M := 8) hx hb hts hinX4 hown hK hG (by omega) cW_o rfl 2 (by decide) hf20 rfl rfl dX4_undo_1 ?_
  refine lv_if_ne (tgt := 17) hx hb dX4_undo_4 (by decide) (fun c_4 => ?_) (fun c_4 => ?_)
  · skip
    have c_4 : ¬ (cQ C) = 0 := fun h9 => c_4 ((nI_eq (a := cQ C) (b := 0) (by omega) (by omega)).mpr h9)
    refine lv_aload_n hx hb dX4_undo_17 rfl (lv_at hl 0 rfl) ?_
    refine lv_dup hx hb dX4_undo_18 rfl ?_
    refine g_get (ci := 4) (C := RX4) (T := TX4) (M := 8) hx hb hts hinX4 hown hK hG (by omega) cW_o rfl 2 (by decide) hf20 rfl rfl dX4_undo_19 ?_
    refine lv_iconst (v := 1) hx hb dX4_undo_22 (by decide) ?_
    refine lv_isub hx hb dX4_undo_23 ?_
    refine lv_toN (k := (cQ C) - 1) (pk_sub (a := cQ C) (b := 1) (by omega)) ?_
    refine g_put (ci := 4) (C := RX4) (T := TX4) (M := 8) (ty := .int) hx hb hts hinX4 tyX4 tyX4_ok nmX4 hown hK hG hS (by omega) cW_o rfl 2 (by decide) hf20 rfl rfl rfl rfl rfl (Nat.le_of_ble_eq_true rfl) dX4_undo_24 rfl (fun H locs hG hS => ?_)
    have hG : GW D N L (gA N L s.heap.size) (cW cy L F (cY C, cV C, cM C, (cQ C) - 1, cB C, cL C, cR C, cT C, cU C)) _ := hG.to cW_uo
    refine lv_aload_n hx hb dX4_undo_27 rfl (lv_at hl 0 rfl) ?_
    refine g_get (ci := 4) (C := RX4) (T := TX4) (M := 8) hx hb hts hinX4 hown hK hG (by omega) cW_o rfl 0 (by decide) hf10 rfl rfl dX4_undo_28 ?_
    refine lv_aload_n hx hb dX4_undo_31 rfl (lv_at hl 0 rfl) ?_
    refine g_get (ci := 4) (C := RX4) (T := TX4) (M := 8) hx hb hts hinX4 hown hK hG (by omega) cW_o rfl 1 (by decide) hf16 rfl rfl dX4_undo_32 ?_
    refine lv_aload_n hx hb dX4_undo_35 rfl (lv_at hl 0 rfl) ?_
    refine g_get (ci := 4) (C := RX4) (T := TX4) (M := 8) hx hb hts hinX4 hown hK hG (by omega) cW_o rfl 2 (by decide) hf20 rfl rfl dX4_undo_36 ?_
    refine g_aald (j := 30 + 22 * ((cM C) ((cQ C) - 1))) hx hb hK hG (by omega) cW_v (t0 := 3) rfl (k := (cQ C) - 1) rfl (by omega) (by decide) rfl dX4_undo_39 ?_
    have hG : GW D N L (gA N L s.heap.size) (yW cy L (yW cy L (cW cy L F (cY C, cV C, cM C, (cQ C) - 1, cB C, cL C, cR C, cT C, cU C)) (30 + 22 * ((cM C) ((cQ C) - 1))) ((cV C) ((cM C) ((cQ C) - 1)))) (1) (cY C)) _ := hG.to (by rw [cW_V0 (p := ((cM C) ((cQ C) - 1))) (by omega), cW_Y0 ])
    refine g_cVv (As := [.ref (L (30 + 22 * ((cM C) ((cQ C) - 1))))]) (rest := []) hx hb hml hown hts hK hA hG hS (k_X3_becomeLike l D cy N L _ (30 + 22 * ((cM C) ((cQ C) - 1))) ((cV C) ((cM C) ((cQ C) - 1))) 1 (cY C)  (by omega) (by omega) (by omega)  ) (cwV 1 hts gX4_undo_X3_becomeLike rfl rfl rfl (by decide +kernel) ⟨Nat.le_of_ble_eq_true rfl, Nat.le_of_ble_eq_true rfl⟩) (by omega) yW_o (ci := 3) rfl rfl rfl rfl hl.1 (Nat.le_of_ble_eq_true rfl) dX4_undo_40 ⟨Nat.zero_le _, Nat.zero_le _⟩ (fun H locs hG hS => ?_)
    have hG : GW D N L (gA N L s.heap.size) (cW cy L F (y_like (cY C) ((cV C) ((cM C) ((cQ C) - 1))), cV C, cM C, (cQ C) - 1, cB C, cL C, cR C, cT C, cU C)) _ := hG.to (by rw [cW_V0 (p := ((cM C) ((cQ C) - 1))) (by omega), cW_Y ] <;> rfl)
    refine lv_aload_n hx hb dX4_undo_43 rfl (lv_at hl 0 rfl) ?_
    refine g_get (ci := 4) (C := RX4) (T := TX4) (M := 8) hx hb hts hinX4 hown hK hG (by omega) cW_o rfl 2 (by decide) hf20 rfl rfl dX4_undo_44 ?_
    exact g_iret hx hb hr hlocks hK hG hS rfl dX4_undo_47 ⟨(congrArg (fun z9 => some (Value.int z9)) (by first | (simp only [c_4, if_true, if_false, not_true_eq_false, not_false_eq_true]; done) | (simp [c_4]; done) | rfl)), (by first | (simp only [c_4, if_true, if_false, not_true_eq_false, not_false_eq_true]; done) | (simp [c_4]; done) | rfl)⟩
  · skip
    have c_4 : (cQ C) = 0 := (nI_eq (a := cQ C) (b := 0) (by omega) (by omega)).mp c_4
    exfalso; omega
set_option maxHeartbeats 4000000 in
set_option maxRecDepth 100000 in
theorem k_X4_silo_ok (l : Launch) (D : va_G) (cy : Nat → ClassId) (N : Nat) (L : Nat → Nat) (F : Nat → va_E) (hN : 162 ≤ N) (C : CT) (k : Nat) (v : Int32) (hy : wfY (cY C)) (hk : k < 4) (hv : v = 0 ∨ v = 1 ∨ v = 2 ∨ v = 3 ∨ v = 4 ∨ v = 5) : GM l D cy N L yX4_silo wsX4_silo ({ frames := 7, cells := 0, slots := 0, locals := 150 }) [.ref (L 0), .int (nI k), .int v] (cW cy L F C) (some (.int (y_tellS (cY C) k v))) (cW cy L F C) := by
  refine GM.ofW (cc := cX4_silo) (maxL := 4) (ret := (some .int)) (by decide) rfl (Nat.le_of_ble_eq_true rfl) ?_
  intro p e s m below meth c ls hx hb hr hts hown hlocks hml hK hA hG hS hl
  have hl : lv_has ls 4 [(0, .ref (L 0)), (1, .int (nI k)), (2, .int v)] := hl
  have hf10 := hts (.fieldLink RX4 10 "SiloPads" "now" "LSiloPads$Yard;") (by decide +kernel)
  have hinX4 : ∀ w ∈ u_ws RX4 TX4 8, w ∈ wsX4_silo := by decide +kernel
  have hf94 := hts (.fieldLink RX4 94 "SiloPads$Yard" "silos" "[LSiloPads$Silo;") (by decide +kernel)
  have hinX3 : ∀ w ∈ u_ws RX3 TX3 9, w ∈ wsX4_silo := by decide +kernel
  have hf125 := hts (.fieldLink RX4 125 "SiloPads$Silo" "layers" "I") (by decide +kernel)
  have hinX1 : ∀ w ∈ u_ws RX1 TX1 6, w ∈ wsX4_silo := by decide +kernel
  have hf111 := hts (.fieldLink RX4 111 "SiloPads$Silo" "padsOn" "I") (by decide +kernel)
  have hf141 := hts (.fieldLink RX4 141 "SiloPads$Silo" "arch" "I") (by decide +kernel)
  have hf134 := hts (.fieldLink RX4 134 "SiloPads$Silo" "shakes" "I") (by decide +kernel)
  refine lv_iload_n hx hb dX4_silo_0 rfl (lv_at hl 1 rfl) ?_
  refine g_cSi (As := [.int (nI k)]) (rest := []) hx hb hml hown hts hK hA hG hS (k_X4_isNoSilo l D cy N L _ (nI k) ) (g_cwS 1 hts gX4_silo_X4_isNoSilo rfl rfl rfl (by decide +kernel) ⟨Nat.le_of_ble_eq_true rfl, Nat.le_of_ble_eq_true rfl⟩) rfl rfl hl.1 (Nat.le_of_ble_eq_true rfl) dX4_silo_1 ⟨Nat.zero_le _, Nat.zero_le _⟩ (fun H locs hG hS => ?_)
  refine lv_toI (y := 0) (c_noSilo_k hk) ?_
  refine lv_if_eq (tgt := 17) hx hb dX4_silo_4 (by decide) (fun c_4 => ?_) (fun c_4 => ?_)
  · skip
    refine lv_aload_n hx hb dX4_silo_17 rfl (lv_at hl 0 rfl) ?_
    refine g_get (ci := 4) (C := RX4) (T := TX4) (M := 8) hx hb hts hinX4 hown hK hG (by omega) cW_o rfl 0 (by decide) hf10 rfl rfl dX4_silo_18 ?_
    refine g_get (ci := 3) (C := RX3) (T := TX3) (M := 9) hx hb hts hinX3 hown hK hG (by omega) cW_yo rfl 0 (by decide) hf94 rfl rfl dX4_silo_21 ?_
    refine lv_iload_n hx hb dX4_silo_24 rfl (lv_at hl 1 rfl) ?_
    refine g_aald (j := 1 + 4 + 3 * k) hx hb hK hG (by omega) cW_ys (t0 := 1) rfl (k := k) rfl (by omega) (by decide) rfl dX4_silo_25 ?_
    refine lv_astore_n (lv' := [(3, .ref (L (1 + 4 + 3 * k))), (0, .ref (L 0)), (1, .int (nI k)), (2, .int v)]) hx hb dX4_silo_26 rfl hl (by decide) rfl (fun ls hl => ?_)
    refine lv_iload_n hx hb dX4_silo_27 rfl (lv_at hl 3 rfl) ?_
    refine lv_toI (y := v) rfl ?_
    by_cases c_28_0 : v = 0
    · skip
      refine lv_tableIn (off := 40) (tgt := 68) hx hb dX4_silo_28 (by rw [c_28_0]; decide) (by rw [c_28_0]; decide) (by rw [c_28_0]; decide) (by decide) ?_
      refine lv_aload_n hx hb dX4_silo_68 rfl (lv_at hl 0 rfl) ?_
      have hG : GW D N L (gA N L s.heap.size) (sW cy L (cW cy L F C) (1 + 4 + 3 * k) (yS (cY C) k)) _ := hG.to (by rw [cW_S0 (k := k) (by omega)])
      refine g_cVi (As := []) (rest := []) hx hb hml hown hts hK hA hG hS (k_X1_total l D cy N L _ (1 + 4 + 3 * k) (yS (cY C) k)  (by omega)  (hy k hk)) (cwV 0 hts gX4_silo_X1_total rfl rfl rfl (by decide +kernel) ⟨Nat.le_of_ble_eq_true rfl, Nat.le_of_ble_eq_true rfl⟩) (by omega) sW_o (ci := 1) rfl rfl rfl rfl hl.1 (Nat.le_of_ble_eq_true rfl) dX4_silo_69 ⟨Nat.zero_le _, Nat.zero_le _⟩ (fun H locs hG hS => ?_)
      have hG : GW D N L (gA N L s.heap.size) (cW cy L F C) _ := hG.to (by rw [cW_S0 (k := k) (by omega)] <;> rfl)
      exact g_iret hx hb hr hlocks hK hG hS rfl dX4_silo_72 ⟨(congrArg (fun z9 => some (Value.int z9)) (by simp only [y_tellS, eq_true c_28_0, if_true, if_false])), rfl⟩
    by_cases c_28_1 : v = 1
    · skip
      refine lv_tableIn (off := 45) (tgt := 73) hx hb dX4_silo_28 (by rw [c_28_1]; decide) (by rw [c_28_1]; decide) (by rw [c_28_1]; decide) (by decide) ?_
      refine lv_aload_n hx hb dX4_silo_73 rfl (lv_at hl 0 rfl) ?_
      refine g_get (ci := 1) (C := RX1) (T := TX1) (M := 6) hx hb hts hinX1 hown hK hG (by omega) (cW_so (k := k) (by omega)) rfl 2 (by decide) hf125 rfl rfl dX4_silo_74 ?_
      exact g_iret hx hb hr hlocks hK hG hS rfl dX4_silo_77 ⟨(congrArg (fun z9 => some (Value.int z9)) (by simp only [y_tellS, c_28_0, eq_true c_28_1, if_true, if_false])), rfl⟩
    by_cases c_28_2 : v = 2
    · skip
      refine lv_tableIn (off := 50) (tgt := 78) hx hb dX4_silo_28 (by rw [c_28_2]; decide) (by rw [c_28_2]; decide) (by rw [c_28_2]; decide) (by decide) ?_
      refine lv_aload_n hx hb dX4_silo_78 rfl (lv_at hl 0 rfl) ?_
      refine g_get (ci := 1) (C := RX1) (T := TX1) (M := 6) hx hb hts hinX1 hown hK hG (by omega) (cW_so (k := k) (by omega)) rfl 3 (by decide) hf111 rfl rfl dX4_silo_79 ?_
      exact g_iret hx hb hr hlocks hK hG hS rfl dX4_silo_82 ⟨(congrArg (fun z9 => some (Value.int z9)) (by simp only [y_tellS, c_28_0, c_28_1, eq_true c_28_2, if_true, if_false])), rfl⟩
    by_cases c_28_3 : v = 3
    · skip
      refine lv_tableIn (off := 55) (tgt := 83) hx hb dX4_silo_28 (by rw [c_28_3]; decide) (by rw [c_28_3]; decide) (by rw [c_28_3]; decide) (by decide) ?_
      refine lv_aload_n hx hb dX4_silo_83 rfl (lv_at hl 0 rfl) ?_
      refine g_get (ci := 1) (C := RX1) (T := TX1) (M := 6) hx hb hts hinX1 hown hK hG (by omega) (cW_so (k := k) (by omega)) rfl 4 (by decide) hf141 rfl rfl dX4_silo_84 ?_
      refine lv_if_ne (tgt := 94) hx hb dX4_silo_87 (by decide) (fun c_87 => ?_) (fun c_87 => ?_)
      · skip
        refine lv_iconst (v := 1) hx hb dX4_silo_94 (by decide) ?_
        exact g_iret hx hb hr hlocks hK hG hS rfl dX4_silo_95 ⟨(congrArg (fun z9 => some (Value.int z9)) (by simp only [y_tellS, c_28_0, c_28_1, c_28_2, eq_true c_28_3, c_87, if_true, if_false])), rfl⟩
      · skip
        refine lv_iconst (v := 0) hx hb dX4_silo_90 (by decide) ?_
        refine lv_goto (tgt := 95) hx hb dX4_silo_91 (by decide) ?_
        exact g_iret hx hb hr hlocks hK hG hS rfl dX4_silo_95 ⟨(congrArg (fun z9 => some (Value.int z9)) (by simp only [y_tellS, c_28_0, c_28_1, c_28_2, eq_true c_28_3, eq_true c_87, if_true, if_false])), rfl⟩
    by_cases c_28_4 : v = 4
    · skip
      refine lv_tableIn (off := 68) (tgt := 96) hx hb dX4_silo_28 (by rw [c_28_4]; decide) (by rw [c_28_4]; decide) (by rw [c_28_4]; decide) (by decide) ?_
      refine lv_aload_n hx hb dX4_silo_96 rfl (lv_at hl 0 rfl) ?_
      refine g_get (ci := 1) (C := RX1) (T := TX1) (M := 6) hx hb hts hinX1 hown hK hG (by omega) (cW_so (k := k) (by omega)) rfl 5 (by decide) hf134 rfl rfl dX4_silo_97 ?_
      exact g_iret hx hb hr hlocks hK hG hS rfl dX4_silo_100 ⟨(congrArg (fun z9 => some (Value.int z9)) (by simp only [y_tellS, c_28_0, c_28_1, c_28_2, c_28_3, eq_true c_28_4, if_true, if_false])), rfl⟩
    by_cases c_28_5 : v = 5
    · skip
      refine lv_tableIn (off := 73) (tgt := 101) hx hb dX4_silo_28 (by rw [c_28_5]; decide) (by rw [c_28_5]; decide) (by rw [c_28_5]; decide) (by decide) ?_
      refine lv_aload_n hx hb dX4_silo_101 rfl (lv_at hl 1 rfl) ?_
      refine lv_aload_n hx hb dX4_silo_102 rfl (lv_at hl 0 rfl) ?_
      refine lv_aload_n hx hb dX4_silo_103 rfl (lv_at hl 0 rfl) ?_
      refine g_get (ci := 1) (C := RX1) (T := TX1) (M := 6) hx hb hts hinX1 hown hK hG (by omega) (cW_so (k := k) (by omega)) rfl 3 (by decide) hf111 rfl rfl dX4_silo_104 ?_
      have hG : GW D N L (gA N L s.heap.size) (sW cy L (cW cy L F C) (1 + 4 + 3 * k) (yS (cY C) k)) _ := hG.to (by rw [cW_S0 (k := k) (by omega)])
      refine g_cVi (As := [.ref (L (1 + 4 + 3 * k)), .int (sP (yS (cY C) k))]) (rest := []) hx hb hml hown hts hK hA hG hS (k_X4_outInHour l D cy N L _ (1 + 4 + 3 * k) (yS (cY C) k)  (yZ (cY C)) (by omega) (by omega) (cE_cW (F := F) (c := C)) (sP (yS (cY C) k)) (hy k hk)) (cwV 2 hts gX4_silo_X4_outInHour rfl rfl rfl (by decide +kernel) ⟨Nat.le_of_ble_eq_true rfl, Nat.le_of_ble_eq_true rfl⟩) (by omega) (by rw [sW_n (by omega)]; exact cW_o) (ci := 4) rfl rfl rfl rfl hl.1 (Nat.le_of_ble_eq_true rfl) dX4_silo_107 ⟨Nat.zero_le _, Nat.zero_le _⟩ (fun H locs hG hS => ?_)
      have hG : GW D N L (gA N L s.heap.size) (cW cy L F C) _ := hG.to (by rw [cW_S0 (k := k) (by omega)] <;> rfl)
      exact g_iret hx hb hr hlocks hK hG hS rfl dX4_silo_110 ⟨(congrArg (fun z9 => some (Value.int z9)) (by simp only [y_tellS, c_28_0, c_28_1, c_28_2, c_28_3, c_28_4, eq_true c_28_5, if_true, if_false])), rfl⟩
    rcases hv with h9 | h9 | h9 | h9 | h9 | h9 <;> first | exact absurd h9 c_28_0 | exact absurd h9 c_28_1 | exact absurd h9 c_28_2 | exact absurd h9 c_28_3 | exact absurd h9 c_28_4 | exact absurd h9 c_28_5
  · skip
    exact absurd c_4 (by decide)
set_option maxHeartbeats 4000000 in
set_option maxRecDepth 100000 in
theorem k_X4_layer_ok (l : Launch) (D : va_G) (cy : Nat → ClassId) (N : Nat) (L : Nat → Nat) (F : Nat → va_E) (hN : 162 ≤ N) (C : CT) (k j : Nat) (v : Int32) (hy : wfY (cY C)) (hk : k < 4) (hj : j < sN (yS (cY C) k)) (hv : v = 0 ∨ v = 1 ∨ v = 2) : GM l D cy N L yX4_layer wsX4_layer ({ frames := 7, cells := 0, slots := 0, locals := 150 }) [.ref (L 0), .int (nI k), .int (nI j), .int v] (cW cy L F C) (some (.int (y_tellL (cY C) k j v))) (cW cy L F C) := by
  refine GM.ofW (cc := cX4_layer) (maxL := 5) (ret := (some .int)) (by decide) rfl (Nat.le_of_ble_eq_true rfl) ?_
  intro p e s m below meth c ls hx hb hr hts hown hlocks hml hK hA hG hS hl
  have hl : lv_has ls 5 [(0, .ref (L 0)), (1, .int (nI k)), (2, .int (nI j)), (3, .int v)] := hl
  have hf10 := hts (.fieldLink RX4 10 "SiloPads" "now" "LSiloPads$Yard;") (by decide +kernel)
  have hinX4 : ∀ w ∈ u_ws RX4 TX4 8, w ∈ wsX4_layer := by decide +kernel
  have hf94 := hts (.fieldLink RX4 94 "SiloPads$Yard" "silos" "[LSiloPads$Silo;") (by decide +kernel)
  have hinX3 : ∀ w ∈ u_ws RX3 TX3 9, w ∈ wsX4_layer := by decide +kernel
  have hf125 := hts (.fieldLink RX4 125 "SiloPads$Silo" "layers" "I") (by decide +kernel)
  have hinX1 : ∀ w ∈ u_ws RX1 TX1 6, w ∈ wsX4_layer := by decide +kernel
  have hf201 := hts (.fieldLink RX4 201 "SiloPads$Silo" "tonnes" "[I") (by decide +kernel)
  have hf203 := hts (.fieldLink RX4 203 "SiloPads$Silo" "ages" "[I") (by decide +kernel)
  have hn10 := hy k hk
  refine lv_iload_n hx hb dX4_layer_0 rfl (lv_at hl 1 rfl) ?_
  refine g_cSi (As := [.int (nI k)]) (rest := []) hx hb hml hown hts hK hA hG hS (k_X4_isNoSilo l D cy N L _ (nI k) ) (g_cwS 1 hts gX4_layer_X4_isNoSilo rfl rfl rfl (by decide +kernel) ⟨Nat.le_of_ble_eq_true rfl, Nat.le_of_ble_eq_true rfl⟩) rfl rfl hl.1 (Nat.le_of_ble_eq_true rfl) dX4_layer_1 ⟨Nat.zero_le _, Nat.zero_le _⟩ (fun H locs hG hS => ?_)
  refine lv_toI (y := 0) (c_noSilo_k hk) ?_
  refine lv_if_eq (tgt := 17) hx hb dX4_layer_4 (by decide) (fun c_4 => ?_) (fun c_4 => ?_)
  · skip
    refine lv_aload_n hx hb dX4_layer_17 rfl (lv_at hl 0 rfl) ?_
    refine g_get (ci := 4) (C := RX4) (T := TX4) (M := 8) hx hb hts hinX4 hown hK hG (by omega) cW_o rfl 0 (by decide) hf10 rfl rfl dX4_layer_18 ?_
    refine g_get (ci := 3) (C := RX3) (T := TX3) (M := 9) hx hb hts hinX3 hown hK hG (by omega) cW_yo rfl 0 (by decide) hf94 rfl rfl dX4_layer_21 ?_
    refine lv_iload_n hx hb dX4_layer_24 rfl (lv_at hl 1 rfl) ?_
    refine g_aald (j := 1 + 4 + 3 * k) hx hb hK hG (by omega) cW_ys (t0 := 1) rfl (k := k) rfl (by omega) (by decide) rfl dX4_layer_25 ?_
    refine lv_astore (lv' := [(4, .ref (L (1 + 4 + 3 * k))), (0, .ref (L 0)), (1, .int (nI k)), (2, .int (nI j)), (3, .int v)]) hx hb dX4_layer_26 hl (by decide) rfl (fun ls hl => ?_)
    refine lv_iload_n hx hb dX4_layer_28 rfl (lv_at hl 3 rfl) ?_
    refine lv_if_lt (tgt := 41) hx hb dX4_layer_29 (by decide) (fun c_29 => ?_) (fun c_29 => ?_)
    · skip
      have c_29 : j < 0 := (nI_ltI (a := j) (b := 0) (by omega) (by omega)).mp c_29
      exfalso; omega
    · skip
      have c_29 : ¬ j < 0 := fun h9 => c_29 ((nI_ltI (a := j) (b := 0) (by omega) (by omega)).mpr h9)
      refine lv_iload_n hx hb dX4_layer_32 rfl (lv_at hl 3 rfl) ?_
      refine lv_aload hx hb dX4_layer_33 (lv_at hl 0 rfl) ?_
      refine g_get (ci := 1) (C := RX1) (T := TX1) (M := 6) hx hb hts hinX1 hown hK hG (by omega) (cW_so (k := k) (by omega)) rfl 2 (by decide) hf125 rfl rfl dX4_layer_35 ?_
      refine lv_icmp_lt (tgt := 51) hx hb dX4_layer_38 (by decide) (fun c_38 => ?_) (fun c_38 => ?_)
      · skip
        have c_38 : j < (sN (yS (cY C) k)) := (nI_ltI (a := j) (b := sN (yS (cY C) k)) (by omega) (by omega)).mp c_38
        refine lv_iload_n hx hb dX4_layer_51 rfl (lv_at hl 4 rfl) ?_
        refine lv_toI (y := v) rfl ?_
        by_cases c_52_0 : v = 0
        · skip
          refine lv_tableIn (off := 28) (tgt := 80) hx hb dX4_layer_52 (by rw [c_52_0]; decide) (by rw [c_52_0]; decide) (by rw [c_52_0]; decide) (by decide) ?_
          refine lv_aload hx hb dX4_layer_80 (lv_at hl 0 rfl) ?_
          refine g_get (ci := 1) (C := RX1) (T := TX1) (M := 6) hx hb hts hinX1 hown hK hG (by omega) (cW_so (k := k) (by omega)) rfl 0 (by decide) hf201 rfl rfl dX4_layer_82 ?_
          refine lv_iload_n hx hb dX4_layer_85 rfl (lv_at hl 3 rfl) ?_
          refine g_iald hx hb hK hG (by omega) (cW_st (k := k) (by omega)) (k := j) rfl (by omega) (by decide) dX4_layer_86 ?_
          exact g_iret hx hb hr hlocks hK hG hS rfl dX4_layer_87 ⟨(congrArg (fun z9 => some (Value.int z9)) (by simp only [y_tellL, c_29, c_38, eq_true c_52_0, if_true, if_false])), rfl⟩
        by_cases c_52_1 : v = 1
        · skip
          refine lv_tableIn (off := 36) (tgt := 88) hx hb dX4_layer_52 (by rw [c_52_1]; decide) (by rw [c_52_1]; decide) (by rw [c_52_1]; decide) (by decide) ?_
          refine lv_aload hx hb dX4_layer_88 (lv_at hl 0 rfl) ?_
          refine g_get (ci := 1) (C := RX1) (T := TX1) (M := 6) hx hb hts hinX1 hown hK hG (by omega) (cW_so (k := k) (by omega)) rfl 1 (by decide) hf203 rfl rfl dX4_layer_90 ?_
          refine lv_iload_n hx hb dX4_layer_93 rfl (lv_at hl 3 rfl) ?_
          refine g_iald hx hb hK hG (by omega) (cW_sa (k := k) (by omega)) (k := j) rfl (by omega) (by decide) dX4_layer_94 ?_
          exact g_iret hx hb hr hlocks hK hG hS rfl dX4_layer_95 ⟨(congrArg (fun z9 => some (Value.int z9)) (by simp only [y_tellL, c_29, c_38, c_52_0, eq_true c_52_1, if_true, if_false])), rfl⟩
        by_cases c_52_2 : v = 2
        · skip
          refine lv_tableIn (off := 44) (tgt := 96) hx hb dX4_layer_52 (by rw [c_52_2]; decide) (by rw [c_52_2]; decide) (by rw [c_52_2]; decide) (by decide) ?_
          refine lv_aload_n hx hb dX4_layer_96 rfl (lv_at hl 1 rfl) ?_
          refine lv_aload hx hb dX4_layer_97 (lv_at hl 0 rfl) ?_
          refine g_get (ci := 1) (C := RX1) (T := TX1) (M := 6) hx hb hts hinX1 hown hK hG (by omega) (cW_so (k := k) (by omega)) rfl 1 (by decide) hf203 rfl rfl dX4_layer_99 ?_
          refine lv_iload_n hx hb dX4_layer_102 rfl (lv_at hl 3 rfl) ?_
          refine g_iald hx hb hK hG (by omega) (cW_sa (k := k) (by omega)) (k := j) rfl (by omega) (by decide) dX4_layer_103 ?_
          refine g_cVi (As := [.int ((sA (yS (cY C) k)) j)]) (rest := []) hx hb hml hown hts hK hA hG hS (k_X4_hardnessAt l D cy N L _  (yZ (cY C)) (by omega) (cE_cW (F := F) (c := C)) ((sA (yS (cY C) k)) j) ) (cwV 1 hts gX4_layer_X4_hardnessAt rfl rfl rfl (by decide +kernel) ⟨Nat.le_of_ble_eq_true rfl, Nat.le_of_ble_eq_true rfl⟩) (by omega) cW_o (ci := 4) rfl rfl rfl rfl hl.1 (Nat.le_of_ble_eq_true rfl) dX4_layer_104 ⟨Nat.zero_le _, Nat.zero_le _⟩ (fun H locs hG hS => ?_)
          exact g_iret hx hb hr hlocks hK hG hS rfl dX4_layer_107 ⟨(congrArg (fun z9 => some (Value.int z9)) (by simp only [y_tellL, c_29, c_38, c_52_0, c_52_1, eq_true c_52_2, if_true, if_false])), rfl⟩
        rcases hv with h9 | h9 | h9 <;> first | exact absurd h9 c_52_0 | exact absurd h9 c_52_1 | exact absurd h9 c_52_2
      · skip
        have c_38 : ¬ j < (sN (yS (cY C) k)) := fun h9 => c_38 ((nI_ltI (a := j) (b := sN (yS (cY C) k)) (by omega) (by omega)).mpr h9)
        exfalso; omega
  · skip
    exact absurd c_4 (by decide)
set_option maxHeartbeats 4000000 in
set_option maxRecDepth 100000 in
theorem k_X4_shipOf_ok (l : Launch) (D : va_G) (cy : Nat → ClassId) (N : Nat) (L : Nat → Nat) (F : Nat → va_E) (hN : 162 ≤ N) (C : CT) (j : Nat) (v : Int32) (hj : j < 6) (hv : v = 0 ∨ v = 1) : GM l D cy N L yX4_shipOf wsX4_shipOf ({ frames := 7, cells := 0, slots := 0, locals := 150 }) [.ref (L 0), .int (nI j), .int v] (cW cy L F C) (some (.int (y_tellH (cY C) j v))) (cW cy L F C) := by
  refine GM.ofW (cc := cX4_shipOf) (maxL := 3) (ret := (some .int)) (by decide) rfl (Nat.le_of_ble_eq_true rfl) ?_
  intro p e s m below meth c ls hx hb hr hts hown hlocks hml hK hA hG hS hl
  have hl : lv_has ls 3 [(0, .ref (L 0)), (1, .int (nI j)), (2, .int v)] := hl
  have hf10 := hts (.fieldLink RX4 10 "SiloPads" "now" "LSiloPads$Yard;") (by decide +kernel)
  have hinX4 : ∀ w ∈ u_ws RX4 TX4 8, w ∈ wsX4_shipOf := by decide +kernel
  have hf71 := hts (.fieldLink RX4 71 "SiloPads$Yard" "ships" "[LSiloPads$Ship;") (by decide +kernel)
  have hinX3 : ∀ w ∈ u_ws RX3 TX3 9, w ∈ wsX4_shipOf := by decide +kernel
  have hf78 := hts (.fieldLink RX4 78 "SiloPads$Ship" "hold" "I") (by decide +kernel)
  have hinX0 : ∀ w ∈ u_ws RX0 TX0 2, w ∈ wsX4_shipOf := by decide +kernel
  have hf75 := hts (.fieldLink RX4 75 "SiloPads$Ship" "tonnes" "I") (by decide +kernel)
  refine lv_iload_n hx hb dX4_shipOf_0 rfl (lv_at hl 1 rfl) ?_
  refine g_cSi (As := [.int (nI j)]) (rest := []) hx hb hml hown hts hK hA hG hS (k_X4_isNoShip l D cy N L _ (nI j) ) (g_cwS 1 hts gX4_shipOf_X4_isNoShip rfl rfl rfl (by decide +kernel) ⟨Nat.le_of_ble_eq_true rfl, Nat.le_of_ble_eq_true rfl⟩) rfl rfl hl.1 (Nat.le_of_ble_eq_true rfl) dX4_shipOf_1 ⟨Nat.zero_le _, Nat.zero_le _⟩ (fun H locs hG hS => ?_)
  refine lv_toI (y := 0) (c_noShip_j hj) ?_
  refine lv_if_eq (tgt := 17) hx hb dX4_shipOf_4 (by decide) (fun c_4 => ?_) (fun c_4 => ?_)
  · skip
    refine lv_iload_n hx hb dX4_shipOf_17 rfl (lv_at hl 2 rfl) ?_
    refine lv_if_eq (tgt := 36) hx hb dX4_shipOf_18 (by decide) (fun c_18 => ?_) (fun c_18 => ?_)
    · skip
      refine lv_iload_n hx hb dX4_shipOf_36 rfl (lv_at hl 2 rfl) ?_
      refine lv_if_ne (tgt := 55) hx hb dX4_shipOf_37 (by decide) (fun c_37 => ?_) (fun c_37 => ?_)
      · skip
        refine lv_aload_n hx hb dX4_shipOf_55 rfl (lv_at hl 0 rfl) ?_
        refine g_get (ci := 4) (C := RX4) (T := TX4) (M := 8) hx hb hts hinX4 hown hK hG (by omega) cW_o rfl 0 (by decide) hf10 rfl rfl dX4_shipOf_56 ?_
        refine g_get (ci := 3) (C := RX3) (T := TX3) (M := 9) hx hb hts hinX3 hown hK hG (by omega) cW_yo rfl 1 (by decide) hf71 rfl rfl dX4_shipOf_59 ?_
        refine lv_iload_n hx hb dX4_shipOf_62 rfl (lv_at hl 1 rfl) ?_
        refine g_aald (j := 1 + 16 + j) hx hb hK hG (by omega) cW_yh (t0 := 2) rfl (k := j) rfl (by omega) (by decide) rfl dX4_shipOf_63 ?_
        refine g_get (ci := 0) (C := RX0) (T := TX0) (M := 2) hx hb hts hinX0 hown hK hG (by omega) (cW_sh (j := j) (by omega)) rfl 1 (by decide) hf78 rfl rfl dX4_shipOf_64 ?_
        exact g_iret hx hb hr hlocks hK hG hS rfl dX4_shipOf_67 ⟨(congrArg (fun z9 => some (Value.int z9)) (by first | (simp only [y_tellH, eq_true c_18, c_37, if_true, if_false]; done) | (rcases hv with h9 | h9 <;> first | exact absurd h9 c_37 | exact absurd c_37 (by rw [h9]; decide) | (simp only [y_tellH, h9]; rfl)))), rfl⟩
      · skip
        refine lv_aload_n hx hb dX4_shipOf_40 rfl (lv_at hl 0 rfl) ?_
        refine g_get (ci := 4) (C := RX4) (T := TX4) (M := 8) hx hb hts hinX4 hown hK hG (by omega) cW_o rfl 0 (by decide) hf10 rfl rfl dX4_shipOf_41 ?_
        refine g_get (ci := 3) (C := RX3) (T := TX3) (M := 9) hx hb hts hinX3 hown hK hG (by omega) cW_yo rfl 1 (by decide) hf71 rfl rfl dX4_shipOf_44 ?_
        refine lv_iload_n hx hb dX4_shipOf_47 rfl (lv_at hl 1 rfl) ?_
        refine g_aald (j := 1 + 16 + j) hx hb hK hG (by omega) cW_yh (t0 := 2) rfl (k := j) rfl (by omega) (by decide) rfl dX4_shipOf_48 ?_
        refine g_get (ci := 0) (C := RX0) (T := TX0) (M := 2) hx hb hts hinX0 hown hK hG (by omega) (cW_sh (j := j) (by omega)) rfl 0 (by decide) hf75 rfl rfl dX4_shipOf_49 ?_
        refine lv_goto (tgt := 67) hx hb dX4_shipOf_52 (by decide) ?_
        exact g_iret hx hb hr hlocks hK hG hS rfl dX4_shipOf_67 ⟨(congrArg (fun z9 => some (Value.int z9)) (by first | (simp only [y_tellH, eq_true c_18, eq_true c_37, if_true, if_false]; done) | (rcases hv with h9 | h9 <;> first | exact absurd h9 c_37 | exact absurd c_37 (by rw [h9]; decide) | (simp only [y_tellH, h9]; rfl)))), rfl⟩
    · skip
      refine lv_iload_n hx hb dX4_shipOf_21 rfl (lv_at hl 2 rfl) ?_
      refine lv_iconst (v := 1) hx hb dX4_shipOf_22 (by decide) ?_
      refine lv_icmp_eq (tgt := 36) hx hb dX4_shipOf_23 (by decide) (fun c_23 => ?_) (fun c_23 => ?_)
      · skip
        refine lv_iload_n hx hb dX4_shipOf_36 rfl (lv_at hl 2 rfl) ?_
        refine lv_if_ne (tgt := 55) hx hb dX4_shipOf_37 (by decide) (fun c_37 => ?_) (fun c_37 => ?_)
        · skip
          refine lv_aload_n hx hb dX4_shipOf_55 rfl (lv_at hl 0 rfl) ?_
          refine g_get (ci := 4) (C := RX4) (T := TX4) (M := 8) hx hb hts hinX4 hown hK hG (by omega) cW_o rfl 0 (by decide) hf10 rfl rfl dX4_shipOf_56 ?_
          refine g_get (ci := 3) (C := RX3) (T := TX3) (M := 9) hx hb hts hinX3 hown hK hG (by omega) cW_yo rfl 1 (by decide) hf71 rfl rfl dX4_shipOf_59 ?_
          refine lv_iload_n hx hb dX4_shipOf_62 rfl (lv_at hl 1 rfl) ?_
          refine g_aald (j := 1 + 16 + j) hx hb hK hG (by omega) cW_yh (t0 := 2) rfl (k := j) rfl (by omega) (by decide) rfl dX4_shipOf_63 ?_
          refine g_get (ci := 0) (C := RX0) (T := TX0) (M := 2) hx hb hts hinX0 hown hK hG (by omega) (cW_sh (j := j) (by omega)) rfl 1 (by decide) hf78 rfl rfl dX4_shipOf_64 ?_
          exact g_iret hx hb hr hlocks hK hG hS rfl dX4_shipOf_67 ⟨(congrArg (fun z9 => some (Value.int z9)) (by first | (simp only [y_tellH, c_18, eq_true c_23, c_37, if_true, if_false]; done) | (rcases hv with h9 | h9 <;> first | exact absurd h9 c_37 | exact absurd c_37 (by rw [h9]; decide) | (simp only [y_tellH, h9]; rfl)))), rfl⟩
        · skip
          refine lv_aload_n hx hb dX4_shipOf_40 rfl (lv_at hl 0 rfl) ?_
          refine g_get (ci := 4) (C := RX4) (T := TX4) (M := 8) hx hb hts hinX4 hown hK hG (by omega) cW_o rfl 0 (by decide) hf10 rfl rfl dX4_shipOf_41 ?_
          refine g_get (ci := 3) (C := RX3) (T := TX3) (M := 9) hx hb hts hinX3 hown hK hG (by omega) cW_yo rfl 1 (by decide) hf71 rfl rfl dX4_shipOf_44 ?_
          refine lv_iload_n hx hb dX4_shipOf_47 rfl (lv_at hl 1 rfl) ?_
          refine g_aald (j := 1 + 16 + j) hx hb hK hG (by omega) cW_yh (t0 := 2) rfl (k := j) rfl (by omega) (by decide) rfl dX4_shipOf_48 ?_
          refine g_get (ci := 0) (C := RX0) (T := TX0) (M := 2) hx hb hts hinX0 hown hK hG (by omega) (cW_sh (j := j) (by omega)) rfl 0 (by decide) hf75 rfl rfl dX4_shipOf_49 ?_
          refine lv_goto (tgt := 67) hx hb dX4_shipOf_52 (by decide) ?_
          exact g_iret hx hb hr hlocks hK hG hS rfl dX4_shipOf_67 ⟨(congrArg (fun z9 => some (Value.int z9)) (by first | (simp only [y_tellH, c_18, eq_true c_23, eq_true c_37, if_true, if_false]; done) | (rcases hv with h9 | h9 <;> first | exact absurd h9 c_37 | exact absurd c_37 (by rw [h9]; decide) | (simp only [y_tellH, h9]; rfl)))), rfl⟩
      · skip
        rcases hv with h9 | h9 <;> first | exact absurd h9 c_18 | exact absurd h9 c_23
  · skip
    exact absurd c_4 (by decide)
set_option maxHeartbeats 4000000 in
set_option maxRecDepth 100000 in
theorem k_X4_whyNot_ok (l : Launch) (D : va_G) (cy : Nat → ClassId) (N : Nat) (L : Nat → Nat) (F : Nat → va_E) (hN : 162 ≤ N) (C : CT) (k j : Nat) (hy : wfY (cY C)) (hk : k < 4) (hj : j < 6) : GM l D cy N L yX4_whyNot wsX4_whyNot ({ frames := 7, cells := 0, slots := 0, locals := 150 }) [.ref (L 0), .int (nI k), .int (nI j)] (cW cy L F C) (some (.int (y_why (cY C) k j))) (cW cy L F C) := by
  refine GM.ofW (cc := cX4_whyNot) (maxL := 4) (ret := (some .int)) (by decide) rfl (Nat.le_of_ble_eq_true rfl) ?_
  intro p e s m below meth c ls hx hb hr hts hown hlocks hml hK hA hG hS hl
  have hl : lv_has ls 4 [(0, .ref (L 0)), (1, .int (nI k)), (2, .int (nI j))] := hl
  have hf10 := hts (.fieldLink RX4 10 "SiloPads" "now" "LSiloPads$Yard;") (by decide +kernel)
  have hinX4 : ∀ w ∈ u_ws RX4 TX4 8, w ∈ wsX4_whyNot := by decide +kernel
  have hf94 := hts (.fieldLink RX4 94 "SiloPads$Yard" "silos" "[LSiloPads$Silo;") (by decide +kernel)
  have hinX3 : ∀ w ∈ u_ws RX3 TX3 9, w ∈ wsX4_whyNot := by decide +kernel
  have hf125 := hts (.fieldLink RX4 125 "SiloPads$Silo" "layers" "I") (by decide +kernel)
  have hinX1 : ∀ w ∈ u_ws RX1 TX1 6, w ∈ wsX4_whyNot := by decide +kernel
  have hf141 := hts (.fieldLink RX4 141 "SiloPads$Silo" "arch" "I") (by decide +kernel)
  have hf71 := hts (.fieldLink RX4 71 "SiloPads$Yard" "ships" "[LSiloPads$Ship;") (by decide +kernel)
  have hf111 := hts (.fieldLink RX4 111 "SiloPads$Silo" "padsOn" "I") (by decide +kernel)
  have hn10 := hy k hk
  refine lv_iload_n hx hb dX4_whyNot_0 rfl (lv_at hl 1 rfl) ?_
  refine g_cSi (As := [.int (nI k)]) (rest := []) hx hb hml hown hts hK hA hG hS (k_X4_isNoSilo l D cy N L _ (nI k) ) (g_cwS 1 hts gX4_whyNot_X4_isNoSilo rfl rfl rfl (by decide +kernel) ⟨Nat.le_of_ble_eq_true rfl, Nat.le_of_ble_eq_true rfl⟩) rfl rfl hl.1 (Nat.le_of_ble_eq_true rfl) dX4_whyNot_1 ⟨Nat.zero_le _, Nat.zero_le _⟩ (fun H locs hG hS => ?_)
  refine lv_toI (y := 0) (c_noSilo_k hk) ?_
  refine lv_if_ne (tgt := 14) hx hb dX4_whyNot_4 (by decide) (fun c_4 => ?_) (fun c_4 => ?_)
  · skip
    exact absurd c_4 (by decide)
  · skip
    refine lv_iload_n hx hb dX4_whyNot_7 rfl (lv_at hl 2 rfl) ?_
    refine g_cSi (As := [.int (nI j)]) (rest := []) hx hb hml hown hts hK hA hG hS (k_X4_isNoShip l D cy N L _ (nI j) ) (g_cwS 1 hts gX4_whyNot_X4_isNoShip rfl rfl rfl (by decide +kernel) ⟨Nat.le_of_ble_eq_true rfl, Nat.le_of_ble_eq_true rfl⟩) rfl rfl hl.1 (Nat.le_of_ble_eq_true rfl) dX4_whyNot_8 ⟨Nat.zero_le _, Nat.zero_le _⟩ (fun H locs hG hS => ?_)
    refine lv_toI (y := 0) (c_noShip_j hj) ?_
    refine lv_if_eq (tgt := 24) hx hb dX4_whyNot_11 (by decide) (fun c_11 => ?_) (fun c_11 => ?_)
    · skip
      refine lv_aload_n hx hb dX4_whyNot_24 rfl (lv_at hl 0 rfl) ?_
      refine g_get (ci := 4) (C := RX4) (T := TX4) (M := 8) hx hb hts hinX4 hown hK hG (by omega) cW_o rfl 0 (by decide) hf10 rfl rfl dX4_whyNot_25 ?_
      refine g_get (ci := 3) (C := RX3) (T := TX3) (M := 9) hx hb hts hinX3 hown hK hG (by omega) cW_yo rfl 0 (by decide) hf94 rfl rfl dX4_whyNot_28 ?_
      refine lv_iload_n hx hb dX4_whyNot_31 rfl (lv_at hl 1 rfl) ?_
      refine g_aald (j := 1 + 4 + 3 * k) hx hb hK hG (by omega) cW_ys (t0 := 1) rfl (k := k) rfl (by omega) (by decide) rfl dX4_whyNot_32 ?_
      refine lv_astore_n (lv' := [(3, .ref (L (1 + 4 + 3 * k))), (0, .ref (L 0)), (1, .int (nI k)), (2, .int (nI j))]) hx hb dX4_whyNot_33 rfl hl (by decide) rfl (fun ls hl => ?_)
      refine lv_aload_n hx hb dX4_whyNot_34 rfl (lv_at hl 0 rfl) ?_
      refine g_get (ci := 1) (C := RX1) (T := TX1) (M := 6) hx hb hts hinX1 hown hK hG (by omega) (cW_so (k := k) (by omega)) rfl 2 (by decide) hf125 rfl rfl dX4_whyNot_35 ?_
      refine lv_if_ne (tgt := 43) hx hb dX4_whyNot_38 (by decide) (fun c_38 => ?_) (fun c_38 => ?_)
      · skip
        have c_38 : ¬ (sN (yS (cY C) k)) = 0 := fun h9 => c_38 ((nI_eq (a := sN (yS (cY C) k)) (b := 0) (by omega) (by omega)).mpr h9)
        refine lv_aload_n hx hb dX4_whyNot_43 rfl (lv_at hl 0 rfl) ?_
        refine g_get (ci := 1) (C := RX1) (T := TX1) (M := 6) hx hb hts hinX1 hown hK hG (by omega) (cW_so (k := k) (by omega)) rfl 4 (by decide) hf141 rfl rfl dX4_whyNot_44 ?_
        refine lv_iconst (v := 2) hx hb dX4_whyNot_47 (by decide) ?_
        refine lv_icmp_ne (tgt := 53) hx hb dX4_whyNot_48 (by decide) (fun c_48 => ?_) (fun c_48 => ?_)
        · skip
          refine lv_aload_n hx hb dX4_whyNot_53 rfl (lv_at hl 1 rfl) ?_
          refine g_get (ci := 4) (C := RX4) (T := TX4) (M := 8) hx hb hts hinX4 hown hK hG (by omega) cW_o rfl 0 (by decide) hf10 rfl rfl dX4_whyNot_54 ?_
          refine g_get (ci := 3) (C := RX3) (T := TX3) (M := 9) hx hb hts hinX3 hown hK hG (by omega) cW_yo rfl 1 (by decide) hf71 rfl rfl dX4_whyNot_57 ?_
          refine lv_iload_n hx hb dX4_whyNot_60 rfl (lv_at hl 3 rfl) ?_
          refine g_aald (j := 1 + 16 + j) hx hb hK hG (by omega) cW_yh (t0 := 2) rfl (k := j) rfl (by omega) (by decide) rfl dX4_whyNot_61 ?_
          have hG : GW D N L (gA N L s.heap.size) (hW (cW cy L F C) (1 + 16 + j) (yH (cY C) j)) _ := hG.to (by rw [cW_H0 (j := j) (by omega)])
          refine g_cVi (As := []) (rest := []) hx hb hml hown hts hK hA hG hS (k_X0_room l D cy N L _ (1 + 16 + j) (yH (cY C) j)  (by omega)  ) (cwV 0 hts gX4_whyNot_X0_room rfl rfl rfl (by decide +kernel) ⟨Nat.le_of_ble_eq_true rfl, Nat.le_of_ble_eq_true rfl⟩) (by omega) hW_o (ci := 0) rfl rfl rfl rfl hl.1 (Nat.le_of_ble_eq_true rfl) dX4_whyNot_62 ⟨Nat.zero_le _, Nat.zero_le _⟩ (fun H locs hG hS => ?_)
          have hG : GW D N L (gA N L s.heap.size) (cW cy L F C) _ := hG.to (by rw [cW_H0 (j := j) (by omega)] <;> rfl)
          refine lv_if_ne (tgt := 70) hx hb dX4_whyNot_65 (by decide) (fun c_65 => ?_) (fun c_65 => ?_)
          · skip
            refine lv_aload_n hx hb dX4_whyNot_70 rfl (lv_at hl 1 rfl) ?_
            refine lv_aload_n hx hb dX4_whyNot_71 rfl (lv_at hl 0 rfl) ?_
            refine lv_aload_n hx hb dX4_whyNot_72 rfl (lv_at hl 0 rfl) ?_
            refine g_get (ci := 1) (C := RX1) (T := TX1) (M := 6) hx hb hts hinX1 hown hK hG (by omega) (cW_so (k := k) (by omega)) rfl 3 (by decide) hf111 rfl rfl dX4_whyNot_73 ?_
            have hG : GW D N L (gA N L s.heap.size) (sW cy L (cW cy L F C) (1 + 4 + 3 * k) (yS (cY C) k)) _ := hG.to (by rw [cW_S0 (k := k) (by omega)])
            refine g_cVi (As := [.ref (L (1 + 4 + 3 * k)), .int (sP (yS (cY C) k))]) (rest := []) hx hb hml hown hts hK hA hG hS (k_X4_outInHour l D cy N L _ (1 + 4 + 3 * k) (yS (cY C) k)  (yZ (cY C)) (by omega) (by omega) (cE_cW (F := F) (c := C)) (sP (yS (cY C) k)) (hy k hk)) (cwV 2 hts gX4_whyNot_X4_outInHour rfl rfl rfl (by decide +kernel) ⟨Nat.le_of_ble_eq_true rfl, Nat.le_of_ble_eq_true rfl⟩) (by omega) (by rw [sW_n (by omega)]; exact cW_o) (ci := 4) rfl rfl rfl rfl hl.1 (Nat.le_of_ble_eq_true rfl) dX4_whyNot_76 ⟨Nat.zero_le _, Nat.zero_le _⟩ (fun H locs hG hS => ?_)
            have hG : GW D N L (gA N L s.heap.size) (cW cy L F C) _ := hG.to (by rw [cW_S0 (k := k) (by omega)] <;> rfl)
            refine lv_if_ne (tgt := 86) hx hb dX4_whyNot_79 (by decide) (fun c_79 => ?_) (fun c_79 => ?_)
            · skip
              refine lv_iconst (v := 0) hx hb dX4_whyNot_86 (by decide) ?_
              exact g_iret hx hb hr hlocks hK hG hS rfl dX4_whyNot_87 ⟨(congrArg (fun z9 => some (Value.int z9)) (by simp only [y_why, c_38, c_48, c_65, c_79, if_true, if_false])), rfl⟩
            · skip
              refine lv_iconst (v := 4) hx hb dX4_whyNot_82 (by decide) ?_
              refine lv_goto (tgt := 87) hx hb dX4_whyNot_83 (by decide) ?_
              exact g_iret hx hb hr hlocks hK hG hS rfl dX4_whyNot_87 ⟨(congrArg (fun z9 => some (Value.int z9)) (by simp only [y_why, c_38, c_48, c_65, eq_true c_79, if_true, if_false])), rfl⟩
          · skip
            refine lv_iconst (v := 3) hx hb dX4_whyNot_68 (by decide) ?_
            exact g_iret hx hb hr hlocks hK hG hS rfl dX4_whyNot_69 ⟨(congrArg (fun z9 => some (Value.int z9)) (by simp only [y_why, c_38, c_48, eq_true c_65, if_true, if_false])), rfl⟩
        · skip
          refine lv_iconst (v := 2) hx hb dX4_whyNot_51 (by decide) ?_
          exact g_iret hx hb hr hlocks hK hG hS rfl dX4_whyNot_52 ⟨(congrArg (fun z9 => some (Value.int z9)) (by simp only [y_why, c_38, eq_true c_48, if_true, if_false])), rfl⟩
      · skip
        have c_38 : (sN (yS (cY C) k)) = 0 := (nI_eq (a := sN (yS (cY C) k)) (b := 0) (by omega) (by omega)).mp c_38
        refine lv_iconst (v := 1) hx hb dX4_whyNot_41 (by decide) ?_
        exact g_iret hx hb hr hlocks hK hG hS rfl dX4_whyNot_42 ⟨(congrArg (fun z9 => some (Value.int z9)) (by simp only [y_why, eq_true c_38, if_true, if_false])), rfl⟩
    · skip
      exact absurd c_11 (by decide)
set_option maxHeartbeats 4000000 in
set_option maxRecDepth 100000 in
theorem k_X4_shakesNeeded_ok (l : Launch) (D : va_G) (cy : Nat → ClassId) (N : Nat) (L : Nat → Nat) (F : Nat → va_E) (hN : 162 ≤ N) (C : CT) (k : Nat) (hy : wfY (cY C)) (hk : k < 4) (hn1 : 1 ≤ sN (yS (cY C) k) ∨ sC (yS (cY C) k) = 2 ∨ sC (yS (cY C) k) = 0) : GM l D cy N L yX4_shakesNeeded wsX4_shakesNeeded ({ frames := 7, cells := 0, slots := 0, locals := 150 }) [.ref (L 0), .int (nI k)] (cW cy L F C) (some (.int (c_brk (yZ (cY C)) (yS (cY C) k)))) (cW cy L F C) := by
  refine GM.ofW (cc := cX4_shakesNeeded) (maxL := 2) (ret := (some .int)) (by decide) rfl (Nat.le_of_ble_eq_true rfl) ?_
  intro p e s m below meth c ls hx hb hr hts hown hlocks hml hK hA hG hS hl
  have hl : lv_has ls 2 [(0, .ref (L 0)), (1, .int (nI k))] := hl
  have hf10 := hts (.fieldLink RX4 10 "SiloPads" "now" "LSiloPads$Yard;") (by decide +kernel)
  have hinX4 : ∀ w ∈ u_ws RX4 TX4 8, w ∈ wsX4_shakesNeeded := by decide +kernel
  have hf94 := hts (.fieldLink RX4 94 "SiloPads$Yard" "silos" "[LSiloPads$Silo;") (by decide +kernel)
  have hinX3 : ∀ w ∈ u_ws RX3 TX3 9, w ∈ wsX4_shakesNeeded := by decide +kernel
  refine lv_iload_n hx hb dX4_shakesNeeded_0 rfl (lv_at hl 1 rfl) ?_
  refine g_cSi (As := [.int (nI k)]) (rest := []) hx hb hml hown hts hK hA hG hS (k_X4_isNoSilo l D cy N L _ (nI k) ) (g_cwS 1 hts gX4_shakesNeeded_X4_isNoSilo rfl rfl rfl (by decide +kernel) ⟨Nat.le_of_ble_eq_true rfl, Nat.le_of_ble_eq_true rfl⟩) rfl rfl hl.1 (Nat.le_of_ble_eq_true rfl) dX4_shakesNeeded_1 ⟨Nat.zero_le _, Nat.zero_le _⟩ (fun H locs hG hS => ?_)
  refine lv_toI (y := 0) (c_noSilo_k hk) ?_
  refine lv_if_eq (tgt := 17) hx hb dX4_shakesNeeded_4 (by decide) (fun c_4 => ?_) (fun c_4 => ?_)
  · skip
    refine lv_aload_n hx hb dX4_shakesNeeded_17 rfl (lv_at hl 0 rfl) ?_
    refine lv_aload_n hx hb dX4_shakesNeeded_18 rfl (lv_at hl 0 rfl) ?_
    refine g_get (ci := 4) (C := RX4) (T := TX4) (M := 8) hx hb hts hinX4 hown hK hG (by omega) cW_o rfl 0 (by decide) hf10 rfl rfl dX4_shakesNeeded_19 ?_
    refine g_get (ci := 3) (C := RX3) (T := TX3) (M := 9) hx hb hts hinX3 hown hK hG (by omega) cW_yo rfl 0 (by decide) hf94 rfl rfl dX4_shakesNeeded_22 ?_
    refine lv_iload_n hx hb dX4_shakesNeeded_25 rfl (lv_at hl 1 rfl) ?_
    refine g_aald (j := 1 + 4 + 3 * k) hx hb hK hG (by omega) cW_ys (t0 := 1) rfl (k := k) rfl (by omega) (by decide) rfl dX4_shakesNeeded_26 ?_
    have hG : GW D N L (gA N L s.heap.size) (sW cy L (cW cy L F C) (1 + 4 + 3 * k) (yS (cY C) k)) _ := hG.to (by rw [cW_S0 (k := k) (by omega)])
    refine g_cVi (As := [.ref (L (1 + 4 + 3 * k))]) (rest := []) hx hb hml hown hts hK hA hG hS (k_X4_shakesToBreak l D cy N L _ (1 + 4 + 3 * k) (yS (cY C) k)  (yZ (cY C)) (by omega) (by omega) (cE_cW (F := F) (c := C))  (hy k hk) (hn1)) (cwV 1 hts gX4_shakesNeeded_X4_shakesToBreak rfl rfl rfl (by decide +kernel) ⟨Nat.le_of_ble_eq_true rfl, Nat.le_of_ble_eq_true rfl⟩) (by omega) (by rw [sW_n (by omega)]; exact cW_o) (ci := 4) rfl rfl rfl rfl hl.1 (Nat.le_of_ble_eq_true rfl) dX4_shakesNeeded_27 ⟨Nat.zero_le _, Nat.zero_le _⟩ (fun H locs hG hS => ?_)
    have hG : GW D N L (gA N L s.heap.size) (cW cy L F C) _ := hG.to (by rw [cW_S0 (k := k) (by omega)] <;> rfl)
    exact g_iret hx hb hr hlocks hK hG hS rfl dX4_shakesNeeded_30 ⟨rfl, rfl⟩
  · skip
    exact absurd c_4 (by decide)
end
section
set_option maxHeartbeats 4000000 in
set_option maxRecDepth 100000 in
theorem k_X4_pads_ok (l : Launch) (D : va_G) (cy : Nat → ClassId) (N : Nat) (L : Nat → Nat) (F : Nat → va_E) (hN : 162 ≤ N) (C : CT) (k q : Nat) (hy : wfY (cY C)) (hq : cQ C ≤ 6) (hm : ∀ i, i < 6 → cM C i < 6) (hk : k < 4) (h4 : q ≤ 4) (hbl : y_pads (cY C) 4 - sP (yS (cY C) k) + nI q ≤ yZ (cY C) 0) : GM l D cy N L yX4_pads wsX4_pads ({ frames := 7, cells := 0, slots := 0, locals := 150 }) [.ref (L 0), .int (nI k), .int (nI q)] (cW cy L F C) (some (.int (sP (yS (cY C) k)))) (cW cy L F (c_setY (c_save C) (y_padsS (cY C) k (nI q)))) := by
  refine GM.ofW (cc := cX4_pads) (maxL := 4) (ret := (some .int)) (by decide) rfl (Nat.le_of_ble_eq_true rfl) ?_
  intro p e s m below meth c ls hx hb hr hts hown hlocks hml hK hA hG hS hl
  have hl : lv_has ls 4 [(0, .ref (L 0)), (1, .int (nI k)), (2, .int (nI q))] := hl
  have hf10 := hts (.fieldLink RX4 10 "SiloPads" "now" "LSiloPads$Yard;") (by decide +kernel)
  have hinX4 : ∀ w ∈ u_ws RX4 TX4 8, w ∈ wsX4_pads := by decide +kernel
  have hf94 := hts (.fieldLink RX4 94 "SiloPads$Yard" "silos" "[LSiloPads$Silo;") (by decide +kernel)
  have hinX3 : ∀ w ∈ u_ws RX3 TX3 9, w ∈ wsX4_pads := by decide +kernel
  have hf111 := hts (.fieldLink RX4 111 "SiloPads$Silo" "padsOn" "I") (by decide +kernel)
  have hinX1 : ∀ w ∈ u_ws RX1 TX1 6, w ∈ wsX4_pads := by decide +kernel
  have hf117 := hts (.fieldLink RX4 117 "SiloPads$Yard" "settings" "[I") (by decide +kernel)
  refine lv_iload_n hx hb dX4_pads_0 rfl (lv_at hl 1 rfl) ?_
  refine g_cSi (As := [.int (nI k)]) (rest := []) hx hb hml hown hts hK hA hG hS (k_X4_isNoSilo l D cy N L _ (nI k) ) (g_cwS 1 hts gX4_pads_X4_isNoSilo rfl rfl rfl (by decide +kernel) ⟨Nat.le_of_ble_eq_true rfl, Nat.le_of_ble_eq_true rfl⟩) rfl rfl hl.1 (Nat.le_of_ble_eq_true rfl) dX4_pads_1 ⟨Nat.zero_le _, Nat.zero_le _⟩ (fun H locs hG hS => ?_)
  refine lv_toI (y := 0) (c_noSilo_k hk) ?_
  refine lv_if_eq (tgt := 17) hx hb dX4_pads_4 (by decide) (fun c_4 => ?_) (fun c_4 => ?_)
  · skip
    refine lv_iload_n hx hb dX4_pads_17 rfl (lv_at hl 2 rfl) ?_
    refine lv_if_lt (tgt := 26) hx hb dX4_pads_18 (by decide) (fun c_18 => ?_) (fun c_18 => ?_)
    · skip
      have c_18 : q < 0 := (nI_ltI (a := q) (b := 0) (by omega) (by omega)).mp c_18
      exfalso; omega
    · skip
      have c_18 : ¬ q < 0 := fun h9 => c_18 ((nI_ltI (a := q) (b := 0) (by omega) (by omega)).mpr h9)
      refine lv_iload_n hx hb dX4_pads_21 rfl (lv_at hl 2 rfl) ?_
      refine lv_iconst (v := 4) hx hb dX4_pads_22 (by decide) ?_
      refine lv_icmp_le (tgt := 36) hx hb dX4_pads_23 (by decide) (fun c_23 => ?_) (fun c_23 => ?_)
      · skip
        have c_23 : q ≤ 4 := (nI_leI (a := q) (b := 4) (by omega) (by omega)).mp c_23
        refine lv_aload_n hx hb dX4_pads_36 rfl (lv_at hl 0 rfl) ?_
        refine g_get (ci := 4) (C := RX4) (T := TX4) (M := 8) hx hb hts hinX4 hown hK hG (by omega) cW_o rfl 0 (by decide) hf10 rfl rfl dX4_pads_37 ?_
        refine g_get (ci := 3) (C := RX3) (T := TX3) (M := 9) hx hb hts hinX3 hown hK hG (by omega) cW_yo rfl 0 (by decide) hf94 rfl rfl dX4_pads_40 ?_
        refine lv_iload_n hx hb dX4_pads_43 rfl (lv_at hl 1 rfl) ?_
        refine g_aald (j := 1 + 4 + 3 * k) hx hb hK hG (by omega) cW_ys (t0 := 1) rfl (k := k) rfl (by omega) (by decide) rfl dX4_pads_44 ?_
        refine g_get (ci := 1) (C := RX1) (T := TX1) (M := 6) hx hb hts hinX1 hown hK hG (by omega) (cW_so (k := k) (by omega)) rfl 3 (by decide) hf111 rfl rfl dX4_pads_45 ?_
        refine lv_istore_n (lv' := [(3, .int (sP (yS (cY C) k))), (0, .ref (L 0)), (1, .int (nI k)), (2, .int (nI q))]) hx hb dX4_pads_48 rfl hl (by decide) rfl (fun ls hl => ?_)
        refine lv_aload_n hx hb dX4_pads_49 rfl (lv_at hl 1 rfl) ?_
        refine g_get (ci := 4) (C := RX4) (T := TX4) (M := 8) hx hb hts hinX4 hown hK hG (by omega) cW_o rfl 0 (by decide) hf10 rfl rfl dX4_pads_50 ?_
        have hG : GW D N L (gA N L s.heap.size) (yW cy L (cW cy L F C) (1) (cY C)) _ := hG.to (by rw [cW_Y0 ])
        refine g_cVi (As := []) (rest := []) hx hb hml hown hts hK hA hG hS (k_X3_padsOn l D cy N L _ 1 (cY C)  (by omega)  ) (cwV 0 hts gX4_pads_X3_padsOn rfl rfl rfl (by decide +kernel) ⟨Nat.le_of_ble_eq_true rfl, Nat.le_of_ble_eq_true rfl⟩) (by omega) yW_o (ci := 3) rfl rfl rfl rfl hl.1 (Nat.le_of_ble_eq_true rfl) dX4_pads_53 ⟨Nat.zero_le _, Nat.zero_le _⟩ (fun H locs hG hS => ?_)
        have hG : GW D N L (gA N L s.heap.size) (cW cy L F C) _ := hG.to (by rw [cW_Y0 ] <;> rfl)
        refine lv_iload_n hx hb dX4_pads_56 rfl (lv_at hl 0 rfl) ?_
        refine lv_isub hx hb dX4_pads_57 ?_
        refine lv_iload_n hx hb dX4_pads_58 rfl (lv_at hl 3 rfl) ?_
        refine lv_iadd hx hb dX4_pads_59 ?_
        refine lv_aload_n hx hb dX4_pads_60 rfl (lv_at hl 1 rfl) ?_
        refine g_get (ci := 4) (C := RX4) (T := TX4) (M := 8) hx hb hts hinX4 hown hK hG (by omega) cW_o rfl 0 (by decide) hf10 rfl rfl dX4_pads_61 ?_
        refine g_get (ci := 3) (C := RX3) (T := TX3) (M := 9) hx hb hts hinX3 hown hK hG (by omega) cW_yo rfl 2 (by decide) hf117 rfl rfl dX4_pads_64 ?_
        refine lv_iconst (v := 0) hx hb dX4_pads_67 (by decide) ?_
        refine g_iald hx hb hK hG (by omega) cW_yz (k := 0) rfl (by omega) (by decide) dX4_pads_68 ?_
        refine lv_icmp_le (tgt := 82) hx hb dX4_pads_69 (by decide) (fun c_69 => ?_) (fun c_69 => ?_)
        · skip
          refine lv_aload_n hx hb dX4_pads_82 rfl (lv_at hl 1 rfl) ?_
          refine g_cVv (As := []) (rest := []) hx hb hml hown hts hK hA hG hS (k_X4_saveState l D cy N L _ (by omega) C  (hq) (hm)) (cwV 0 hts gX4_pads_X4_saveState rfl rfl rfl (by decide +kernel) ⟨Nat.le_of_ble_eq_true rfl, Nat.le_of_ble_eq_true rfl⟩) (by omega) cW_o (ci := 4) rfl rfl rfl rfl hl.1 (Nat.le_of_ble_eq_true rfl) dX4_pads_83 ⟨Nat.zero_le _, Nat.zero_le _⟩ (fun H locs hG hS => ?_)
          refine lv_aload_n hx hb dX4_pads_86 rfl (lv_at hl 1 rfl) ?_
          refine g_get (ci := 4) (C := RX4) (T := TX4) (M := 8) hx hb hts hinX4 hown hK hG (by omega) cW_o rfl 0 (by decide) hf10 rfl rfl dX4_pads_87 ?_
          refine g_get (ci := 3) (C := RX3) (T := TX3) (M := 9) hx hb hts hinX3 hown hK hG (by omega) cW_yo rfl 0 (by decide) hf94 rfl rfl dX4_pads_90 ?_
          refine lv_iload_n hx hb dX4_pads_93 rfl (lv_at hl 2 rfl) ?_
          refine g_aald (j := 1 + 4 + 3 * k) hx hb hK hG (by omega) cW_ys (t0 := 1) rfl (k := k) rfl (by omega) (by decide) rfl dX4_pads_94 ?_
          refine lv_iload_n hx hb dX4_pads_95 rfl (lv_at hl 3 rfl) ?_
          refine g_put (ci := 1) (C := RX1) (T := TX1) (M := 6) (ty := .int) hx hb hts hinX1 tyX1 tyX1_ok nmX1 hown hK hG hS (by omega) (cW_so (k := k) (by omega)) rfl 3 (by decide) hf111 rfl rfl rfl rfl rfl (Nat.le_of_ble_eq_true rfl) dX4_pads_96 rfl (fun H locs hG hS => ?_)
          have hG : GW D N L (gA N L s.heap.size) (cW cy L F (ySetS (cY (c_save C)) k (sT (yS (cY (c_save C)) k), sA (yS (cY (c_save C)) k), sN (yS (cY (c_save C)) k), nI q, sC (yS (cY (c_save C)) k), sK (yS (cY (c_save C)) k)), cV (c_save C), cM (c_save C), cQ (c_save C), cB (c_save C), cL (c_save C), cR (c_save C), cT (c_save C), cU (c_save C))) _ := hG.to (cW_uso (k := k) (by omega))
          refine lv_iload_n hx hb dX4_pads_99 rfl (lv_at hl 0 rfl) ?_
          exact g_iret hx hb hr hlocks hK hG hS rfl dX4_pads_100 ⟨rfl, (by rfl)⟩
        · skip
          exact absurd hbl c_69
      · skip
        have c_23 : ¬ q ≤ 4 := fun h9 => c_23 ((nI_leI (a := q) (b := 4) (by omega) (by omega)).mpr h9)
        exfalso; omega
  · skip
    exact absurd c_4 (by decide)
set_option maxHeartbeats 4000000 in
set_option maxRecDepth 100000 in
theorem k_X4_shake_ok (l : Launch) (D : va_G) (cy : Nat → ClassId) (N : Nat) (L : Nat → Nat) (F : Nat → va_E) (hN : 162 ≤ N) (C : CT) (k : Nat) (hy : wfY (cY C)) (hq : cQ C ≤ 6) (hm : ∀ i, i < 6 → cM C i < 6) (hk : k < 4) (hn1 : 1 ≤ sN (yS (cY C) k)) : GM l D cy N L yX4_shake wsX4_shake ({ frames := 7, cells := 0, slots := 0, locals := 150 }) [.ref (L 0), .int (nI k)] (cW cy L F C) (some (.int (y_shakeR (cY (c_save C)) k))) (cW cy L F (c_setY (c_save C) (y_shake (cY (c_save C)) k))) := by
  refine GM.ofW (cc := cX4_shake) (maxL := 4) (ret := (some .int)) (by decide) rfl (Nat.le_of_ble_eq_true rfl) ?_
  intro p e s m below meth c ls hx hb hr hts hown hlocks hml hK hA hG hS hl
  have hl : lv_has ls 4 [(0, .ref (L 0)), (1, .int (nI k))] := hl
  have hf10 := hts (.fieldLink RX4 10 "SiloPads" "now" "LSiloPads$Yard;") (by decide +kernel)
  have hinX4 : ∀ w ∈ u_ws RX4 TX4 8, w ∈ wsX4_shake := by decide +kernel
  have hf94 := hts (.fieldLink RX4 94 "SiloPads$Yard" "silos" "[LSiloPads$Silo;") (by decide +kernel)
  have hinX3 : ∀ w ∈ u_ws RX3 TX3 9, w ∈ wsX4_shake := by decide +kernel
  have hf125 := hts (.fieldLink RX4 125 "SiloPads$Silo" "layers" "I") (by decide +kernel)
  have hinX1 : ∀ w ∈ u_ws RX1 TX1 6, w ∈ wsX4_shake := by decide +kernel
  have hf134 := hts (.fieldLink RX4 134 "SiloPads$Silo" "shakes" "I") (by decide +kernel)
  have hf137 := hts (.fieldLink RX4 137 "SiloPads$Yard" "shakes" "I") (by decide +kernel)
  have hf141 := hts (.fieldLink RX4 141 "SiloPads$Silo" "arch" "I") (by decide +kernel)
  refine lv_iload_n hx hb dX4_shake_0 rfl (lv_at hl 1 rfl) ?_
  refine g_cSi (As := [.int (nI k)]) (rest := []) hx hb hml hown hts hK hA hG hS (k_X4_isNoSilo l D cy N L _ (nI k) ) (g_cwS 1 hts gX4_shake_X4_isNoSilo rfl rfl rfl (by decide +kernel) ⟨Nat.le_of_ble_eq_true rfl, Nat.le_of_ble_eq_true rfl⟩) rfl rfl hl.1 (Nat.le_of_ble_eq_true rfl) dX4_shake_1 ⟨Nat.zero_le _, Nat.zero_le _⟩ (fun H locs hG hS => ?_)
  refine lv_toI (y := 0) (c_noSilo_k hk) ?_
  refine lv_if_eq (tgt := 17) hx hb dX4_shake_4 (by decide) (fun c_4 => ?_) (fun c_4 => ?_)
  · skip
    refine lv_aload_n hx hb dX4_shake_17 rfl (lv_at hl 0 rfl) ?_
    refine g_get (ci := 4) (C := RX4) (T := TX4) (M := 8) hx hb hts hinX4 hown hK hG (by omega) cW_o rfl 0 (by decide) hf10 rfl rfl dX4_shake_18 ?_
    refine g_get (ci := 3) (C := RX3) (T := TX3) (M := 9) hx hb hts hinX3 hown hK hG (by omega) cW_yo rfl 0 (by decide) hf94 rfl rfl dX4_shake_21 ?_
    refine lv_iload_n hx hb dX4_shake_24 rfl (lv_at hl 1 rfl) ?_
    refine g_aald (j := 1 + 4 + 3 * k) hx hb hK hG (by omega) cW_ys (t0 := 1) rfl (k := k) rfl (by omega) (by decide) rfl dX4_shake_25 ?_
    refine lv_astore_n (lv' := [(2, .ref (L (1 + 4 + 3 * k))), (0, .ref (L 0)), (1, .int (nI k))]) hx hb dX4_shake_26 rfl hl (by decide) rfl (fun ls hl => ?_)
    have hn10 := hy k hk
    refine lv_aload_n hx hb dX4_shake_27 rfl (lv_at hl 0 rfl) ?_
    refine g_get (ci := 1) (C := RX1) (T := TX1) (M := 6) hx hb hts hinX1 hown hK hG (by omega) (cW_so (k := k) (by omega)) rfl 2 (by decide) hf125 rfl rfl dX4_shake_28 ?_
    refine lv_if_ne (tgt := 44) hx hb dX4_shake_31 (by decide) (fun c_31 => ?_) (fun c_31 => ?_)
    · skip
      have c_31 : ¬ (sN (yS (cY C) k)) = 0 := fun h9 => c_31 ((nI_eq (a := sN (yS (cY C) k)) (b := 0) (by omega) (by omega)).mpr h9)
      refine lv_aload_n hx hb dX4_shake_44 rfl (lv_at hl 1 rfl) ?_
      refine g_cVv (As := []) (rest := []) hx hb hml hown hts hK hA hG hS (k_X4_saveState l D cy N L _ (by omega) C  (hq) (hm)) (cwV 0 hts gX4_shake_X4_saveState rfl rfl rfl (by decide +kernel) ⟨Nat.le_of_ble_eq_true rfl, Nat.le_of_ble_eq_true rfl⟩) (by omega) cW_o (ci := 4) rfl rfl rfl rfl hl.1 (Nat.le_of_ble_eq_true rfl) dX4_shake_45 ⟨Nat.zero_le _, Nat.zero_le _⟩ (fun H locs hG hS => ?_)
      refine lv_aload_n hx hb dX4_shake_48 rfl (lv_at hl 1 rfl) ?_
      refine lv_aload_n hx hb dX4_shake_49 rfl (lv_at hl 0 rfl) ?_
      have hG : GW D N L (gA N L s.heap.size) (sW cy L (cW cy L F (c_save C)) (1 + 4 + 3 * k) (yS (cY (c_save C)) k)) _ := hG.to (by rw [cW_S0 (k := k) (by omega)])
      refine g_cVi (As := [.ref (L (1 + 4 + 3 * k))]) (rest := []) hx hb hml hown hts hK hA hG hS (k_X4_shakesToBreak l D cy N L _ (1 + 4 + 3 * k) (yS (cY (c_save C)) k)  (yZ (cY (c_save C))) (by omega) (by omega) (cE_cW (F := F) (c := c_save C))  (hy k hk) (Or.inl hn1)) (cwV 1 hts gX4_shake_X4_shakesToBreak rfl rfl rfl (by decide +kernel) ⟨Nat.le_of_ble_eq_true rfl, Nat.le_of_ble_eq_true rfl⟩) (by omega) (by rw [sW_n (by omega)]; exact cW_o) (ci := 4) rfl rfl rfl rfl hl.1 (Nat.le_of_ble_eq_true rfl) dX4_shake_50 ⟨Nat.zero_le _, Nat.zero_le _⟩ (fun H locs hG hS => ?_)
      have hG : GW D N L (gA N L s.heap.size) (cW cy L F (c_save C)) _ := hG.to (by rw [cW_S0 (k := k) (by omega)] <;> rfl)
      refine lv_iconst (v := 1) hx hb dX4_shake_53 (by decide) ?_
      refine lv_icmp_ne (tgt := 61) hx hb dX4_shake_54 (by decide) (fun c_54 => ?_) (fun c_54 => ?_)
      · skip
        refine lv_iconst (v := 0) hx hb dX4_shake_61 (by decide) ?_
        refine lv_istore_n (lv' := [(3, .int 0), (2, .ref (L (1 + 4 + 3 * k))), (0, .ref (L 0)), (1, .int (nI k))]) hx hb dX4_shake_62 rfl hl (by decide) rfl (fun ls hl => ?_)
        refine lv_aload_n hx hb dX4_shake_63 rfl (lv_at hl 1 rfl) ?_
        refine lv_dup hx hb dX4_shake_64 rfl ?_
        refine g_get (ci := 1) (C := RX1) (T := TX1) (M := 6) hx hb hts hinX1 hown hK hG (by omega) (cW_so (k := k) (by omega)) rfl 5 (by decide) hf134 rfl rfl dX4_shake_65 ?_
        refine lv_iconst (v := 1) hx hb dX4_shake_68 (by decide) ?_
        refine lv_iadd hx hb dX4_shake_69 ?_
        refine g_put (ci := 1) (C := RX1) (T := TX1) (M := 6) (ty := .int) hx hb hts hinX1 tyX1 tyX1_ok nmX1 hown hK hG hS (by omega) (cW_so (k := k) (by omega)) rfl 5 (by decide) hf134 rfl rfl rfl rfl rfl (Nat.le_of_ble_eq_true rfl) dX4_shake_70 rfl (fun H locs hG hS => ?_)
        have hG : GW D N L (gA N L s.heap.size) (cW cy L F (ySetS (cY (c_save C)) k (sT (yS (cY (c_save C)) k), sA (yS (cY (c_save C)) k), sN (yS (cY (c_save C)) k), sP (yS (cY (c_save C)) k), sC (yS (cY (c_save C)) k), (sK (yS (cY (c_save C)) k)) + 1), cV (c_save C), cM (c_save C), cQ (c_save C), cB (c_save C), cL (c_save C), cR (c_save C), cT (c_save C), cU (c_save C))) _ := hG.to (cW_uso (k := k) (by omega))
        refine lv_aload_n hx hb dX4_shake_73 rfl (lv_at hl 2 rfl) ?_
        refine g_get (ci := 4) (C := RX4) (T := TX4) (M := 8) hx hb hts hinX4 hown hK hG (by omega) cW_o rfl 0 (by decide) hf10 rfl rfl dX4_shake_74 ?_
        refine lv_dup hx hb dX4_shake_77 rfl ?_
        refine g_get (ci := 3) (C := RX3) (T := TX3) (M := 9) hx hb hts hinX3 hown hK hG (by omega) cW_yo rfl 7 (by decide) hf137 rfl rfl dX4_shake_78 ?_
        refine lv_iconst (v := 1) hx hb dX4_shake_81 (by decide) ?_
        refine lv_iadd hx hb dX4_shake_82 ?_
        refine g_put (ci := 3) (C := RX3) (T := TX3) (M := 9) (ty := .int) hx hb hts hinX3 tyX3 tyX3_ok nmX3 hown hK hG hS (by omega) cW_yo rfl 7 (by decide) hf137 rfl rfl rfl rfl rfl (Nat.le_of_ble_eq_true rfl) dX4_shake_83 rfl (fun H locs hG hS => ?_)
        have hG : GW D N L (gA N L s.heap.size) (cW cy L F ((yS (ySetS (cY (c_save C)) k (sT (yS (cY (c_save C)) k), sA (yS (cY (c_save C)) k), sN (yS (cY (c_save C)) k), sP (yS (cY (c_save C)) k), sC (yS (cY (c_save C)) k), (sK (yS (cY (c_save C)) k)) + 1)), yH (ySetS (cY (c_save C)) k (sT (yS (cY (c_save C)) k), sA (yS (cY (c_save C)) k), sN (yS (cY (c_save C)) k), sP (yS (cY (c_save C)) k), sC (yS (cY (c_save C)) k), (sK (yS (cY (c_save C)) k)) + 1)), yZ (ySetS (cY (c_save C)) k (sT (yS (cY (c_save C)) k), sA (yS (cY (c_save C)) k), sN (yS (cY (c_save C)) k), sP (yS (cY (c_save C)) k), sC (yS (cY (c_save C)) k), (sK (yS (cY (c_save C)) k)) + 1)), upd (yC (ySetS (cY (c_save C)) k (sT (yS (cY (c_save C)) k), sA (yS (cY (c_save C)) k), sN (yS (cY (c_save C)) k), sP (yS (cY (c_save C)) k), sC (yS (cY (c_save C)) k), (sK (yS (cY (c_save C)) k)) + 1))) 4 ((yC (ySetS (cY (c_save C)) k (sT (yS (cY (c_save C)) k), sA (yS (cY (c_save C)) k), sN (yS (cY (c_save C)) k), sP (yS (cY (c_save C)) k), sC (yS (cY (c_save C)) k), (sK (yS (cY (c_save C)) k)) + 1)) 4) + 1)), cV (c_save C), cM (c_save C), cQ (c_save C), cB (c_save C), cL (c_save C), cR (c_save C), cT (c_save C), cU (c_save C))) _ := hG.to cW_uy4
        refine lv_aload_n hx hb dX4_shake_86 rfl (lv_at hl 1 rfl) ?_
        have hG : GW D N L (gA N L s.heap.size) (sW cy L (cW cy L F ((yS (ySetS (cY (c_save C)) k (sT (yS (cY (c_save C)) k), sA (yS (cY (c_save C)) k), sN (yS (cY (c_save C)) k), sP (yS (cY (c_save C)) k), sC (yS (cY (c_save C)) k), (sK (yS (cY (c_save C)) k)) + 1)), yH (ySetS (cY (c_save C)) k (sT (yS (cY (c_save C)) k), sA (yS (cY (c_save C)) k), sN (yS (cY (c_save C)) k), sP (yS (cY (c_save C)) k), sC (yS (cY (c_save C)) k), (sK (yS (cY (c_save C)) k)) + 1)), yZ (ySetS (cY (c_save C)) k (sT (yS (cY (c_save C)) k), sA (yS (cY (c_save C)) k), sN (yS (cY (c_save C)) k), sP (yS (cY (c_save C)) k), sC (yS (cY (c_save C)) k), (sK (yS (cY (c_save C)) k)) + 1)), upd (yC (ySetS (cY (c_save C)) k (sT (yS (cY (c_save C)) k), sA (yS (cY (c_save C)) k), sN (yS (cY (c_save C)) k), sP (yS (cY (c_save C)) k), sC (yS (cY (c_save C)) k), (sK (yS (cY (c_save C)) k)) + 1))) 4 ((yC (ySetS (cY (c_save C)) k (sT (yS (cY (c_save C)) k), sA (yS (cY (c_save C)) k), sN (yS (cY (c_save C)) k), sP (yS (cY (c_save C)) k), sC (yS (cY (c_save C)) k), (sK (yS (cY (c_save C)) k)) + 1)) 4) + 1)), cV (c_save C), cM (c_save C), cQ (c_save C), cB (c_save C), cL (c_save C), cR (c_save C), cT (c_save C), cU (c_save C))) (1 + 4 + 3 * k) (yS (yS (ySetS (cY (c_save C)) k (sT (yS (cY (c_save C)) k), sA (yS (cY (c_save C)) k), sN (yS (cY (c_save C)) k), sP (yS (cY (c_save C)) k), sC (yS (cY (c_save C)) k), (sK (yS (cY (c_save C)) k)) + 1)), yH (ySetS (cY (c_save C)) k (sT (yS (cY (c_save C)) k), sA (yS (cY (c_save C)) k), sN (yS (cY (c_save C)) k), sP (yS (cY (c_save C)) k), sC (yS (cY (c_save C)) k), (sK (yS (cY (c_save C)) k)) + 1)), yZ (ySetS (cY (c_save C)) k (sT (yS (cY (c_save C)) k), sA (yS (cY (c_save C)) k), sN (yS (cY (c_save C)) k), sP (yS (cY (c_save C)) k), sC (yS (cY (c_save C)) k), (sK (yS (cY (c_save C)) k)) + 1)), upd (yC (ySetS (cY (c_save C)) k (sT (yS (cY (c_save C)) k), sA (yS (cY (c_save C)) k), sN (yS (cY (c_save C)) k), sP (yS (cY (c_save C)) k), sC (yS (cY (c_save C)) k), (sK (yS (cY (c_save C)) k)) + 1))) 4 ((yC (ySetS (cY (c_save C)) k (sT (yS (cY (c_save C)) k), sA (yS (cY (c_save C)) k), sN (yS (cY (c_save C)) k), sP (yS (cY (c_save C)) k), sC (yS (cY (c_save C)) k), (sK (yS (cY (c_save C)) k)) + 1)) 4) + 1)) k)) _ := hG.to (by rw [cW_S0 (k := k) (by omega)])
        refine g_cVv (As := []) (rest := []) hx hb hml hown hts hK hA hG hS (k_X1_makeLowestYounger l D cy N L _ (1 + 4 + 3 * k) (yS (yS (ySetS (cY (c_save C)) k (sT (yS (cY (c_save C)) k), sA (yS (cY (c_save C)) k), sN (yS (cY (c_save C)) k), sP (yS (cY (c_save C)) k), sC (yS (cY (c_save C)) k), (sK (yS (cY (c_save C)) k)) + 1)), yH (ySetS (cY (c_save C)) k (sT (yS (cY (c_save C)) k), sA (yS (cY (c_save C)) k), sN (yS (cY (c_save C)) k), sP (yS (cY (c_save C)) k), sC (yS (cY (c_save C)) k), (sK (yS (cY (c_save C)) k)) + 1)), yZ (ySetS (cY (c_save C)) k (sT (yS (cY (c_save C)) k), sA (yS (cY (c_save C)) k), sN (yS (cY (c_save C)) k), sP (yS (cY (c_save C)) k), sC (yS (cY (c_save C)) k), (sK (yS (cY (c_save C)) k)) + 1)), upd (yC (ySetS (cY (c_save C)) k (sT (yS (cY (c_save C)) k), sA (yS (cY (c_save C)) k), sN (yS (cY (c_save C)) k), sP (yS (cY (c_save C)) k), sC (yS (cY (c_save C)) k), (sK (yS (cY (c_save C)) k)) + 1))) 4 ((yC (ySetS (cY (c_save C)) k (sT (yS (cY (c_save C)) k), sA (yS (cY (c_save C)) k), sN (yS (cY (c_save C)) k), sP (yS (cY (c_save C)) k), sC (yS (cY (c_save C)) k), (sK (yS (cY (c_save C)) k)) + 1)) 4) + 1)) k)  (by omega)  ) (cwV 0 hts gX4_shake_X1_makeLowestYounger rfl rfl rfl (by decide +kernel) ⟨Nat.le_of_ble_eq_true rfl, Nat.le_of_ble_eq_true rfl⟩) (by omega) sW_o (ci := 1) rfl rfl rfl rfl hl.1 (Nat.le_of_ble_eq_true rfl) dX4_shake_87 ⟨Nat.zero_le _, Nat.zero_le _⟩ (fun H locs hG hS => ?_)
        have hG : GW D N L (gA N L s.heap.size) (cW cy L F (ySetS (yS (ySetS (cY (c_save C)) k (sT (yS (cY (c_save C)) k), sA (yS (cY (c_save C)) k), sN (yS (cY (c_save C)) k), sP (yS (cY (c_save C)) k), sC (yS (cY (c_save C)) k), (sK (yS (cY (c_save C)) k)) + 1)), yH (ySetS (cY (c_save C)) k (sT (yS (cY (c_save C)) k), sA (yS (cY (c_save C)) k), sN (yS (cY (c_save C)) k), sP (yS (cY (c_save C)) k), sC (yS (cY (c_save C)) k), (sK (yS (cY (c_save C)) k)) + 1)), yZ (ySetS (cY (c_save C)) k (sT (yS (cY (c_save C)) k), sA (yS (cY (c_save C)) k), sN (yS (cY (c_save C)) k), sP (yS (cY (c_save C)) k), sC (yS (cY (c_save C)) k), (sK (yS (cY (c_save C)) k)) + 1)), upd (yC (ySetS (cY (c_save C)) k (sT (yS (cY (c_save C)) k), sA (yS (cY (c_save C)) k), sN (yS (cY (c_save C)) k), sP (yS (cY (c_save C)) k), sC (yS (cY (c_save C)) k), (sK (yS (cY (c_save C)) k)) + 1))) 4 ((yC (ySetS (cY (c_save C)) k (sT (yS (cY (c_save C)) k), sA (yS (cY (c_save C)) k), sN (yS (cY (c_save C)) k), sP (yS (cY (c_save C)) k), sC (yS (cY (c_save C)) k), (sK (yS (cY (c_save C)) k)) + 1)) 4) + 1)) k (sT (yS (yS (ySetS (cY (c_save C)) k (sT (yS (cY (c_save C)) k), sA (yS (cY (c_save C)) k), sN (yS (cY (c_save C)) k), sP (yS (cY (c_save C)) k), sC (yS (cY (c_save C)) k), (sK (yS (cY (c_save C)) k)) + 1)), yH (ySetS (cY (c_save C)) k (sT (yS (cY (c_save C)) k), sA (yS (cY (c_save C)) k), sN (yS (cY (c_save C)) k), sP (yS (cY (c_save C)) k), sC (yS (cY (c_save C)) k), (sK (yS (cY (c_save C)) k)) + 1)), yZ (ySetS (cY (c_save C)) k (sT (yS (cY (c_save C)) k), sA (yS (cY (c_save C)) k), sN (yS (cY (c_save C)) k), sP (yS (cY (c_save C)) k), sC (yS (cY (c_save C)) k), (sK (yS (cY (c_save C)) k)) + 1)), upd (yC (ySetS (cY (c_save C)) k (sT (yS (cY (c_save C)) k), sA (yS (cY (c_save C)) k), sN (yS (cY (c_save C)) k), sP (yS (cY (c_save C)) k), sC (yS (cY (c_save C)) k), (sK (yS (cY (c_save C)) k)) + 1))) 4 ((yC (ySetS (cY (c_save C)) k (sT (yS (cY (c_save C)) k), sA (yS (cY (c_save C)) k), sN (yS (cY (c_save C)) k), sP (yS (cY (c_save C)) k), sC (yS (cY (c_save C)) k), (sK (yS (cY (c_save C)) k)) + 1)) 4) + 1)) k), s_young (sA (yS (yS (ySetS (cY (c_save C)) k (sT (yS (cY (c_save C)) k), sA (yS (cY (c_save C)) k), sN (yS (cY (c_save C)) k), sP (yS (cY (c_save C)) k), sC (yS (cY (c_save C)) k), (sK (yS (cY (c_save C)) k)) + 1)), yH (ySetS (cY (c_save C)) k (sT (yS (cY (c_save C)) k), sA (yS (cY (c_save C)) k), sN (yS (cY (c_save C)) k), sP (yS (cY (c_save C)) k), sC (yS (cY (c_save C)) k), (sK (yS (cY (c_save C)) k)) + 1)), yZ (ySetS (cY (c_save C)) k (sT (yS (cY (c_save C)) k), sA (yS (cY (c_save C)) k), sN (yS (cY (c_save C)) k), sP (yS (cY (c_save C)) k), sC (yS (cY (c_save C)) k), (sK (yS (cY (c_save C)) k)) + 1)), upd (yC (ySetS (cY (c_save C)) k (sT (yS (cY (c_save C)) k), sA (yS (cY (c_save C)) k), sN (yS (cY (c_save C)) k), sP (yS (cY (c_save C)) k), sC (yS (cY (c_save C)) k), (sK (yS (cY (c_save C)) k)) + 1))) 4 ((yC (ySetS (cY (c_save C)) k (sT (yS (cY (c_save C)) k), sA (yS (cY (c_save C)) k), sN (yS (cY (c_save C)) k), sP (yS (cY (c_save C)) k), sC (yS (cY (c_save C)) k), (sK (yS (cY (c_save C)) k)) + 1)) 4) + 1)) k)), sN (yS (yS (ySetS (cY (c_save C)) k (sT (yS (cY (c_save C)) k), sA (yS (cY (c_save C)) k), sN (yS (cY (c_save C)) k), sP (yS (cY (c_save C)) k), sC (yS (cY (c_save C)) k), (sK (yS (cY (c_save C)) k)) + 1)), yH (ySetS (cY (c_save C)) k (sT (yS (cY (c_save C)) k), sA (yS (cY (c_save C)) k), sN (yS (cY (c_save C)) k), sP (yS (cY (c_save C)) k), sC (yS (cY (c_save C)) k), (sK (yS (cY (c_save C)) k)) + 1)), yZ (ySetS (cY (c_save C)) k (sT (yS (cY (c_save C)) k), sA (yS (cY (c_save C)) k), sN (yS (cY (c_save C)) k), sP (yS (cY (c_save C)) k), sC (yS (cY (c_save C)) k), (sK (yS (cY (c_save C)) k)) + 1)), upd (yC (ySetS (cY (c_save C)) k (sT (yS (cY (c_save C)) k), sA (yS (cY (c_save C)) k), sN (yS (cY (c_save C)) k), sP (yS (cY (c_save C)) k), sC (yS (cY (c_save C)) k), (sK (yS (cY (c_save C)) k)) + 1))) 4 ((yC (ySetS (cY (c_save C)) k (sT (yS (cY (c_save C)) k), sA (yS (cY (c_save C)) k), sN (yS (cY (c_save C)) k), sP (yS (cY (c_save C)) k), sC (yS (cY (c_save C)) k), (sK (yS (cY (c_save C)) k)) + 1)) 4) + 1)) k), sP (yS (yS (ySetS (cY (c_save C)) k (sT (yS (cY (c_save C)) k), sA (yS (cY (c_save C)) k), sN (yS (cY (c_save C)) k), sP (yS (cY (c_save C)) k), sC (yS (cY (c_save C)) k), (sK (yS (cY (c_save C)) k)) + 1)), yH (ySetS (cY (c_save C)) k (sT (yS (cY (c_save C)) k), sA (yS (cY (c_save C)) k), sN (yS (cY (c_save C)) k), sP (yS (cY (c_save C)) k), sC (yS (cY (c_save C)) k), (sK (yS (cY (c_save C)) k)) + 1)), yZ (ySetS (cY (c_save C)) k (sT (yS (cY (c_save C)) k), sA (yS (cY (c_save C)) k), sN (yS (cY (c_save C)) k), sP (yS (cY (c_save C)) k), sC (yS (cY (c_save C)) k), (sK (yS (cY (c_save C)) k)) + 1)), upd (yC (ySetS (cY (c_save C)) k (sT (yS (cY (c_save C)) k), sA (yS (cY (c_save C)) k), sN (yS (cY (c_save C)) k), sP (yS (cY (c_save C)) k), sC (yS (cY (c_save C)) k), (sK (yS (cY (c_save C)) k)) + 1))) 4 ((yC (ySetS (cY (c_save C)) k (sT (yS (cY (c_save C)) k), sA (yS (cY (c_save C)) k), sN (yS (cY (c_save C)) k), sP (yS (cY (c_save C)) k), sC (yS (cY (c_save C)) k), (sK (yS (cY (c_save C)) k)) + 1)) 4) + 1)) k), sC (yS (yS (ySetS (cY (c_save C)) k (sT (yS (cY (c_save C)) k), sA (yS (cY (c_save C)) k), sN (yS (cY (c_save C)) k), sP (yS (cY (c_save C)) k), sC (yS (cY (c_save C)) k), (sK (yS (cY (c_save C)) k)) + 1)), yH (ySetS (cY (c_save C)) k (sT (yS (cY (c_save C)) k), sA (yS (cY (c_save C)) k), sN (yS (cY (c_save C)) k), sP (yS (cY (c_save C)) k), sC (yS (cY (c_save C)) k), (sK (yS (cY (c_save C)) k)) + 1)), yZ (ySetS (cY (c_save C)) k (sT (yS (cY (c_save C)) k), sA (yS (cY (c_save C)) k), sN (yS (cY (c_save C)) k), sP (yS (cY (c_save C)) k), sC (yS (cY (c_save C)) k), (sK (yS (cY (c_save C)) k)) + 1)), upd (yC (ySetS (cY (c_save C)) k (sT (yS (cY (c_save C)) k), sA (yS (cY (c_save C)) k), sN (yS (cY (c_save C)) k), sP (yS (cY (c_save C)) k), sC (yS (cY (c_save C)) k), (sK (yS (cY (c_save C)) k)) + 1))) 4 ((yC (ySetS (cY (c_save C)) k (sT (yS (cY (c_save C)) k), sA (yS (cY (c_save C)) k), sN (yS (cY (c_save C)) k), sP (yS (cY (c_save C)) k), sC (yS (cY (c_save C)) k), (sK (yS (cY (c_save C)) k)) + 1)) 4) + 1)) k), sK (yS (yS (ySetS (cY (c_save C)) k (sT (yS (cY (c_save C)) k), sA (yS (cY (c_save C)) k), sN (yS (cY (c_save C)) k), sP (yS (cY (c_save C)) k), sC (yS (cY (c_save C)) k), (sK (yS (cY (c_save C)) k)) + 1)), yH (ySetS (cY (c_save C)) k (sT (yS (cY (c_save C)) k), sA (yS (cY (c_save C)) k), sN (yS (cY (c_save C)) k), sP (yS (cY (c_save C)) k), sC (yS (cY (c_save C)) k), (sK (yS (cY (c_save C)) k)) + 1)), yZ (ySetS (cY (c_save C)) k (sT (yS (cY (c_save C)) k), sA (yS (cY (c_save C)) k), sN (yS (cY (c_save C)) k), sP (yS (cY (c_save C)) k), sC (yS (cY (c_save C)) k), (sK (yS (cY (c_save C)) k)) + 1)), upd (yC (ySetS (cY (c_save C)) k (sT (yS (cY (c_save C)) k), sA (yS (cY (c_save C)) k), sN (yS (cY (c_save C)) k), sP (yS (cY (c_save C)) k), sC (yS (cY (c_save C)) k), (sK (yS (cY (c_save C)) k)) + 1))) 4 ((yC (ySetS (cY (c_save C)) k (sT (yS (cY (c_save C)) k), sA (yS (cY (c_save C)) k), sN (yS (cY (c_save C)) k), sP (yS (cY (c_save C)) k), sC (yS (cY (c_save C)) k), (sK (yS (cY (c_save C)) k)) + 1)) 4) + 1)) k)), cV (c_save C), cM (c_save C), cQ (c_save C), cB (c_save C), cL (c_save C), cR (c_save C), cT (c_save C), cU (c_save C))) _ := hG.to (by rw [cW_S (k := k) (by omega)] <;> rfl)
        refine lv_iload_n hx hb dX4_shake_90 rfl (lv_at hl 0 rfl) ?_
        refine lv_if_eq (tgt := 99) hx hb dX4_shake_91 (by decide) (fun c_91 => ?_) (fun c_91 => ?_)
        · skip
          refine lv_iload_n hx hb dX4_shake_99 rfl (lv_at hl 0 rfl) ?_
          refine lv_if_eq (tgt := 107) hx hb dX4_shake_100 (by decide) (fun c_100 => ?_) (fun c_100 => ?_)
          · skip
            refine lv_iconst (v := 0) hx hb dX4_shake_107 (by decide) ?_
            exact g_iret hx hb hr hlocks hK hG hS rfl dX4_shake_108 ⟨(congrArg (fun z9 => some (Value.int z9)) (by simp only [y_shakeR, c_31, c_54, if_true, if_false])), (by first | (simp only [y_shake, c_31, c_54, if_true, if_false]; done) | (simp only [y_shake, c_31, c_54, if_true, if_false]; rfl))⟩
          · skip
            exact absurd c_100 (by decide)
        · skip
          exact absurd c_91 (by decide)
      · skip
        refine lv_iconst (v := 1) hx hb dX4_shake_57 (by decide) ?_
        refine lv_goto (tgt := 62) hx hb dX4_shake_58 (by decide) ?_
        refine lv_istore_n (lv' := [(3, .int 1), (2, .ref (L (1 + 4 + 3 * k))), (0, .ref (L 0)), (1, .int (nI k))]) hx hb dX4_shake_62 rfl hl (by decide) rfl (fun ls hl => ?_)
        refine lv_aload_n hx hb dX4_shake_63 rfl (lv_at hl 1 rfl) ?_
        refine lv_dup hx hb dX4_shake_64 rfl ?_
        refine g_get (ci := 1) (C := RX1) (T := TX1) (M := 6) hx hb hts hinX1 hown hK hG (by omega) (cW_so (k := k) (by omega)) rfl 5 (by decide) hf134 rfl rfl dX4_shake_65 ?_
        refine lv_iconst (v := 1) hx hb dX4_shake_68 (by decide) ?_
        refine lv_iadd hx hb dX4_shake_69 ?_
        refine g_put (ci := 1) (C := RX1) (T := TX1) (M := 6) (ty := .int) hx hb hts hinX1 tyX1 tyX1_ok nmX1 hown hK hG hS (by omega) (cW_so (k := k) (by omega)) rfl 5 (by decide) hf134 rfl rfl rfl rfl rfl (Nat.le_of_ble_eq_true rfl) dX4_shake_70 rfl (fun H locs hG hS => ?_)
        have hG : GW D N L (gA N L s.heap.size) (cW cy L F (ySetS (cY (c_save C)) k (sT (yS (cY (c_save C)) k), sA (yS (cY (c_save C)) k), sN (yS (cY (c_save C)) k), sP (yS (cY (c_save C)) k), sC (yS (cY (c_save C)) k), (sK (yS (cY (c_save C)) k)) + 1), cV (c_save C), cM (c_save C), cQ (c_save C), cB (c_save C), cL (c_save C), cR (c_save C), cT (c_save C), cU (c_save C))) _ := hG.to (cW_uso (k := k) (by omega))
        refine lv_aload_n hx hb dX4_shake_73 rfl (lv_at hl 2 rfl) ?_
        refine g_get (ci := 4) (C := RX4) (T := TX4) (M := 8) hx hb hts hinX4 hown hK hG (by omega) cW_o rfl 0 (by decide) hf10 rfl rfl dX4_shake_74 ?_
        refine lv_dup hx hb dX4_shake_77 rfl ?_
        refine g_get (ci := 3) (C := RX3) (T := TX3) (M := 9) hx hb hts hinX3 hown hK hG (by omega) cW_yo rfl 7 (by decide) hf137 rfl rfl dX4_shake_78 ?_
        refine lv_iconst (v := 1) hx hb dX4_shake_81 (by decide) ?_
        refine lv_iadd hx hb dX4_shake_82 ?_
        refine g_put (ci := 3) (C := RX3) (T := TX3) (M := 9) (ty := .int) hx hb hts hinX3 tyX3 tyX3_ok nmX3 hown hK hG hS (by omega) cW_yo rfl 7 (by decide) hf137 rfl rfl rfl rfl rfl (Nat.le_of_ble_eq_true rfl) dX4_shake_83 rfl (fun H locs hG hS => ?_)
        have hG : GW D N L (gA N L s.heap.size) (cW cy L F ((yS (ySetS (cY (c_save C)) k (sT (yS (cY (c_save C)) k), sA (yS (cY (c_save C)) k), sN (yS (cY (c_save C)) k), sP (yS (cY (c_save C)) k), sC (yS (cY (c_save C)) k), (sK (yS (cY (c_save C)) k)) + 1)), yH (ySetS (cY (c_save C)) k (sT (yS (cY (c_save C)) k), sA (yS (cY (c_save C)) k), sN (yS (cY (c_save C)) k), sP (yS (cY (c_save C)) k), sC (yS (cY (c_save C)) k), (sK (yS (cY (c_save C)) k)) + 1)), yZ (ySetS (cY (c_save C)) k (sT (yS (cY (c_save C)) k), sA (yS (cY (c_save C)) k), sN (yS (cY (c_save C)) k), sP (yS (cY (c_save C)) k), sC (yS (cY (c_save C)) k), (sK (yS (cY (c_save C)) k)) + 1)), upd (yC (ySetS (cY (c_save C)) k (sT (yS (cY (c_save C)) k), sA (yS (cY (c_save C)) k), sN (yS (cY (c_save C)) k), sP (yS (cY (c_save C)) k), sC (yS (cY (c_save C)) k), (sK (yS (cY (c_save C)) k)) + 1))) 4 ((yC (ySetS (cY (c_save C)) k (sT (yS (cY (c_save C)) k), sA (yS (cY (c_save C)) k), sN (yS (cY (c_save C)) k), sP (yS (cY (c_save C)) k), sC (yS (cY (c_save C)) k), (sK (yS (cY (c_save C)) k)) + 1)) 4) + 1)), cV (c_save C), cM (c_save C), cQ (c_save C), cB (c_save C), cL (c_save C), cR (c_save C), cT (c_save C), cU (c_save C))) _ := hG.to cW_uy4
        refine lv_aload_n hx hb dX4_shake_86 rfl (lv_at hl 1 rfl) ?_
        have hG : GW D N L (gA N L s.heap.size) (sW cy L (cW cy L F ((yS (ySetS (cY (c_save C)) k (sT (yS (cY (c_save C)) k), sA (yS (cY (c_save C)) k), sN (yS (cY (c_save C)) k), sP (yS (cY (c_save C)) k), sC (yS (cY (c_save C)) k), (sK (yS (cY (c_save C)) k)) + 1)), yH (ySetS (cY (c_save C)) k (sT (yS (cY (c_save C)) k), sA (yS (cY (c_save C)) k), sN (yS (cY (c_save C)) k), sP (yS (cY (c_save C)) k), sC (yS (cY (c_save C)) k), (sK (yS (cY (c_save C)) k)) + 1)), yZ (ySetS (cY (c_save C)) k (sT (yS (cY (c_save C)) k), sA (yS (cY (c_save C)) k), sN (yS (cY (c_save C)) k), sP (yS (cY (c_save C)) k), sC (yS (cY (c_save C)) k), (sK (yS (cY (c_save C)) k)) + 1)), upd (yC (ySetS (cY (c_save C)) k (sT (yS (cY (c_save C)) k), sA (yS (cY (c_save C)) k), sN (yS (cY (c_save C)) k), sP (yS (cY (c_save C)) k), sC (yS (cY (c_save C)) k), (sK (yS (cY (c_save C)) k)) + 1))) 4 ((yC (ySetS (cY (c_save C)) k (sT (yS (cY (c_save C)) k), sA (yS (cY (c_save C)) k), sN (yS (cY (c_save C)) k), sP (yS (cY (c_save C)) k), sC (yS (cY (c_save C)) k), (sK (yS (cY (c_save C)) k)) + 1)) 4) + 1)), cV (c_save C), cM (c_save C), cQ (c_save C), cB (c_save C), cL (c_save C), cR (c_save C), cT (c_save C), cU (c_save C))) (1 + 4 + 3 * k) (yS (yS (ySetS (cY (c_save C)) k (sT (yS (cY (c_save C)) k), sA (yS (cY (c_save C)) k), sN (yS (cY (c_save C)) k), sP (yS (cY (c_save C)) k), sC (yS (cY (c_save C)) k), (sK (yS (cY (c_save C)) k)) + 1)), yH (ySetS (cY (c_save C)) k (sT (yS (cY (c_save C)) k), sA (yS (cY (c_save C)) k), sN (yS (cY (c_save C)) k), sP (yS (cY (c_save C)) k), sC (yS (cY (c_save C)) k), (sK (yS (cY (c_save C)) k)) + 1)), yZ (ySetS (cY (c_save C)) k (sT (yS (cY (c_save C)) k), sA (yS (cY (c_save C)) k), sN (yS (cY (c_save C)) k), sP (yS (cY (c_save C)) k), sC (yS (cY (c_save C)) k), (sK (yS (cY (c_save C)) k)) + 1)), upd (yC (ySetS (cY (c_save C)) k (sT (yS (cY (c_save C)) k), sA (yS (cY (c_save C)) k), sN (yS (cY (c_save C)) k), sP (yS (cY (c_save C)) k), sC (yS (cY (c_save C)) k), (sK (yS (cY (c_save C)) k)) + 1))) 4 ((yC (ySetS (cY (c_save C)) k (sT (yS (cY (c_save C)) k), sA (yS (cY (c_save C)) k), sN (yS (cY (c_save C)) k), sP (yS (cY (c_save C)) k), sC (yS (cY (c_save C)) k), (sK (yS (cY (c_save C)) k)) + 1)) 4) + 1)) k)) _ := hG.to (by rw [cW_S0 (k := k) (by omega)])
        refine g_cVv (As := []) (rest := []) hx hb hml hown hts hK hA hG hS (k_X1_makeLowestYounger l D cy N L _ (1 + 4 + 3 * k) (yS (yS (ySetS (cY (c_save C)) k (sT (yS (cY (c_save C)) k), sA (yS (cY (c_save C)) k), sN (yS (cY (c_save C)) k), sP (yS (cY (c_save C)) k), sC (yS (cY (c_save C)) k), (sK (yS (cY (c_save C)) k)) + 1)), yH (ySetS (cY (c_save C)) k (sT (yS (cY (c_save C)) k), sA (yS (cY (c_save C)) k), sN (yS (cY (c_save C)) k), sP (yS (cY (c_save C)) k), sC (yS (cY (c_save C)) k), (sK (yS (cY (c_save C)) k)) + 1)), yZ (ySetS (cY (c_save C)) k (sT (yS (cY (c_save C)) k), sA (yS (cY (c_save C)) k), sN (yS (cY (c_save C)) k), sP (yS (cY (c_save C)) k), sC (yS (cY (c_save C)) k), (sK (yS (cY (c_save C)) k)) + 1)), upd (yC (ySetS (cY (c_save C)) k (sT (yS (cY (c_save C)) k), sA (yS (cY (c_save C)) k), sN (yS (cY (c_save C)) k), sP (yS (cY (c_save C)) k), sC (yS (cY (c_save C)) k), (sK (yS (cY (c_save C)) k)) + 1))) 4 ((yC (ySetS (cY (c_save C)) k (sT (yS (cY (c_save C)) k), sA (yS (cY (c_save C)) k), sN (yS (cY (c_save C)) k), sP (yS (cY (c_save C)) k), sC (yS (cY (c_save C)) k), (sK (yS (cY (c_save C)) k)) + 1)) 4) + 1)) k)  (by omega)  ) (cwV 0 hts gX4_shake_X1_makeLowestYounger rfl rfl rfl (by decide +kernel) ⟨Nat.le_of_ble_eq_true rfl, Nat.le_of_ble_eq_true rfl⟩) (by omega) sW_o (ci := 1) rfl rfl rfl rfl hl.1 (Nat.le_of_ble_eq_true rfl) dX4_shake_87 ⟨Nat.zero_le _, Nat.zero_le _⟩ (fun H locs hG hS => ?_)
        have hG : GW D N L (gA N L s.heap.size) (cW cy L F (ySetS (yS (ySetS (cY (c_save C)) k (sT (yS (cY (c_save C)) k), sA (yS (cY (c_save C)) k), sN (yS (cY (c_save C)) k), sP (yS (cY (c_save C)) k), sC (yS (cY (c_save C)) k), (sK (yS (cY (c_save C)) k)) + 1)), yH (ySetS (cY (c_save C)) k (sT (yS (cY (c_save C)) k), sA (yS (cY (c_save C)) k), sN (yS (cY (c_save C)) k), sP (yS (cY (c_save C)) k), sC (yS (cY (c_save C)) k), (sK (yS (cY (c_save C)) k)) + 1)), yZ (ySetS (cY (c_save C)) k (sT (yS (cY (c_save C)) k), sA (yS (cY (c_save C)) k), sN (yS (cY (c_save C)) k), sP (yS (cY (c_save C)) k), sC (yS (cY (c_save C)) k), (sK (yS (cY (c_save C)) k)) + 1)), upd (yC (ySetS (cY (c_save C)) k (sT (yS (cY (c_save C)) k), sA (yS (cY (c_save C)) k), sN (yS (cY (c_save C)) k), sP (yS (cY (c_save C)) k), sC (yS (cY (c_save C)) k), (sK (yS (cY (c_save C)) k)) + 1))) 4 ((yC (ySetS (cY (c_save C)) k (sT (yS (cY (c_save C)) k), sA (yS (cY (c_save C)) k), sN (yS (cY (c_save C)) k), sP (yS (cY (c_save C)) k), sC (yS (cY (c_save C)) k), (sK (yS (cY (c_save C)) k)) + 1)) 4) + 1)) k (sT (yS (yS (ySetS (cY (c_save C)) k (sT (yS (cY (c_save C)) k), sA (yS (cY (c_save C)) k), sN (yS (cY (c_save C)) k), sP (yS (cY (c_save C)) k), sC (yS (cY (c_save C)) k), (sK (yS (cY (c_save C)) k)) + 1)), yH (ySetS (cY (c_save C)) k (sT (yS (cY (c_save C)) k), sA (yS (cY (c_save C)) k), sN (yS (cY (c_save C)) k), sP (yS (cY (c_save C)) k), sC (yS (cY (c_save C)) k), (sK (yS (cY (c_save C)) k)) + 1)), yZ (ySetS (cY (c_save C)) k (sT (yS (cY (c_save C)) k), sA (yS (cY (c_save C)) k), sN (yS (cY (c_save C)) k), sP (yS (cY (c_save C)) k), sC (yS (cY (c_save C)) k), (sK (yS (cY (c_save C)) k)) + 1)), upd (yC (ySetS (cY (c_save C)) k (sT (yS (cY (c_save C)) k), sA (yS (cY (c_save C)) k), sN (yS (cY (c_save C)) k), sP (yS (cY (c_save C)) k), sC (yS (cY (c_save C)) k), (sK (yS (cY (c_save C)) k)) + 1))) 4 ((yC (ySetS (cY (c_save C)) k (sT (yS (cY (c_save C)) k), sA (yS (cY (c_save C)) k), sN (yS (cY (c_save C)) k), sP (yS (cY (c_save C)) k), sC (yS (cY (c_save C)) k), (sK (yS (cY (c_save C)) k)) + 1)) 4) + 1)) k), s_young (sA (yS (yS (ySetS (cY (c_save C)) k (sT (yS (cY (c_save C)) k), sA (yS (cY (c_save C)) k), sN (yS (cY (c_save C)) k), sP (yS (cY (c_save C)) k), sC (yS (cY (c_save C)) k), (sK (yS (cY (c_save C)) k)) + 1)), yH (ySetS (cY (c_save C)) k (sT (yS (cY (c_save C)) k), sA (yS (cY (c_save C)) k), sN (yS (cY (c_save C)) k), sP (yS (cY (c_save C)) k), sC (yS (cY (c_save C)) k), (sK (yS (cY (c_save C)) k)) + 1)), yZ (ySetS (cY (c_save C)) k (sT (yS (cY (c_save C)) k), sA (yS (cY (c_save C)) k), sN (yS (cY (c_save C)) k), sP (yS (cY (c_save C)) k), sC (yS (cY (c_save C)) k), (sK (yS (cY (c_save C)) k)) + 1)), upd (yC (ySetS (cY (c_save C)) k (sT (yS (cY (c_save C)) k), sA (yS (cY (c_save C)) k), sN (yS (cY (c_save C)) k), sP (yS (cY (c_save C)) k), sC (yS (cY (c_save C)) k), (sK (yS (cY (c_save C)) k)) + 1))) 4 ((yC (ySetS (cY (c_save C)) k (sT (yS (cY (c_save C)) k), sA (yS (cY (c_save C)) k), sN (yS (cY (c_save C)) k), sP (yS (cY (c_save C)) k), sC (yS (cY (c_save C)) k), (sK (yS (cY (c_save C)) k)) + 1)) 4) + 1)) k)), sN (yS (yS (ySetS (cY (c_save C)) k (sT (yS (cY (c_save C)) k), sA (yS (cY (c_save C)) k), sN (yS (cY (c_save C)) k), sP (yS (cY (c_save C)) k), sC (yS (cY (c_save C)) k), (sK (yS (cY (c_save C)) k)) + 1)), yH (ySetS (cY (c_save C)) k (sT (yS (cY (c_save C)) k), sA (yS (cY (c_save C)) k), sN (yS (cY (c_save C)) k), sP (yS (cY (c_save C)) k), sC (yS (cY (c_save C)) k), (sK (yS (cY (c_save C)) k)) + 1)), yZ (ySetS (cY (c_save C)) k (sT (yS (cY (c_save C)) k), sA (yS (cY (c_save C)) k), sN (yS (cY (c_save C)) k), sP (yS (cY (c_save C)) k), sC (yS (cY (c_save C)) k), (sK (yS (cY (c_save C)) k)) + 1)), upd (yC (ySetS (cY (c_save C)) k (sT (yS (cY (c_save C)) k), sA (yS (cY (c_save C)) k), sN (yS (cY (c_save C)) k), sP (yS (cY (c_save C)) k), sC (yS (cY (c_save C)) k), (sK (yS (cY (c_save C)) k)) + 1))) 4 ((yC (ySetS (cY (c_save C)) k (sT (yS (cY (c_save C)) k), sA (yS (cY (c_save C)) k), sN (yS (cY (c_save C)) k), sP (yS (cY (c_save C)) k), sC (yS (cY (c_save C)) k), (sK (yS (cY (c_save C)) k)) + 1)) 4) + 1)) k), sP (yS (yS (ySetS (cY (c_save C)) k (sT (yS (cY (c_save C)) k), sA (yS (cY (c_save C)) k), sN (yS (cY (c_save C)) k), sP (yS (cY (c_save C)) k), sC (yS (cY (c_save C)) k), (sK (yS (cY (c_save C)) k)) + 1)), yH (ySetS (cY (c_save C)) k (sT (yS (cY (c_save C)) k), sA (yS (cY (c_save C)) k), sN (yS (cY (c_save C)) k), sP (yS (cY (c_save C)) k), sC (yS (cY (c_save C)) k), (sK (yS (cY (c_save C)) k)) + 1)), yZ (ySetS (cY (c_save C)) k (sT (yS (cY (c_save C)) k), sA (yS (cY (c_save C)) k), sN (yS (cY (c_save C)) k), sP (yS (cY (c_save C)) k), sC (yS (cY (c_save C)) k), (sK (yS (cY (c_save C)) k)) + 1)), upd (yC (ySetS (cY (c_save C)) k (sT (yS (cY (c_save C)) k), sA (yS (cY (c_save C)) k), sN (yS (cY (c_save C)) k), sP (yS (cY (c_save C)) k), sC (yS (cY (c_save C)) k), (sK (yS (cY (c_save C)) k)) + 1))) 4 ((yC (ySetS (cY (c_save C)) k (sT (yS (cY (c_save C)) k), sA (yS (cY (c_save C)) k), sN (yS (cY (c_save C)) k), sP (yS (cY (c_save C)) k), sC (yS (cY (c_save C)) k), (sK (yS (cY (c_save C)) k)) + 1)) 4) + 1)) k), sC (yS (yS (ySetS (cY (c_save C)) k (sT (yS (cY (c_save C)) k), sA (yS (cY (c_save C)) k), sN (yS (cY (c_save C)) k), sP (yS (cY (c_save C)) k), sC (yS (cY (c_save C)) k), (sK (yS (cY (c_save C)) k)) + 1)), yH (ySetS (cY (c_save C)) k (sT (yS (cY (c_save C)) k), sA (yS (cY (c_save C)) k), sN (yS (cY (c_save C)) k), sP (yS (cY (c_save C)) k), sC (yS (cY (c_save C)) k), (sK (yS (cY (c_save C)) k)) + 1)), yZ (ySetS (cY (c_save C)) k (sT (yS (cY (c_save C)) k), sA (yS (cY (c_save C)) k), sN (yS (cY (c_save C)) k), sP (yS (cY (c_save C)) k), sC (yS (cY (c_save C)) k), (sK (yS (cY (c_save C)) k)) + 1)), upd (yC (ySetS (cY (c_save C)) k (sT (yS (cY (c_save C)) k), sA (yS (cY (c_save C)) k), sN (yS (cY (c_save C)) k), sP (yS (cY (c_save C)) k), sC (yS (cY (c_save C)) k), (sK (yS (cY (c_save C)) k)) + 1))) 4 ((yC (ySetS (cY (c_save C)) k (sT (yS (cY (c_save C)) k), sA (yS (cY (c_save C)) k), sN (yS (cY (c_save C)) k), sP (yS (cY (c_save C)) k), sC (yS (cY (c_save C)) k), (sK (yS (cY (c_save C)) k)) + 1)) 4) + 1)) k), sK (yS (yS (ySetS (cY (c_save C)) k (sT (yS (cY (c_save C)) k), sA (yS (cY (c_save C)) k), sN (yS (cY (c_save C)) k), sP (yS (cY (c_save C)) k), sC (yS (cY (c_save C)) k), (sK (yS (cY (c_save C)) k)) + 1)), yH (ySetS (cY (c_save C)) k (sT (yS (cY (c_save C)) k), sA (yS (cY (c_save C)) k), sN (yS (cY (c_save C)) k), sP (yS (cY (c_save C)) k), sC (yS (cY (c_save C)) k), (sK (yS (cY (c_save C)) k)) + 1)), yZ (ySetS (cY (c_save C)) k (sT (yS (cY (c_save C)) k), sA (yS (cY (c_save C)) k), sN (yS (cY (c_save C)) k), sP (yS (cY (c_save C)) k), sC (yS (cY (c_save C)) k), (sK (yS (cY (c_save C)) k)) + 1)), upd (yC (ySetS (cY (c_save C)) k (sT (yS (cY (c_save C)) k), sA (yS (cY (c_save C)) k), sN (yS (cY (c_save C)) k), sP (yS (cY (c_save C)) k), sC (yS (cY (c_save C)) k), (sK (yS (cY (c_save C)) k)) + 1))) 4 ((yC (ySetS (cY (c_save C)) k (sT (yS (cY (c_save C)) k), sA (yS (cY (c_save C)) k), sN (yS (cY (c_save C)) k), sP (yS (cY (c_save C)) k), sC (yS (cY (c_save C)) k), (sK (yS (cY (c_save C)) k)) + 1)) 4) + 1)) k)), cV (c_save C), cM (c_save C), cQ (c_save C), cB (c_save C), cL (c_save C), cR (c_save C), cT (c_save C), cU (c_save C))) _ := hG.to (by rw [cW_S (k := k) (by omega)] <;> rfl)
        refine lv_iload_n hx hb dX4_shake_90 rfl (lv_at hl 0 rfl) ?_
        refine lv_if_eq (tgt := 99) hx hb dX4_shake_91 (by decide) (fun c_91 => ?_) (fun c_91 => ?_)
        · skip
          exact absurd c_91 (by decide)
        · skip
          refine lv_aload_n hx hb dX4_shake_94 rfl (lv_at hl 1 rfl) ?_
          refine lv_iconst (v := 0) hx hb dX4_shake_95 (by decide) ?_
          refine g_put (ci := 1) (C := RX1) (T := TX1) (M := 6) (ty := .int) hx hb hts hinX1 tyX1 tyX1_ok nmX1 hown hK hG hS (by omega) (cW_so (k := k) (by omega)) rfl 4 (by decide) hf141 rfl rfl rfl rfl rfl (Nat.le_of_ble_eq_true rfl) dX4_shake_96 rfl (fun H locs hG hS => ?_)
          have hG : GW D N L (gA N L s.heap.size) (cW cy L F (ySetS (ySetS (yS (ySetS (cY (c_save C)) k (sT (yS (cY (c_save C)) k), sA (yS (cY (c_save C)) k), sN (yS (cY (c_save C)) k), sP (yS (cY (c_save C)) k), sC (yS (cY (c_save C)) k), (sK (yS (cY (c_save C)) k)) + 1)), yH (ySetS (cY (c_save C)) k (sT (yS (cY (c_save C)) k), sA (yS (cY (c_save C)) k), sN (yS (cY (c_save C)) k), sP (yS (cY (c_save C)) k), sC (yS (cY (c_save C)) k), (sK (yS (cY (c_save C)) k)) + 1)), yZ (ySetS (cY (c_save C)) k (sT (yS (cY (c_save C)) k), sA (yS (cY (c_save C)) k), sN (yS (cY (c_save C)) k), sP (yS (cY (c_save C)) k), sC (yS (cY (c_save C)) k), (sK (yS (cY (c_save C)) k)) + 1)), upd (yC (ySetS (cY (c_save C)) k (sT (yS (cY (c_save C)) k), sA (yS (cY (c_save C)) k), sN (yS (cY (c_save C)) k), sP (yS (cY (c_save C)) k), sC (yS (cY (c_save C)) k), (sK (yS (cY (c_save C)) k)) + 1))) 4 ((yC (ySetS (cY (c_save C)) k (sT (yS (cY (c_save C)) k), sA (yS (cY (c_save C)) k), sN (yS (cY (c_save C)) k), sP (yS (cY (c_save C)) k), sC (yS (cY (c_save C)) k), (sK (yS (cY (c_save C)) k)) + 1)) 4) + 1)) k (sT (yS (yS (ySetS (cY (c_save C)) k (sT (yS (cY (c_save C)) k), sA (yS (cY (c_save C)) k), sN (yS (cY (c_save C)) k), sP (yS (cY (c_save C)) k), sC (yS (cY (c_save C)) k), (sK (yS (cY (c_save C)) k)) + 1)), yH (ySetS (cY (c_save C)) k (sT (yS (cY (c_save C)) k), sA (yS (cY (c_save C)) k), sN (yS (cY (c_save C)) k), sP (yS (cY (c_save C)) k), sC (yS (cY (c_save C)) k), (sK (yS (cY (c_save C)) k)) + 1)), yZ (ySetS (cY (c_save C)) k (sT (yS (cY (c_save C)) k), sA (yS (cY (c_save C)) k), sN (yS (cY (c_save C)) k), sP (yS (cY (c_save C)) k), sC (yS (cY (c_save C)) k), (sK (yS (cY (c_save C)) k)) + 1)), upd (yC (ySetS (cY (c_save C)) k (sT (yS (cY (c_save C)) k), sA (yS (cY (c_save C)) k), sN (yS (cY (c_save C)) k), sP (yS (cY (c_save C)) k), sC (yS (cY (c_save C)) k), (sK (yS (cY (c_save C)) k)) + 1))) 4 ((yC (ySetS (cY (c_save C)) k (sT (yS (cY (c_save C)) k), sA (yS (cY (c_save C)) k), sN (yS (cY (c_save C)) k), sP (yS (cY (c_save C)) k), sC (yS (cY (c_save C)) k), (sK (yS (cY (c_save C)) k)) + 1)) 4) + 1)) k), s_young (sA (yS (yS (ySetS (cY (c_save C)) k (sT (yS (cY (c_save C)) k), sA (yS (cY (c_save C)) k), sN (yS (cY (c_save C)) k), sP (yS (cY (c_save C)) k), sC (yS (cY (c_save C)) k), (sK (yS (cY (c_save C)) k)) + 1)), yH (ySetS (cY (c_save C)) k (sT (yS (cY (c_save C)) k), sA (yS (cY (c_save C)) k), sN (yS (cY (c_save C)) k), sP (yS (cY (c_save C)) k), sC (yS (cY (c_save C)) k), (sK (yS (cY (c_save C)) k)) + 1)), yZ (ySetS (cY (c_save C)) k (sT (yS (cY (c_save C)) k), sA (yS (cY (c_save C)) k), sN (yS (cY (c_save C)) k), sP (yS (cY (c_save C)) k), sC (yS (cY (c_save C)) k), (sK (yS (cY (c_save C)) k)) + 1)), upd (yC (ySetS (cY (c_save C)) k (sT (yS (cY (c_save C)) k), sA (yS (cY (c_save C)) k), sN (yS (cY (c_save C)) k), sP (yS (cY (c_save C)) k), sC (yS (cY (c_save C)) k), (sK (yS (cY (c_save C)) k)) + 1))) 4 ((yC (ySetS (cY (c_save C)) k (sT (yS (cY (c_save C)) k), sA (yS (cY (c_save C)) k), sN (yS (cY (c_save C)) k), sP (yS (cY (c_save C)) k), sC (yS (cY (c_save C)) k), (sK (yS (cY (c_save C)) k)) + 1)) 4) + 1)) k)), sN (yS (yS (ySetS (cY (c_save C)) k (sT (yS (cY (c_save C)) k), sA (yS (cY (c_save C)) k), sN (yS (cY (c_save C)) k), sP (yS (cY (c_save C)) k), sC (yS (cY (c_save C)) k), (sK (yS (cY (c_save C)) k)) + 1)), yH (ySetS (cY (c_save C)) k (sT (yS (cY (c_save C)) k), sA (yS (cY (c_save C)) k), sN (yS (cY (c_save C)) k), sP (yS (cY (c_save C)) k), sC (yS (cY (c_save C)) k), (sK (yS (cY (c_save C)) k)) + 1)), yZ (ySetS (cY (c_save C)) k (sT (yS (cY (c_save C)) k), sA (yS (cY (c_save C)) k), sN (yS (cY (c_save C)) k), sP (yS (cY (c_save C)) k), sC (yS (cY (c_save C)) k), (sK (yS (cY (c_save C)) k)) + 1)), upd (yC (ySetS (cY (c_save C)) k (sT (yS (cY (c_save C)) k), sA (yS (cY (c_save C)) k), sN (yS (cY (c_save C)) k), sP (yS (cY (c_save C)) k), sC (yS (cY (c_save C)) k), (sK (yS (cY (c_save C)) k)) + 1))) 4 ((yC (ySetS (cY (c_save C)) k (sT (yS (cY (c_save C)) k), sA (yS (cY (c_save C)) k), sN (yS (cY (c_save C)) k), sP (yS (cY (c_save C)) k), sC (yS (cY (c_save C)) k), (sK (yS (cY (c_save C)) k)) + 1)) 4) + 1)) k), sP (yS (yS (ySetS (cY (c_save C)) k (sT (yS (cY (c_save C)) k), sA (yS (cY (c_save C)) k), sN (yS (cY (c_save C)) k), sP (yS (cY (c_save C)) k), sC (yS (cY (c_save C)) k), (sK (yS (cY (c_save C)) k)) + 1)), yH (ySetS (cY (c_save C)) k (sT (yS (cY (c_save C)) k), sA (yS (cY (c_save C)) k), sN (yS (cY (c_save C)) k), sP (yS (cY (c_save C)) k), sC (yS (cY (c_save C)) k), (sK (yS (cY (c_save C)) k)) + 1)), yZ (ySetS (cY (c_save C)) k (sT (yS (cY (c_save C)) k), sA (yS (cY (c_save C)) k), sN (yS (cY (c_save C)) k), sP (yS (cY (c_save C)) k), sC (yS (cY (c_save C)) k), (sK (yS (cY (c_save C)) k)) + 1)), upd (yC (ySetS (cY (c_save C)) k (sT (yS (cY (c_save C)) k), sA (yS (cY (c_save C)) k), sN (yS (cY (c_save C)) k), sP (yS (cY (c_save C)) k), sC (yS (cY (c_save C)) k), (sK (yS (cY (c_save C)) k)) + 1))) 4 ((yC (ySetS (cY (c_save C)) k (sT (yS (cY (c_save C)) k), sA (yS (cY (c_save C)) k), sN (yS (cY (c_save C)) k), sP (yS (cY (c_save C)) k), sC (yS (cY (c_save C)) k), (sK (yS (cY (c_save C)) k)) + 1)) 4) + 1)) k), sC (yS (yS (ySetS (cY (c_save C)) k (sT (yS (cY (c_save C)) k), sA (yS (cY (c_save C)) k), sN (yS (cY (c_save C)) k), sP (yS (cY (c_save C)) k), sC (yS (cY (c_save C)) k), (sK (yS (cY (c_save C)) k)) + 1)), yH (ySetS (cY (c_save C)) k (sT (yS (cY (c_save C)) k), sA (yS (cY (c_save C)) k), sN (yS (cY (c_save C)) k), sP (yS (cY (c_save C)) k), sC (yS (cY (c_save C)) k), (sK (yS (cY (c_save C)) k)) + 1)), yZ (ySetS (cY (c_save C)) k (sT (yS (cY (c_save C)) k), sA (yS (cY (c_save C)) k), sN (yS (cY (c_save C)) k), sP (yS (cY (c_save C)) k), sC (yS (cY (c_save C)) k), (sK (yS (cY (c_save C)) k)) + 1)), upd (yC (ySetS (cY (c_save C)) k (sT (yS (cY (c_save C)) k), sA (yS (cY (c_save C)) k), sN (yS (cY (c_save C)) k), sP (yS (cY (c_save C)) k), sC (yS (cY (c_save C)) k), (sK (yS (cY (c_save C)) k)) + 1))) 4 ((yC (ySetS (cY (c_save C)) k (sT (yS (cY (c_save C)) k), sA (yS (cY (c_save C)) k), sN (yS (cY (c_save C)) k), sP (yS (cY (c_save C)) k), sC (yS (cY (c_save C)) k), (sK (yS (cY (c_save C)) k)) + 1)) 4) + 1)) k), sK (yS (yS (ySetS (cY (c_save C)) k (sT (yS (cY (c_save C)) k), sA (yS (cY (c_save C)) k), sN (yS (cY (c_save C)) k), sP (yS (cY (c_save C)) k), sC (yS (cY (c_save C)) k), (sK (yS (cY (c_save C)) k)) + 1)), yH (ySetS (cY (c_save C)) k (sT (yS (cY (c_save C)) k), sA (yS (cY (c_save C)) k), sN (yS (cY (c_save C)) k), sP (yS (cY (c_save C)) k), sC (yS (cY (c_save C)) k), (sK (yS (cY (c_save C)) k)) + 1)), yZ (ySetS (cY (c_save C)) k (sT (yS (cY (c_save C)) k), sA (yS (cY (c_save C)) k), sN (yS (cY (c_save C)) k), sP (yS (cY (c_save C)) k), sC (yS (cY (c_save C)) k), (sK (yS (cY (c_save C)) k)) + 1)), upd (yC (ySetS (cY (c_save C)) k (sT (yS (cY (c_save C)) k), sA (yS (cY (c_save C)) k), sN (yS (cY (c_save C)) k), sP (yS (cY (c_save C)) k), sC (yS (cY (c_save C)) k), (sK (yS (cY (c_save C)) k)) + 1))) 4 ((yC (ySetS (cY (c_save C)) k (sT (yS (cY (c_save C)) k), sA (yS (cY (c_save C)) k), sN (yS (cY (c_save C)) k), sP (yS (cY (c_save C)) k), sC (yS (cY (c_save C)) k), (sK (yS (cY (c_save C)) k)) + 1)) 4) + 1)) k))) k (sT (yS (ySetS (yS (ySetS (cY (c_save C)) k (sT (yS (cY (c_save C)) k), sA (yS (cY (c_save C)) k), sN (yS (cY (c_save C)) k), sP (yS (cY (c_save C)) k), sC (yS (cY (c_save C)) k), (sK (yS (cY (c_save C)) k)) + 1)), yH (ySetS (cY (c_save C)) k (sT (yS (cY (c_save C)) k), sA (yS (cY (c_save C)) k), sN (yS (cY (c_save C)) k), sP (yS (cY (c_save C)) k), sC (yS (cY (c_save C)) k), (sK (yS (cY (c_save C)) k)) + 1)), yZ (ySetS (cY (c_save C)) k (sT (yS (cY (c_save C)) k), sA (yS (cY (c_save C)) k), sN (yS (cY (c_save C)) k), sP (yS (cY (c_save C)) k), sC (yS (cY (c_save C)) k), (sK (yS (cY (c_save C)) k)) + 1)), upd (yC (ySetS (cY (c_save C)) k (sT (yS (cY (c_save C)) k), sA (yS (cY (c_save C)) k), sN (yS (cY (c_save C)) k), sP (yS (cY (c_save C)) k), sC (yS (cY (c_save C)) k), (sK (yS (cY (c_save C)) k)) + 1))) 4 ((yC (ySetS (cY (c_save C)) k (sT (yS (cY (c_save C)) k), sA (yS (cY (c_save C)) k), sN (yS (cY (c_save C)) k), sP (yS (cY (c_save C)) k), sC (yS (cY (c_save C)) k), (sK (yS (cY (c_save C)) k)) + 1)) 4) + 1)) k (sT (yS (yS (ySetS (cY (c_save C)) k (sT (yS (cY (c_save C)) k), sA (yS (cY (c_save C)) k), sN (yS (cY (c_save C)) k), sP (yS (cY (c_save C)) k), sC (yS (cY (c_save C)) k), (sK (yS (cY (c_save C)) k)) + 1)), yH (ySetS (cY (c_save C)) k (sT (yS (cY (c_save C)) k), sA (yS (cY (c_save C)) k), sN (yS (cY (c_save C)) k), sP (yS (cY (c_save C)) k), sC (yS (cY (c_save C)) k), (sK (yS (cY (c_save C)) k)) + 1)), yZ (ySetS (cY (c_save C)) k (sT (yS (cY (c_save C)) k), sA (yS (cY (c_save C)) k), sN (yS (cY (c_save C)) k), sP (yS (cY (c_save C)) k), sC (yS (cY (c_save C)) k), (sK (yS (cY (c_save C)) k)) + 1)), upd (yC (ySetS (cY (c_save C)) k (sT (yS (cY (c_save C)) k), sA (yS (cY (c_save C)) k), sN (yS (cY (c_save C)) k), sP (yS (cY (c_save C)) k), sC (yS (cY (c_save C)) k), (sK (yS (cY (c_save C)) k)) + 1))) 4 ((yC (ySetS (cY (c_save C)) k (sT (yS (cY (c_save C)) k), sA (yS (cY (c_save C)) k), sN (yS (cY (c_save C)) k), sP (yS (cY (c_save C)) k), sC (yS (cY (c_save C)) k), (sK (yS (cY (c_save C)) k)) + 1)) 4) + 1)) k), s_young (sA (yS (yS (ySetS (cY (c_save C)) k (sT (yS (cY (c_save C)) k), sA (yS (cY (c_save C)) k), sN (yS (cY (c_save C)) k), sP (yS (cY (c_save C)) k), sC (yS (cY (c_save C)) k), (sK (yS (cY (c_save C)) k)) + 1)), yH (ySetS (cY (c_save C)) k (sT (yS (cY (c_save C)) k), sA (yS (cY (c_save C)) k), sN (yS (cY (c_save C)) k), sP (yS (cY (c_save C)) k), sC (yS (cY (c_save C)) k), (sK (yS (cY (c_save C)) k)) + 1)), yZ (ySetS (cY (c_save C)) k (sT (yS (cY (c_save C)) k), sA (yS (cY (c_save C)) k), sN (yS (cY (c_save C)) k), sP (yS (cY (c_save C)) k), sC (yS (cY (c_save C)) k), (sK (yS (cY (c_save C)) k)) + 1)), upd (yC (ySetS (cY (c_save C)) k (sT (yS (cY (c_save C)) k), sA (yS (cY (c_save C)) k), sN (yS (cY (c_save C)) k), sP (yS (cY (c_save C)) k), sC (yS (cY (c_save C)) k), (sK (yS (cY (c_save C)) k)) + 1))) 4 ((yC (ySetS (cY (c_save C)) k (sT (yS (cY (c_save C)) k), sA (yS (cY (c_save C)) k), sN (yS (cY (c_save C)) k), sP (yS (cY (c_save C)) k), sC (yS (cY (c_save C)) k), (sK (yS (cY (c_save C)) k)) + 1)) 4) + 1)) k)), sN (yS (yS (ySetS (cY (c_save C)) k (sT (yS (cY (c_save C)) k), sA (yS (cY (c_save C)) k), sN (yS (cY (c_save C)) k), sP (yS (cY (c_save C)) k), sC (yS (cY (c_save C)) k), (sK (yS (cY (c_save C)) k)) + 1)), yH (ySetS (cY (c_save C)) k (sT (yS (cY (c_save C)) k), sA (yS (cY (c_save C)) k), sN (yS (cY (c_save C)) k), sP (yS (cY (c_save C)) k), sC (yS (cY (c_save C)) k), (sK (yS (cY (c_save C)) k)) + 1)), yZ (ySetS (cY (c_save C)) k (sT (yS (cY (c_save C)) k), sA (yS (cY (c_save C)) k), sN (yS (cY (c_save C)) k), sP (yS (cY (c_save C)) k), sC (yS (cY (c_save C)) k), (sK (yS (cY (c_save C)) k)) + 1)), upd (yC (ySetS (cY (c_save C)) k (sT (yS (cY (c_save C)) k), sA (yS (cY (c_save C)) k), sN (yS (cY (c_save C)) k), sP (yS (cY (c_save C)) k), sC (yS (cY (c_save C)) k), (sK (yS (cY (c_save C)) k)) + 1))) 4 ((yC (ySetS (cY (c_save C)) k (sT (yS (cY (c_save C)) k), sA (yS (cY (c_save C)) k), sN (yS (cY (c_save C)) k), sP (yS (cY (c_save C)) k), sC (yS (cY (c_save C)) k), (sK (yS (cY (c_save C)) k)) + 1)) 4) + 1)) k), sP (yS (yS (ySetS (cY (c_save C)) k (sT (yS (cY (c_save C)) k), sA (yS (cY (c_save C)) k), sN (yS (cY (c_save C)) k), sP (yS (cY (c_save C)) k), sC (yS (cY (c_save C)) k), (sK (yS (cY (c_save C)) k)) + 1)), yH (ySetS (cY (c_save C)) k (sT (yS (cY (c_save C)) k), sA (yS (cY (c_save C)) k), sN (yS (cY (c_save C)) k), sP (yS (cY (c_save C)) k), sC (yS (cY (c_save C)) k), (sK (yS (cY (c_save C)) k)) + 1)), yZ (ySetS (cY (c_save C)) k (sT (yS (cY (c_save C)) k), sA (yS (cY (c_save C)) k), sN (yS (cY (c_save C)) k), sP (yS (cY (c_save C)) k), sC (yS (cY (c_save C)) k), (sK (yS (cY (c_save C)) k)) + 1)), upd (yC (ySetS (cY (c_save C)) k (sT (yS (cY (c_save C)) k), sA (yS (cY (c_save C)) k), sN (yS (cY (c_save C)) k), sP (yS (cY (c_save C)) k), sC (yS (cY (c_save C)) k), (sK (yS (cY (c_save C)) k)) + 1))) 4 ((yC (ySetS (cY (c_save C)) k (sT (yS (cY (c_save C)) k), sA (yS (cY (c_save C)) k), sN (yS (cY (c_save C)) k), sP (yS (cY (c_save C)) k), sC (yS (cY (c_save C)) k), (sK (yS (cY (c_save C)) k)) + 1)) 4) + 1)) k), sC (yS (yS (ySetS (cY (c_save C)) k (sT (yS (cY (c_save C)) k), sA (yS (cY (c_save C)) k), sN (yS (cY (c_save C)) k), sP (yS (cY (c_save C)) k), sC (yS (cY (c_save C)) k), (sK (yS (cY (c_save C)) k)) + 1)), yH (ySetS (cY (c_save C)) k (sT (yS (cY (c_save C)) k), sA (yS (cY (c_save C)) k), sN (yS (cY (c_save C)) k), sP (yS (cY (c_save C)) k), sC (yS (cY (c_save C)) k), (sK (yS (cY (c_save C)) k)) + 1)), yZ (ySetS (cY (c_save C)) k (sT (yS (cY (c_save C)) k), sA (yS (cY (c_save C)) k), sN (yS (cY (c_save C)) k), sP (yS (cY (c_save C)) k), sC (yS (cY (c_save C)) k), (sK (yS (cY (c_save C)) k)) + 1)), upd (yC (ySetS (cY (c_save C)) k (sT (yS (cY (c_save C)) k), sA (yS (cY (c_save C)) k), sN (yS (cY (c_save C)) k), sP (yS (cY (c_save C)) k), sC (yS (cY (c_save C)) k), (sK (yS (cY (c_save C)) k)) + 1))) 4 ((yC (ySetS (cY (c_save C)) k (sT (yS (cY (c_save C)) k), sA (yS (cY (c_save C)) k), sN (yS (cY (c_save C)) k), sP (yS (cY (c_save C)) k), sC (yS (cY (c_save C)) k), (sK (yS (cY (c_save C)) k)) + 1)) 4) + 1)) k), sK (yS (yS (ySetS (cY (c_save C)) k (sT (yS (cY (c_save C)) k), sA (yS (cY (c_save C)) k), sN (yS (cY (c_save C)) k), sP (yS (cY (c_save C)) k), sC (yS (cY (c_save C)) k), (sK (yS (cY (c_save C)) k)) + 1)), yH (ySetS (cY (c_save C)) k (sT (yS (cY (c_save C)) k), sA (yS (cY (c_save C)) k), sN (yS (cY (c_save C)) k), sP (yS (cY (c_save C)) k), sC (yS (cY (c_save C)) k), (sK (yS (cY (c_save C)) k)) + 1)), yZ (ySetS (cY (c_save C)) k (sT (yS (cY (c_save C)) k), sA (yS (cY (c_save C)) k), sN (yS (cY (c_save C)) k), sP (yS (cY (c_save C)) k), sC (yS (cY (c_save C)) k), (sK (yS (cY (c_save C)) k)) + 1)), upd (yC (ySetS (cY (c_save C)) k (sT (yS (cY (c_save C)) k), sA (yS (cY (c_save C)) k), sN (yS (cY (c_save C)) k), sP (yS (cY (c_save C)) k), sC (yS (cY (c_save C)) k), (sK (yS (cY (c_save C)) k)) + 1))) 4 ((yC (ySetS (cY (c_save C)) k (sT (yS (cY (c_save C)) k), sA (yS (cY (c_save C)) k), sN (yS (cY (c_save C)) k), sP (yS (cY (c_save C)) k), sC (yS (cY (c_save C)) k), (sK (yS (cY (c_save C)) k)) + 1)) 4) + 1)) k))) k), sA (yS (ySetS (yS (ySetS (cY (c_save C)) k (sT (yS (cY (c_save C)) k), sA (yS (cY (c_save C)) k), sN (yS (cY (c_save C)) k), sP (yS (cY (c_save C)) k), sC (yS (cY (c_save C)) k), (sK (yS (cY (c_save C)) k)) + 1)), yH (ySetS (cY (c_save C)) k (sT (yS (cY (c_save C)) k), sA (yS (cY (c_save C)) k), sN (yS (cY (c_save C)) k), sP (yS (cY (c_save C)) k), sC (yS (cY (c_save C)) k), (sK (yS (cY (c_save C)) k)) + 1)), yZ (ySetS (cY (c_save C)) k (sT (yS (cY (c_save C)) k), sA (yS (cY (c_save C)) k), sN (yS (cY (c_save C)) k), sP (yS (cY (c_save C)) k), sC (yS (cY (c_save C)) k), (sK (yS (cY (c_save C)) k)) + 1)), upd (yC (ySetS (cY (c_save C)) k (sT (yS (cY (c_save C)) k), sA (yS (cY (c_save C)) k), sN (yS (cY (c_save C)) k), sP (yS (cY (c_save C)) k), sC (yS (cY (c_save C)) k), (sK (yS (cY (c_save C)) k)) + 1))) 4 ((yC (ySetS (cY (c_save C)) k (sT (yS (cY (c_save C)) k), sA (yS (cY (c_save C)) k), sN (yS (cY (c_save C)) k), sP (yS (cY (c_save C)) k), sC (yS (cY (c_save C)) k), (sK (yS (cY (c_save C)) k)) + 1)) 4) + 1)) k (sT (yS (yS (ySetS (cY (c_save C)) k (sT (yS (cY (c_save C)) k), sA (yS (cY (c_save C)) k), sN (yS (cY (c_save C)) k), sP (yS (cY (c_save C)) k), sC (yS (cY (c_save C)) k), (sK (yS (cY (c_save C)) k)) + 1)), yH (ySetS (cY (c_save C)) k (sT (yS (cY (c_save C)) k), sA (yS (cY (c_save C)) k), sN (yS (cY (c_save C)) k), sP (yS (cY (c_save C)) k), sC (yS (cY (c_save C)) k), (sK (yS (cY (c_save C)) k)) + 1)), yZ (ySetS (cY (c_save C)) k (sT (yS (cY (c_save C)) k), sA (yS (cY (c_save C)) k), sN (yS (cY (c_save C)) k), sP (yS (cY (c_save C)) k), sC (yS (cY (c_save C)) k), (sK (yS (cY (c_save C)) k)) + 1)), upd (yC (ySetS (cY (c_save C)) k (sT (yS (cY (c_save C)) k), sA (yS (cY (c_save C)) k), sN (yS (cY (c_save C)) k), sP (yS (cY (c_save C)) k), sC (yS (cY (c_save C)) k), (sK (yS (cY (c_save C)) k)) + 1))) 4 ((yC (ySetS (cY (c_save C)) k (sT (yS (cY (c_save C)) k), sA (yS (cY (c_save C)) k), sN (yS (cY (c_save C)) k), sP (yS (cY (c_save C)) k), sC (yS (cY (c_save C)) k), (sK (yS (cY (c_save C)) k)) + 1)) 4) + 1)) k), s_young (sA (yS (yS (ySetS (cY (c_save C)) k (sT (yS (cY (c_save C)) k), sA (yS (cY (c_save C)) k), sN (yS (cY (c_save C)) k), sP (yS (cY (c_save C)) k), sC (yS (cY (c_save C)) k), (sK (yS (cY (c_save C)) k)) + 1)), yH (ySetS (cY (c_save C)) k (sT (yS (cY (c_save C)) k), sA (yS (cY (c_save C)) k), sN (yS (cY (c_save C)) k), sP (yS (cY (c_save C)) k), sC (yS (cY (c_save C)) k), (sK (yS (cY (c_save C)) k)) + 1)), yZ (ySetS (cY (c_save C)) k (sT (yS (cY (c_save C)) k), sA (yS (cY (c_save C)) k), sN (yS (cY (c_save C)) k), sP (yS (cY (c_save C)) k), sC (yS (cY (c_save C)) k), (sK (yS (cY (c_save C)) k)) + 1)), upd (yC (ySetS (cY (c_save C)) k (sT (yS (cY (c_save C)) k), sA (yS (cY (c_save C)) k), sN (yS (cY (c_save C)) k), sP (yS (cY (c_save C)) k), sC (yS (cY (c_save C)) k), (sK (yS (cY (c_save C)) k)) + 1))) 4 ((yC (ySetS (cY (c_save C)) k (sT (yS (cY (c_save C)) k), sA (yS (cY (c_save C)) k), sN (yS (cY (c_save C)) k), sP (yS (cY (c_save C)) k), sC (yS (cY (c_save C)) k), (sK (yS (cY (c_save C)) k)) + 1)) 4) + 1)) k)), sN (yS (yS (ySetS (cY (c_save C)) k (sT (yS (cY (c_save C)) k), sA (yS (cY (c_save C)) k), sN (yS (cY (c_save C)) k), sP (yS (cY (c_save C)) k), sC (yS (cY (c_save C)) k), (sK (yS (cY (c_save C)) k)) + 1)), yH (ySetS (cY (c_save C)) k (sT (yS (cY (c_save C)) k), sA (yS (cY (c_save C)) k), sN (yS (cY (c_save C)) k), sP (yS (cY (c_save C)) k), sC (yS (cY (c_save C)) k), (sK (yS (cY (c_save C)) k)) + 1)), yZ (ySetS (cY (c_save C)) k (sT (yS (cY (c_save C)) k), sA (yS (cY (c_save C)) k), sN (yS (cY (c_save C)) k), sP (yS (cY (c_save C)) k), sC (yS (cY (c_save C)) k), (sK (yS (cY (c_save C)) k)) + 1)), upd (yC (ySetS (cY (c_save C)) k (sT (yS (cY (c_save C)) k), sA (yS (cY (c_save C)) k), sN (yS (cY (c_save C)) k), sP (yS (cY (c_save C)) k), sC (yS (cY (c_save C)) k), (sK (yS (cY (c_save C)) k)) + 1))) 4 ((yC (ySetS (cY (c_save C)) k (sT (yS (cY (c_save C)) k), sA (yS (cY (c_save C)) k), sN (yS (cY (c_save C)) k), sP (yS (cY (c_save C)) k), sC (yS (cY (c_save C)) k), (sK (yS (cY (c_save C)) k)) + 1)) 4) + 1)) k), sP (yS (yS (ySetS (cY (c_save C)) k (sT (yS (cY (c_save C)) k), sA (yS (cY (c_save C)) k), sN (yS (cY (c_save C)) k), sP (yS (cY (c_save C)) k), sC (yS (cY (c_save C)) k), (sK (yS (cY (c_save C)) k)) + 1)), yH (ySetS (cY (c_save C)) k (sT (yS (cY (c_save C)) k), sA (yS (cY (c_save C)) k), sN (yS (cY (c_save C)) k), sP (yS (cY (c_save C)) k), sC (yS (cY (c_save C)) k), (sK (yS (cY (c_save C)) k)) + 1)), yZ (ySetS (cY (c_save C)) k (sT (yS (cY (c_save C)) k), sA (yS (cY (c_save C)) k), sN (yS (cY (c_save C)) k), sP (yS (cY (c_save C)) k), sC (yS (cY (c_save C)) k), (sK (yS (cY (c_save C)) k)) + 1)), upd (yC (ySetS (cY (c_save C)) k (sT (yS (cY (c_save C)) k), sA (yS (cY (c_save C)) k), sN (yS (cY (c_save C)) k), sP (yS (cY (c_save C)) k), sC (yS (cY (c_save C)) k), (sK (yS (cY (c_save C)) k)) + 1))) 4 ((yC (ySetS (cY (c_save C)) k (sT (yS (cY (c_save C)) k), sA (yS (cY (c_save C)) k), sN (yS (cY (c_save C)) k), sP (yS (cY (c_save C)) k), sC (yS (cY (c_save C)) k), (sK (yS (cY (c_save C)) k)) + 1)) 4) + 1)) k), sC (yS (yS (ySetS (cY (c_save C)) k (sT (yS (cY (c_save C)) k), sA (yS (cY (c_save C)) k), sN (yS (cY (c_save C)) k), sP (yS (cY (c_save C)) k), sC (yS (cY (c_save C)) k), (sK (yS (cY (c_save C)) k)) + 1)), yH (ySetS (cY (c_save C)) k (sT (yS (cY (c_save C)) k), sA (yS (cY (c_save C)) k), sN (yS (cY (c_save C)) k), sP (yS (cY (c_save C)) k), sC (yS (cY (c_save C)) k), (sK (yS (cY (c_save C)) k)) + 1)), yZ (ySetS (cY (c_save C)) k (sT (yS (cY (c_save C)) k), sA (yS (cY (c_save C)) k), sN (yS (cY (c_save C)) k), sP (yS (cY (c_save C)) k), sC (yS (cY (c_save C)) k), (sK (yS (cY (c_save C)) k)) + 1)), upd (yC (ySetS (cY (c_save C)) k (sT (yS (cY (c_save C)) k), sA (yS (cY (c_save C)) k), sN (yS (cY (c_save C)) k), sP (yS (cY (c_save C)) k), sC (yS (cY (c_save C)) k), (sK (yS (cY (c_save C)) k)) + 1))) 4 ((yC (ySetS (cY (c_save C)) k (sT (yS (cY (c_save C)) k), sA (yS (cY (c_save C)) k), sN (yS (cY (c_save C)) k), sP (yS (cY (c_save C)) k), sC (yS (cY (c_save C)) k), (sK (yS (cY (c_save C)) k)) + 1)) 4) + 1)) k), sK (yS (yS (ySetS (cY (c_save C)) k (sT (yS (cY (c_save C)) k), sA (yS (cY (c_save C)) k), sN (yS (cY (c_save C)) k), sP (yS (cY (c_save C)) k), sC (yS (cY (c_save C)) k), (sK (yS (cY (c_save C)) k)) + 1)), yH (ySetS (cY (c_save C)) k (sT (yS (cY (c_save C)) k), sA (yS (cY (c_save C)) k), sN (yS (cY (c_save C)) k), sP (yS (cY (c_save C)) k), sC (yS (cY (c_save C)) k), (sK (yS (cY (c_save C)) k)) + 1)), yZ (ySetS (cY (c_save C)) k (sT (yS (cY (c_save C)) k), sA (yS (cY (c_save C)) k), sN (yS (cY (c_save C)) k), sP (yS (cY (c_save C)) k), sC (yS (cY (c_save C)) k), (sK (yS (cY (c_save C)) k)) + 1)), upd (yC (ySetS (cY (c_save C)) k (sT (yS (cY (c_save C)) k), sA (yS (cY (c_save C)) k), sN (yS (cY (c_save C)) k), sP (yS (cY (c_save C)) k), sC (yS (cY (c_save C)) k), (sK (yS (cY (c_save C)) k)) + 1))) 4 ((yC (ySetS (cY (c_save C)) k (sT (yS (cY (c_save C)) k), sA (yS (cY (c_save C)) k), sN (yS (cY (c_save C)) k), sP (yS (cY (c_save C)) k), sC (yS (cY (c_save C)) k), (sK (yS (cY (c_save C)) k)) + 1)) 4) + 1)) k))) k), sN (yS (ySetS (yS (ySetS (cY (c_save C)) k (sT (yS (cY (c_save C)) k), sA (yS (cY (c_save C)) k), sN (yS (cY (c_save C)) k), sP (yS (cY (c_save C)) k), sC (yS (cY (c_save C)) k), (sK (yS (cY (c_save C)) k)) + 1)), yH (ySetS (cY (c_save C)) k (sT (yS (cY (c_save C)) k), sA (yS (cY (c_save C)) k), sN (yS (cY (c_save C)) k), sP (yS (cY (c_save C)) k), sC (yS (cY (c_save C)) k), (sK (yS (cY (c_save C)) k)) + 1)), yZ (ySetS (cY (c_save C)) k (sT (yS (cY (c_save C)) k), sA (yS (cY (c_save C)) k), sN (yS (cY (c_save C)) k), sP (yS (cY (c_save C)) k), sC (yS (cY (c_save C)) k), (sK (yS (cY (c_save C)) k)) + 1)), upd (yC (ySetS (cY (c_save C)) k (sT (yS (cY (c_save C)) k), sA (yS (cY (c_save C)) k), sN (yS (cY (c_save C)) k), sP (yS (cY (c_save C)) k), sC (yS (cY (c_save C)) k), (sK (yS (cY (c_save C)) k)) + 1))) 4 ((yC (ySetS (cY (c_save C)) k (sT (yS (cY (c_save C)) k), sA (yS (cY (c_save C)) k), sN (yS (cY (c_save C)) k), sP (yS (cY (c_save C)) k), sC (yS (cY (c_save C)) k), (sK (yS (cY (c_save C)) k)) + 1)) 4) + 1)) k (sT (yS (yS (ySetS (cY (c_save C)) k (sT (yS (cY (c_save C)) k), sA (yS (cY (c_save C)) k), sN (yS (cY (c_save C)) k), sP (yS (cY (c_save C)) k), sC (yS (cY (c_save C)) k), (sK (yS (cY (c_save C)) k)) + 1)), yH (ySetS (cY (c_save C)) k (sT (yS (cY (c_save C)) k), sA (yS (cY (c_save C)) k), sN (yS (cY (c_save C)) k), sP (yS (cY (c_save C)) k), sC (yS (cY (c_save C)) k), (sK (yS (cY (c_save C)) k)) + 1)), yZ (ySetS (cY (c_save C)) k (sT (yS (cY (c_save C)) k), sA (yS (cY (c_save C)) k), sN (yS (cY (c_save C)) k), sP (yS (cY (c_save C)) k), sC (yS (cY (c_save C)) k), (sK (yS (cY (c_save C)) k)) + 1)), upd (yC (ySetS (cY (c_save C)) k (sT (yS (cY (c_save C)) k), sA (yS (cY (c_save C)) k), sN (yS (cY (c_save C)) k), sP (yS (cY (c_save C)) k), sC (yS (cY (c_save C)) k), (sK (yS (cY (c_save C)) k)) + 1))) 4 ((yC (ySetS (cY (c_save C)) k (sT (yS (cY (c_save C)) k), sA (yS (cY (c_save C)) k), sN (yS (cY (c_save C)) k), sP (yS (cY (c_save C)) k), sC (yS (cY (c_save C)) k), (sK (yS (cY (c_save C)) k)) + 1)) 4) + 1)) k), s_young (sA (yS (yS (ySetS (cY (c_save C)) k (sT (yS (cY (c_save C)) k), sA (yS (cY (c_save C)) k), sN (yS (cY (c_save C)) k), sP (yS (cY (c_save C)) k), sC (yS (cY (c_save C)) k), (sK (yS (cY (c_save C)) k)) + 1)), yH (ySetS (cY (c_save C)) k (sT (yS (cY (c_save C)) k), sA (yS (cY (c_save C)) k), sN (yS (cY (c_save C)) k), sP (yS (cY (c_save C)) k), sC (yS (cY (c_save C)) k), (sK (yS (cY (c_save C)) k)) + 1)), yZ (ySetS (cY (c_save C)) k (sT (yS (cY (c_save C)) k), sA (yS (cY (c_save C)) k), sN (yS (cY (c_save C)) k), sP (yS (cY (c_save C)) k), sC (yS (cY (c_save C)) k), (sK (yS (cY (c_save C)) k)) + 1)), upd (yC (ySetS (cY (c_save C)) k (sT (yS (cY (c_save C)) k), sA (yS (cY (c_save C)) k), sN (yS (cY (c_save C)) k), sP (yS (cY (c_save C)) k), sC (yS (cY (c_save C)) k), (sK (yS (cY (c_save C)) k)) + 1))) 4 ((yC (ySetS (cY (c_save C)) k (sT (yS (cY (c_save C)) k), sA (yS (cY (c_save C)) k), sN (yS (cY (c_save C)) k), sP (yS (cY (c_save C)) k), sC (yS (cY (c_save C)) k), (sK (yS (cY (c_save C)) k)) + 1)) 4) + 1)) k)), sN (yS (yS (ySetS (cY (c_save C)) k (sT (yS (cY (c_save C)) k), sA (yS (cY (c_save C)) k), sN (yS (cY (c_save C)) k), sP (yS (cY (c_save C)) k), sC (yS (cY (c_save C)) k), (sK (yS (cY (c_save C)) k)) + 1)), yH (ySetS (cY (c_save C)) k (sT (yS (cY (c_save C)) k), sA (yS (cY (c_save C)) k), sN (yS (cY (c_save C)) k), sP (yS (cY (c_save C)) k), sC (yS (cY (c_save C)) k), (sK (yS (cY (c_save C)) k)) + 1)), yZ (ySetS (cY (c_save C)) k (sT (yS (cY (c_save C)) k), sA (yS (cY (c_save C)) k), sN (yS (cY (c_save C)) k), sP (yS (cY (c_save C)) k), sC (yS (cY (c_save C)) k), (sK (yS (cY (c_save C)) k)) + 1)), upd (yC (ySetS (cY (c_save C)) k (sT (yS (cY (c_save C)) k), sA (yS (cY (c_save C)) k), sN (yS (cY (c_save C)) k), sP (yS (cY (c_save C)) k), sC (yS (cY (c_save C)) k), (sK (yS (cY (c_save C)) k)) + 1))) 4 ((yC (ySetS (cY (c_save C)) k (sT (yS (cY (c_save C)) k), sA (yS (cY (c_save C)) k), sN (yS (cY (c_save C)) k), sP (yS (cY (c_save C)) k), sC (yS (cY (c_save C)) k), (sK (yS (cY (c_save C)) k)) + 1)) 4) + 1)) k), sP (yS (yS (ySetS (cY (c_save C)) k (sT (yS (cY (c_save C)) k), sA (yS (cY (c_save C)) k), sN (yS (cY (c_save C)) k), sP (yS (cY (c_save C)) k), sC (yS (cY (c_save C)) k), (sK (yS (cY (c_save C)) k)) + 1)), yH (ySetS (cY (c_save C)) k (sT (yS (cY (c_save C)) k), sA (yS (cY (c_save C)) k), sN (yS (cY (c_save C)) k), sP (yS (cY (c_save C)) k), sC (yS (cY (c_save C)) k), (sK (yS (cY (c_save C)) k)) + 1)), yZ (ySetS (cY (c_save C)) k (sT (yS (cY (c_save C)) k), sA (yS (cY (c_save C)) k), sN (yS (cY (c_save C)) k), sP (yS (cY (c_save C)) k), sC (yS (cY (c_save C)) k), (sK (yS (cY (c_save C)) k)) + 1)), upd (yC (ySetS (cY (c_save C)) k (sT (yS (cY (c_save C)) k), sA (yS (cY (c_save C)) k), sN (yS (cY (c_save C)) k), sP (yS (cY (c_save C)) k), sC (yS (cY (c_save C)) k), (sK (yS (cY (c_save C)) k)) + 1))) 4 ((yC (ySetS (cY (c_save C)) k (sT (yS (cY (c_save C)) k), sA (yS (cY (c_save C)) k), sN (yS (cY (c_save C)) k), sP (yS (cY (c_save C)) k), sC (yS (cY (c_save C)) k), (sK (yS (cY (c_save C)) k)) + 1)) 4) + 1)) k), sC (yS (yS (ySetS (cY (c_save C)) k (sT (yS (cY (c_save C)) k), sA (yS (cY (c_save C)) k), sN (yS (cY (c_save C)) k), sP (yS (cY (c_save C)) k), sC (yS (cY (c_save C)) k), (sK (yS (cY (c_save C)) k)) + 1)), yH (ySetS (cY (c_save C)) k (sT (yS (cY (c_save C)) k), sA (yS (cY (c_save C)) k), sN (yS (cY (c_save C)) k), sP (yS (cY (c_save C)) k), sC (yS (cY (c_save C)) k), (sK (yS (cY (c_save C)) k)) + 1)), yZ (ySetS (cY (c_save C)) k (sT (yS (cY (c_save C)) k), sA (yS (cY (c_save C)) k), sN (yS (cY (c_save C)) k), sP (yS (cY (c_save C)) k), sC (yS (cY (c_save C)) k), (sK (yS (cY (c_save C)) k)) + 1)), upd (yC (ySetS (cY (c_save C)) k (sT (yS (cY (c_save C)) k), sA (yS (cY (c_save C)) k), sN (yS (cY (c_save C)) k), sP (yS (cY (c_save C)) k), sC (yS (cY (c_save C)) k), (sK (yS (cY (c_save C)) k)) + 1))) 4 ((yC (ySetS (cY (c_save C)) k (sT (yS (cY (c_save C)) k), sA (yS (cY (c_save C)) k), sN (yS (cY (c_save C)) k), sP (yS (cY (c_save C)) k), sC (yS (cY (c_save C)) k), (sK (yS (cY (c_save C)) k)) + 1)) 4) + 1)) k), sK (yS (yS (ySetS (cY (c_save C)) k (sT (yS (cY (c_save C)) k), sA (yS (cY (c_save C)) k), sN (yS (cY (c_save C)) k), sP (yS (cY (c_save C)) k), sC (yS (cY (c_save C)) k), (sK (yS (cY (c_save C)) k)) + 1)), yH (ySetS (cY (c_save C)) k (sT (yS (cY (c_save C)) k), sA (yS (cY (c_save C)) k), sN (yS (cY (c_save C)) k), sP (yS (cY (c_save C)) k), sC (yS (cY (c_save C)) k), (sK (yS (cY (c_save C)) k)) + 1)), yZ (ySetS (cY (c_save C)) k (sT (yS (cY (c_save C)) k), sA (yS (cY (c_save C)) k), sN (yS (cY (c_save C)) k), sP (yS (cY (c_save C)) k), sC (yS (cY (c_save C)) k), (sK (yS (cY (c_save C)) k)) + 1)), upd (yC (ySetS (cY (c_save C)) k (sT (yS (cY (c_save C)) k), sA (yS (cY (c_save C)) k), sN (yS (cY (c_save C)) k), sP (yS (cY (c_save C)) k), sC (yS (cY (c_save C)) k), (sK (yS (cY (c_save C)) k)) + 1))) 4 ((yC (ySetS (cY (c_save C)) k (sT (yS (cY (c_save C)) k), sA (yS (cY (c_save C)) k), sN (yS (cY (c_save C)) k), sP (yS (cY (c_save C)) k), sC (yS (cY (c_save C)) k), (sK (yS (cY (c_save C)) k)) + 1)) 4) + 1)) k))) k), sP (yS (ySetS (yS (ySetS (cY (c_save C)) k (sT (yS (cY (c_save C)) k), sA (yS (cY (c_save C)) k), sN (yS (cY (c_save C)) k), sP (yS (cY (c_save C)) k), sC (yS (cY (c_save C)) k), (sK (yS (cY (c_save C)) k)) + 1)), yH (ySetS (cY (c_save C)) k (sT (yS (cY (c_save C)) k), sA (yS (cY (c_save C)) k), sN (yS (cY (c_save C)) k), sP (yS (cY (c_save C)) k), sC (yS (cY (c_save C)) k), (sK (yS (cY (c_save C)) k)) + 1)), yZ (ySetS (cY (c_save C)) k (sT (yS (cY (c_save C)) k), sA (yS (cY (c_save C)) k), sN (yS (cY (c_save C)) k), sP (yS (cY (c_save C)) k), sC (yS (cY (c_save C)) k), (sK (yS (cY (c_save C)) k)) + 1)), upd (yC (ySetS (cY (c_save C)) k (sT (yS (cY (c_save C)) k), sA (yS (cY (c_save C)) k), sN (yS (cY (c_save C)) k), sP (yS (cY (c_save C)) k), sC (yS (cY (c_save C)) k), (sK (yS (cY (c_save C)) k)) + 1))) 4 ((yC (ySetS (cY (c_save C)) k (sT (yS (cY (c_save C)) k), sA (yS (cY (c_save C)) k), sN (yS (cY (c_save C)) k), sP (yS (cY (c_save C)) k), sC (yS (cY (c_save C)) k), (sK (yS (cY (c_save C)) k)) + 1)) 4) + 1)) k (sT (yS (yS (ySetS (cY (c_save C)) k (sT (yS (cY (c_save C)) k), sA (yS (cY (c_save C)) k), sN (yS (cY (c_save C)) k), sP (yS (cY (c_save C)) k), sC (yS (cY (c_save C)) k), (sK (yS (cY (c_save C)) k)) + 1)), yH (ySetS (cY (c_save C)) k (sT (yS (cY (c_save C)) k), sA (yS (cY (c_save C)) k), sN (yS (cY (c_save C)) k), sP (yS (cY (c_save C)) k), sC (yS (cY (c_save C)) k), (sK (yS (cY (c_save C)) k)) + 1)), yZ (ySetS (cY (c_save C)) k (sT (yS (cY (c_save C)) k), sA (yS (cY (c_save C)) k), sN (yS (cY (c_save C)) k), sP (yS (cY (c_save C)) k), sC (yS (cY (c_save C)) k), (sK (yS (cY (c_save C)) k)) + 1)), upd (yC (ySetS (cY (c_save C)) k (sT (yS (cY (c_save C)) k), sA (yS (cY (c_save C)) k), sN (yS (cY (c_save C)) k), sP (yS (cY (c_save C)) k), sC (yS (cY (c_save C)) k), (sK (yS (cY (c_save C)) k)) + 1))) 4 ((yC (ySetS (cY (c_save C)) k (sT (yS (cY (c_save C)) k), sA (yS (cY (c_save C)) k), sN (yS (cY (c_save C)) k), sP (yS (cY (c_save C)) k), sC (yS (cY (c_save C)) k), (sK (yS (cY (c_save C)) k)) + 1)) 4) + 1)) k), s_young (sA (yS (yS (ySetS (cY (c_save C)) k (sT (yS (cY (c_save C)) k), sA (yS (cY (c_save C)) k), sN (yS (cY (c_save C)) k), sP (yS (cY (c_save C)) k), sC (yS (cY (c_save C)) k), (sK (yS (cY (c_save C)) k)) + 1)), yH (ySetS (cY (c_save C)) k (sT (yS (cY (c_save C)) k), sA (yS (cY (c_save C)) k), sN (yS (cY (c_save C)) k), sP (yS (cY (c_save C)) k), sC (yS (cY (c_save C)) k), (sK (yS (cY (c_save C)) k)) + 1)), yZ (ySetS (cY (c_save C)) k (sT (yS (cY (c_save C)) k), sA (yS (cY (c_save C)) k), sN (yS (cY (c_save C)) k), sP (yS (cY (c_save C)) k), sC (yS (cY (c_save C)) k), (sK (yS (cY (c_save C)) k)) + 1)), upd (yC (ySetS (cY (c_save C)) k (sT (yS (cY (c_save C)) k), sA (yS (cY (c_save C)) k), sN (yS (cY (c_save C)) k), sP (yS (cY (c_save C)) k), sC (yS (cY (c_save C)) k), (sK (yS (cY (c_save C)) k)) + 1))) 4 ((yC (ySetS (cY (c_save C)) k (sT (yS (cY (c_save C)) k), sA (yS (cY (c_save C)) k), sN (yS (cY (c_save C)) k), sP (yS (cY (c_save C)) k), sC (yS (cY (c_save C)) k), (sK (yS (cY (c_save C)) k)) + 1)) 4) + 1)) k)), sN (yS (yS (ySetS (cY (c_save C)) k (sT (yS (cY (c_save C)) k), sA (yS (cY (c_save C)) k), sN (yS (cY (c_save C)) k), sP (yS (cY (c_save C)) k), sC (yS (cY (c_save C)) k), (sK (yS (cY (c_save C)) k)) + 1)), yH (ySetS (cY (c_save C)) k (sT (yS (cY (c_save C)) k), sA (yS (cY (c_save C)) k), sN (yS (cY (c_save C)) k), sP (yS (cY (c_save C)) k), sC (yS (cY (c_save C)) k), (sK (yS (cY (c_save C)) k)) + 1)), yZ (ySetS (cY (c_save C)) k (sT (yS (cY (c_save C)) k), sA (yS (cY (c_save C)) k), sN (yS (cY (c_save C)) k), sP (yS (cY (c_save C)) k), sC (yS (cY (c_save C)) k), (sK (yS (cY (c_save C)) k)) + 1)), upd (yC (ySetS (cY (c_save C)) k (sT (yS (cY (c_save C)) k), sA (yS (cY (c_save C)) k), sN (yS (cY (c_save C)) k), sP (yS (cY (c_save C)) k), sC (yS (cY (c_save C)) k), (sK (yS (cY (c_save C)) k)) + 1))) 4 ((yC (ySetS (cY (c_save C)) k (sT (yS (cY (c_save C)) k), sA (yS (cY (c_save C)) k), sN (yS (cY (c_save C)) k), sP (yS (cY (c_save C)) k), sC (yS (cY (c_save C)) k), (sK (yS (cY (c_save C)) k)) + 1)) 4) + 1)) k), sP (yS (yS (ySetS (cY (c_save C)) k (sT (yS (cY (c_save C)) k), sA (yS (cY (c_save C)) k), sN (yS (cY (c_save C)) k), sP (yS (cY (c_save C)) k), sC (yS (cY (c_save C)) k), (sK (yS (cY (c_save C)) k)) + 1)), yH (ySetS (cY (c_save C)) k (sT (yS (cY (c_save C)) k), sA (yS (cY (c_save C)) k), sN (yS (cY (c_save C)) k), sP (yS (cY (c_save C)) k), sC (yS (cY (c_save C)) k), (sK (yS (cY (c_save C)) k)) + 1)), yZ (ySetS (cY (c_save C)) k (sT (yS (cY (c_save C)) k), sA (yS (cY (c_save C)) k), sN (yS (cY (c_save C)) k), sP (yS (cY (c_save C)) k), sC (yS (cY (c_save C)) k), (sK (yS (cY (c_save C)) k)) + 1)), upd (yC (ySetS (cY (c_save C)) k (sT (yS (cY (c_save C)) k), sA (yS (cY (c_save C)) k), sN (yS (cY (c_save C)) k), sP (yS (cY (c_save C)) k), sC (yS (cY (c_save C)) k), (sK (yS (cY (c_save C)) k)) + 1))) 4 ((yC (ySetS (cY (c_save C)) k (sT (yS (cY (c_save C)) k), sA (yS (cY (c_save C)) k), sN (yS (cY (c_save C)) k), sP (yS (cY (c_save C)) k), sC (yS (cY (c_save C)) k), (sK (yS (cY (c_save C)) k)) + 1)) 4) + 1)) k), sC (yS (yS (ySetS (cY (c_save C)) k (sT (yS (cY (c_save C)) k), sA (yS (cY (c_save C)) k), sN (yS (cY (c_save C)) k), sP (yS (cY (c_save C)) k), sC (yS (cY (c_save C)) k), (sK (yS (cY (c_save C)) k)) + 1)), yH (ySetS (cY (c_save C)) k (sT (yS (cY (c_save C)) k), sA (yS (cY (c_save C)) k), sN (yS (cY (c_save C)) k), sP (yS (cY (c_save C)) k), sC (yS (cY (c_save C)) k), (sK (yS (cY (c_save C)) k)) + 1)), yZ (ySetS (cY (c_save C)) k (sT (yS (cY (c_save C)) k), sA (yS (cY (c_save C)) k), sN (yS (cY (c_save C)) k), sP (yS (cY (c_save C)) k), sC (yS (cY (c_save C)) k), (sK (yS (cY (c_save C)) k)) + 1)), upd (yC (ySetS (cY (c_save C)) k (sT (yS (cY (c_save C)) k), sA (yS (cY (c_save C)) k), sN (yS (cY (c_save C)) k), sP (yS (cY (c_save C)) k), sC (yS (cY (c_save C)) k), (sK (yS (cY (c_save C)) k)) + 1))) 4 ((yC (ySetS (cY (c_save C)) k (sT (yS (cY (c_save C)) k), sA (yS (cY (c_save C)) k), sN (yS (cY (c_save C)) k), sP (yS (cY (c_save C)) k), sC (yS (cY (c_save C)) k), (sK (yS (cY (c_save C)) k)) + 1)) 4) + 1)) k), sK (yS (yS (ySetS (cY (c_save C)) k (sT (yS (cY (c_save C)) k), sA (yS (cY (c_save C)) k), sN (yS (cY (c_save C)) k), sP (yS (cY (c_save C)) k), sC (yS (cY (c_save C)) k), (sK (yS (cY (c_save C)) k)) + 1)), yH (ySetS (cY (c_save C)) k (sT (yS (cY (c_save C)) k), sA (yS (cY (c_save C)) k), sN (yS (cY (c_save C)) k), sP (yS (cY (c_save C)) k), sC (yS (cY (c_save C)) k), (sK (yS (cY (c_save C)) k)) + 1)), yZ (ySetS (cY (c_save C)) k (sT (yS (cY (c_save C)) k), sA (yS (cY (c_save C)) k), sN (yS (cY (c_save C)) k), sP (yS (cY (c_save C)) k), sC (yS (cY (c_save C)) k), (sK (yS (cY (c_save C)) k)) + 1)), upd (yC (ySetS (cY (c_save C)) k (sT (yS (cY (c_save C)) k), sA (yS (cY (c_save C)) k), sN (yS (cY (c_save C)) k), sP (yS (cY (c_save C)) k), sC (yS (cY (c_save C)) k), (sK (yS (cY (c_save C)) k)) + 1))) 4 ((yC (ySetS (cY (c_save C)) k (sT (yS (cY (c_save C)) k), sA (yS (cY (c_save C)) k), sN (yS (cY (c_save C)) k), sP (yS (cY (c_save C)) k), sC (yS (cY (c_save C)) k), (sK (yS (cY (c_save C)) k)) + 1)) 4) + 1)) k))) k), 0, sK (yS (ySetS (yS (ySetS (cY (c_save C)) k (sT (yS (cY (c_save C)) k), sA (yS (cY (c_save C)) k), sN (yS (cY (c_save C)) k), sP (yS (cY (c_save C)) k), sC (yS (cY (c_save C)) k), (sK (yS (cY (c_save C)) k)) + 1)), yH (ySetS (cY (c_save C)) k (sT (yS (cY (c_save C)) k), sA (yS (cY (c_save C)) k), sN (yS (cY (c_save C)) k), sP (yS (cY (c_save C)) k), sC (yS (cY (c_save C)) k), (sK (yS (cY (c_save C)) k)) + 1)), yZ (ySetS (cY (c_save C)) k (sT (yS (cY (c_save C)) k), sA (yS (cY (c_save C)) k), sN (yS (cY (c_save C)) k), sP (yS (cY (c_save C)) k), sC (yS (cY (c_save C)) k), (sK (yS (cY (c_save C)) k)) + 1)), upd (yC (ySetS (cY (c_save C)) k (sT (yS (cY (c_save C)) k), sA (yS (cY (c_save C)) k), sN (yS (cY (c_save C)) k), sP (yS (cY (c_save C)) k), sC (yS (cY (c_save C)) k), (sK (yS (cY (c_save C)) k)) + 1))) 4 ((yC (ySetS (cY (c_save C)) k (sT (yS (cY (c_save C)) k), sA (yS (cY (c_save C)) k), sN (yS (cY (c_save C)) k), sP (yS (cY (c_save C)) k), sC (yS (cY (c_save C)) k), (sK (yS (cY (c_save C)) k)) + 1)) 4) + 1)) k (sT (yS (yS (ySetS (cY (c_save C)) k (sT (yS (cY (c_save C)) k), sA (yS (cY (c_save C)) k), sN (yS (cY (c_save C)) k), sP (yS (cY (c_save C)) k), sC (yS (cY (c_save C)) k), (sK (yS (cY (c_save C)) k)) + 1)), yH (ySetS (cY (c_save C)) k (sT (yS (cY (c_save C)) k), sA (yS (cY (c_save C)) k), sN (yS (cY (c_save C)) k), sP (yS (cY (c_save C)) k), sC (yS (cY (c_save C)) k), (sK (yS (cY (c_save C)) k)) + 1)), yZ (ySetS (cY (c_save C)) k (sT (yS (cY (c_save C)) k), sA (yS (cY (c_save C)) k), sN (yS (cY (c_save C)) k), sP (yS (cY (c_save C)) k), sC (yS (cY (c_save C)) k), (sK (yS (cY (c_save C)) k)) + 1)), upd (yC (ySetS (cY (c_save C)) k (sT (yS (cY (c_save C)) k), sA (yS (cY (c_save C)) k), sN (yS (cY (c_save C)) k), sP (yS (cY (c_save C)) k), sC (yS (cY (c_save C)) k), (sK (yS (cY (c_save C)) k)) + 1))) 4 ((yC (ySetS (cY (c_save C)) k (sT (yS (cY (c_save C)) k), sA (yS (cY (c_save C)) k), sN (yS (cY (c_save C)) k), sP (yS (cY (c_save C)) k), sC (yS (cY (c_save C)) k), (sK (yS (cY (c_save C)) k)) + 1)) 4) + 1)) k), s_young (sA (yS (yS (ySetS (cY (c_save C)) k (sT (yS (cY (c_save C)) k), sA (yS (cY (c_save C)) k), sN (yS (cY (c_save C)) k), sP (yS (cY (c_save C)) k), sC (yS (cY (c_save C)) k), (sK (yS (cY (c_save C)) k)) + 1)), yH (ySetS (cY (c_save C)) k (sT (yS (cY (c_save C)) k), sA (yS (cY (c_save C)) k), sN (yS (cY (c_save C)) k), sP (yS (cY (c_save C)) k), sC (yS (cY (c_save C)) k), (sK (yS (cY (c_save C)) k)) + 1)), yZ (ySetS (cY (c_save C)) k (sT (yS (cY (c_save C)) k), sA (yS (cY (c_save C)) k), sN (yS (cY (c_save C)) k), sP (yS (cY (c_save C)) k), sC (yS (cY (c_save C)) k), (sK (yS (cY (c_save C)) k)) + 1)), upd (yC (ySetS (cY (c_save C)) k (sT (yS (cY (c_save C)) k), sA (yS (cY (c_save C)) k), sN (yS (cY (c_save C)) k), sP (yS (cY (c_save C)) k), sC (yS (cY (c_save C)) k), (sK (yS (cY (c_save C)) k)) + 1))) 4 ((yC (ySetS (cY (c_save C)) k (sT (yS (cY (c_save C)) k), sA (yS (cY (c_save C)) k), sN (yS (cY (c_save C)) k), sP (yS (cY (c_save C)) k), sC (yS (cY (c_save C)) k), (sK (yS (cY (c_save C)) k)) + 1)) 4) + 1)) k)), sN (yS (yS (ySetS (cY (c_save C)) k (sT (yS (cY (c_save C)) k), sA (yS (cY (c_save C)) k), sN (yS (cY (c_save C)) k), sP (yS (cY (c_save C)) k), sC (yS (cY (c_save C)) k), (sK (yS (cY (c_save C)) k)) + 1)), yH (ySetS (cY (c_save C)) k (sT (yS (cY (c_save C)) k), sA (yS (cY (c_save C)) k), sN (yS (cY (c_save C)) k), sP (yS (cY (c_save C)) k), sC (yS (cY (c_save C)) k), (sK (yS (cY (c_save C)) k)) + 1)), yZ (ySetS (cY (c_save C)) k (sT (yS (cY (c_save C)) k), sA (yS (cY (c_save C)) k), sN (yS (cY (c_save C)) k), sP (yS (cY (c_save C)) k), sC (yS (cY (c_save C)) k), (sK (yS (cY (c_save C)) k)) + 1)), upd (yC (ySetS (cY (c_save C)) k (sT (yS (cY (c_save C)) k), sA (yS (cY (c_save C)) k), sN (yS (cY (c_save C)) k), sP (yS (cY (c_save C)) k), sC (yS (cY (c_save C)) k), (sK (yS (cY (c_save C)) k)) + 1))) 4 ((yC (ySetS (cY (c_save C)) k (sT (yS (cY (c_save C)) k), sA (yS (cY (c_save C)) k), sN (yS (cY (c_save C)) k), sP (yS (cY (c_save C)) k), sC (yS (cY (c_save C)) k), (sK (yS (cY (c_save C)) k)) + 1)) 4) + 1)) k), sP (yS (yS (ySetS (cY (c_save C)) k (sT (yS (cY (c_save C)) k), sA (yS (cY (c_save C)) k), sN (yS (cY (c_save C)) k), sP (yS (cY (c_save C)) k), sC (yS (cY (c_save C)) k), (sK (yS (cY (c_save C)) k)) + 1)), yH (ySetS (cY (c_save C)) k (sT (yS (cY (c_save C)) k), sA (yS (cY (c_save C)) k), sN (yS (cY (c_save C)) k), sP (yS (cY (c_save C)) k), sC (yS (cY (c_save C)) k), (sK (yS (cY (c_save C)) k)) + 1)), yZ (ySetS (cY (c_save C)) k (sT (yS (cY (c_save C)) k), sA (yS (cY (c_save C)) k), sN (yS (cY (c_save C)) k), sP (yS (cY (c_save C)) k), sC (yS (cY (c_save C)) k), (sK (yS (cY (c_save C)) k)) + 1)), upd (yC (ySetS (cY (c_save C)) k (sT (yS (cY (c_save C)) k), sA (yS (cY (c_save C)) k), sN (yS (cY (c_save C)) k), sP (yS (cY (c_save C)) k), sC (yS (cY (c_save C)) k), (sK (yS (cY (c_save C)) k)) + 1))) 4 ((yC (ySetS (cY (c_save C)) k (sT (yS (cY (c_save C)) k), sA (yS (cY (c_save C)) k), sN (yS (cY (c_save C)) k), sP (yS (cY (c_save C)) k), sC (yS (cY (c_save C)) k), (sK (yS (cY (c_save C)) k)) + 1)) 4) + 1)) k), sC (yS (yS (ySetS (cY (c_save C)) k (sT (yS (cY (c_save C)) k), sA (yS (cY (c_save C)) k), sN (yS (cY (c_save C)) k), sP (yS (cY (c_save C)) k), sC (yS (cY (c_save C)) k), (sK (yS (cY (c_save C)) k)) + 1)), yH (ySetS (cY (c_save C)) k (sT (yS (cY (c_save C)) k), sA (yS (cY (c_save C)) k), sN (yS (cY (c_save C)) k), sP (yS (cY (c_save C)) k), sC (yS (cY (c_save C)) k), (sK (yS (cY (c_save C)) k)) + 1)), yZ (ySetS (cY (c_save C)) k (sT (yS (cY (c_save C)) k), sA (yS (cY (c_save C)) k), sN (yS (cY (c_save C)) k), sP (yS (cY (c_save C)) k), sC (yS (cY (c_save C)) k), (sK (yS (cY (c_save C)) k)) + 1)), upd (yC (ySetS (cY (c_save C)) k (sT (yS (cY (c_save C)) k), sA (yS (cY (c_save C)) k), sN (yS (cY (c_save C)) k), sP (yS (cY (c_save C)) k), sC (yS (cY (c_save C)) k), (sK (yS (cY (c_save C)) k)) + 1))) 4 ((yC (ySetS (cY (c_save C)) k (sT (yS (cY (c_save C)) k), sA (yS (cY (c_save C)) k), sN (yS (cY (c_save C)) k), sP (yS (cY (c_save C)) k), sC (yS (cY (c_save C)) k), (sK (yS (cY (c_save C)) k)) + 1)) 4) + 1)) k), sK (yS (yS (ySetS (cY (c_save C)) k (sT (yS (cY (c_save C)) k), sA (yS (cY (c_save C)) k), sN (yS (cY (c_save C)) k), sP (yS (cY (c_save C)) k), sC (yS (cY (c_save C)) k), (sK (yS (cY (c_save C)) k)) + 1)), yH (ySetS (cY (c_save C)) k (sT (yS (cY (c_save C)) k), sA (yS (cY (c_save C)) k), sN (yS (cY (c_save C)) k), sP (yS (cY (c_save C)) k), sC (yS (cY (c_save C)) k), (sK (yS (cY (c_save C)) k)) + 1)), yZ (ySetS (cY (c_save C)) k (sT (yS (cY (c_save C)) k), sA (yS (cY (c_save C)) k), sN (yS (cY (c_save C)) k), sP (yS (cY (c_save C)) k), sC (yS (cY (c_save C)) k), (sK (yS (cY (c_save C)) k)) + 1)), upd (yC (ySetS (cY (c_save C)) k (sT (yS (cY (c_save C)) k), sA (yS (cY (c_save C)) k), sN (yS (cY (c_save C)) k), sP (yS (cY (c_save C)) k), sC (yS (cY (c_save C)) k), (sK (yS (cY (c_save C)) k)) + 1))) 4 ((yC (ySetS (cY (c_save C)) k (sT (yS (cY (c_save C)) k), sA (yS (cY (c_save C)) k), sN (yS (cY (c_save C)) k), sP (yS (cY (c_save C)) k), sC (yS (cY (c_save C)) k), (sK (yS (cY (c_save C)) k)) + 1)) 4) + 1)) k))) k)), cV (c_save C), cM (c_save C), cQ (c_save C), cB (c_save C), cL (c_save C), cR (c_save C), cT (c_save C), cU (c_save C))) _ := hG.to (cW_uso (k := k) (by omega))
          refine lv_iload_n hx hb dX4_shake_99 rfl (lv_at hl 0 rfl) ?_
          refine lv_if_eq (tgt := 107) hx hb dX4_shake_100 (by decide) (fun c_100 => ?_) (fun c_100 => ?_)
          · skip
            exact absurd c_100 (by decide)
          · skip
            refine lv_iconst (v := 1) hx hb dX4_shake_103 (by decide) ?_
            refine lv_goto (tgt := 108) hx hb dX4_shake_104 (by decide) ?_
            exact g_iret hx hb hr hlocks hK hG hS rfl dX4_shake_108 ⟨(congrArg (fun z9 => some (Value.int z9)) (by simp only [y_shakeR, c_31, eq_true c_54, if_true, if_false])), (by first | (simp only [y_shake, c_31, eq_true c_54, if_true, if_false]; done) | (simp only [y_shake, c_31, eq_true c_54, if_true, if_false]; rfl))⟩
    · skip
      have c_31 : (sN (yS (cY C) k)) = 0 := (nI_eq (a := sN (yS (cY C) k)) (b := 0) (by omega) (by omega)).mp c_31
      exfalso; omega
  · skip
    exact absurd c_4 (by decide)
set_option maxHeartbeats 4000000 in
set_option maxRecDepth 100000 in
theorem k_X4_set_ok (l : Launch) (D : va_G) (cy : Nat → ClassId) (N : Nat) (L : Nat → Nat) (F : Nat → va_E) (hN : 162 ≤ N) (C : CT) (i : Nat) (v : Int32) (hy : wfY (cY C)) (hq : cQ C ≤ 6) (hm : ∀ i, i < 6 → cM C i < 6) (hi : i < 4) (hv1 : ¬ v < z_least i) (hv2 : v ≤ z_most i) (hv3 : i = 0 → y_pads (cY C) 4 ≤ v) : GM l D cy N L yX4_set wsX4_set ({ frames := 7, cells := 0, slots := 0, locals := 150 }) [.ref (L 0), .int (nI i), .int v] (cW cy L F C) (some (.int (yZ (cY C) i))) (cW cy L F (c_setY (c_save C) (y_setZ (cY C) i v))) := by
  refine GM.ofW (cc := cX4_set) (maxL := 4) (ret := (some .int)) (by decide) rfl (Nat.le_of_ble_eq_true rfl) ?_
  intro p e s m below meth c ls hx hb hr hts hown hlocks hml hK hA hG hS hl
  have hl : lv_has ls 4 [(0, .ref (L 0)), (1, .int (nI i)), (2, .int v)] := hl
  have hf10 := hts (.fieldLink RX4 10 "SiloPads" "now" "LSiloPads$Yard;") (by decide +kernel)
  have hinX4 : ∀ w ∈ u_ws RX4 TX4 8, w ∈ wsX4_set := by decide +kernel
  have hf117 := hts (.fieldLink RX4 117 "SiloPads$Yard" "settings" "[I") (by decide +kernel)
  have hinX3 : ∀ w ∈ u_ws RX3 TX3 9, w ∈ wsX4_set := by decide +kernel
  refine lv_iload_n hx hb dX4_set_0 rfl (lv_at hl 1 rfl) ?_
  refine lv_if_lt (tgt := 16) hx hb dX4_set_1 (by decide) (fun c_1 => ?_) (fun c_1 => ?_)
  · skip
    have c_1 : i < 0 := (nI_ltI (a := i) (b := 0) (by omega) (by omega)).mp c_1
    exfalso; omega
  · skip
    have c_1 : ¬ i < 0 := fun h9 => c_1 ((nI_ltI (a := i) (b := 0) (by omega) (by omega)).mpr h9)
    refine lv_iload_n hx hb dX4_set_4 rfl (lv_at hl 1 rfl) ?_
    refine lv_aload_n hx hb dX4_set_5 rfl (lv_at hl 0 rfl) ?_
    refine g_get (ci := 4) (C := RX4) (T := TX4) (M := 8) hx hb hts hinX4 hown hK hG (by omega) cW_o rfl 0 (by decide) hf10 rfl rfl dX4_set_6 ?_
    refine g_get (ci := 3) (C := RX3) (T := TX3) (M := 9) hx hb hts hinX3 hown hK hG (by omega) cW_yo rfl 2 (by decide) hf117 rfl rfl dX4_set_9 ?_
    refine g_alen (t0 := 0) (v := nI 4) hx hb hK hG (by omega) cW_yz rfl rfl dX4_set_12 ?_
    refine lv_icmp_lt (tgt := 26) hx hb dX4_set_13 (by decide) (fun c_13 => ?_) (fun c_13 => ?_)
    · skip
      have c_13 : i < 4 := (nI_ltI (a := i) (b := 4) (by omega) (by omega)).mp c_13
      refine lv_iload_n hx hb dX4_set_26 rfl (lv_at hl 2 rfl) ?_
      obtain ⟨t27, hZ27, hT27⟩ := hK.2.2.2.2.1
      refine g_gets (ref := "") (f := z_least) hx hb hS hZ27 hown (hts (.fieldLink RX4 152 "SiloPads" "SETTING_LEAST" "[I") (by decide +kernel)) dX4_set_27 ?_
      refine lv_iload_n hx hb dX4_set_30 rfl (lv_at hl 1 rfl) ?_
      refine g_sald hx hb hS hT27 (k := i) rfl (by omega) dX4_set_31 ?_
      refine lv_icmp_lt (tgt := 44) hx hb dX4_set_32 (by decide) (fun c_32 => ?_) (fun c_32 => ?_)
      · skip
        exact absurd c_32 hv1
      · skip
        refine lv_iload_n hx hb dX4_set_35 rfl (lv_at hl 2 rfl) ?_
        obtain ⟨t36, hZ36, hT36⟩ := hK.2.2.2.2.2.1
        refine g_gets (ref := "") (f := z_least) hx hb hS hZ36 hown (hts (.fieldLink RX4 155 "SiloPads" "SETTING_MOST" "[I") (by decide +kernel)) dX4_set_36 ?_
        refine lv_iload_n hx hb dX4_set_39 rfl (lv_at hl 1 rfl) ?_
        refine g_sald hx hb hS hT36 (k := i) rfl (by omega) dX4_set_40 ?_
        refine lv_icmp_le (tgt := 54) hx hb dX4_set_41 (by decide) (fun c_41 => ?_) (fun c_41 => ?_)
        · skip
          refine lv_iload_n hx hb dX4_set_54 rfl (lv_at hl 1 rfl) ?_
          refine lv_if_ne (tgt := 79) hx hb dX4_set_55 (by decide) (fun c_55 => ?_) (fun c_55 => ?_)
          · skip
            have c_55 : ¬ i = 0 := fun h9 => c_55 ((nI_eq (a := i) (b := 0) (by omega) (by omega)).mpr h9)
            refine lv_aload_n hx hb dX4_set_79 rfl (lv_at hl 0 rfl) ?_
            refine g_cVv (As := []) (rest := []) hx hb hml hown hts hK hA hG hS (k_X4_saveState l D cy N L _ (by omega) C  (hq) (hm)) (cwV 0 hts gX4_set_X4_saveState rfl rfl rfl (by decide +kernel) ⟨Nat.le_of_ble_eq_true rfl, Nat.le_of_ble_eq_true rfl⟩) (by omega) cW_o (ci := 4) rfl rfl rfl rfl hl.1 (Nat.le_of_ble_eq_true rfl) dX4_set_80 ⟨Nat.zero_le _, Nat.zero_le _⟩ (fun H locs hG hS => ?_)
            refine lv_aload_n hx hb dX4_set_83 rfl (lv_at hl 0 rfl) ?_
            refine g_get (ci := 4) (C := RX4) (T := TX4) (M := 8) hx hb hts hinX4 hown hK hG (by omega) cW_o rfl 0 (by decide) hf10 rfl rfl dX4_set_84 ?_
            refine g_get (ci := 3) (C := RX3) (T := TX3) (M := 9) hx hb hts hinX3 hown hK hG (by omega) cW_yo rfl 2 (by decide) hf117 rfl rfl dX4_set_87 ?_
            refine lv_iload_n hx hb dX4_set_90 rfl (lv_at hl 1 rfl) ?_
            refine g_iald hx hb hK hG (by omega) cW_yz (k := i) rfl (by omega) (by decide) dX4_set_91 ?_
            refine lv_istore_n (lv' := [(3, .int ((yZ (cY (c_save C))) i)), (0, .ref (L 0)), (1, .int (nI i)), (2, .int v)]) hx hb dX4_set_92 rfl hl (by decide) rfl (fun ls hl => ?_)
            refine lv_aload_n hx hb dX4_set_93 rfl (lv_at hl 1 rfl) ?_
            refine g_get (ci := 4) (C := RX4) (T := TX4) (M := 8) hx hb hts hinX4 hown hK hG (by omega) cW_o rfl 0 (by decide) hf10 rfl rfl dX4_set_94 ?_
            refine g_get (ci := 3) (C := RX3) (T := TX3) (M := 9) hx hb hts hinX3 hown hK hG (by omega) cW_yo rfl 2 (by decide) hf117 rfl rfl dX4_set_97 ?_
            refine lv_iload_n hx hb dX4_set_100 rfl (lv_at hl 2 rfl) ?_
            refine lv_iload_n hx hb dX4_set_101 rfl (lv_at hl 3 rfl) ?_
            refine g_iast hx hb hK hG hS (by omega) cW_yz (k := i) rfl (by omega) (by decide) dX4_set_102 (fun H locs hG hS => ?_)
            have hG : GW D N L (gA N L s.heap.size) (cW cy L F ((yS (cY (c_save C)), yH (cY (c_save C)), upd (yZ (cY (c_save C))) i v, yC (cY (c_save C))), cV (c_save C), cM (c_save C), cQ (c_save C), cB (c_save C), cL (c_save C), cR (c_save C), cT (c_save C), cU (c_save C))) _ := hG.to cW_uyz
            refine lv_iload_n hx hb dX4_set_103 rfl (lv_at hl 0 rfl) ?_
            exact g_iret hx hb hr hlocks hK hG hS rfl dX4_set_104 ⟨(congrArg (fun z9 => some (Value.int z9)) (by rfl)), (by rfl)⟩
          · skip
            have c_55 : i = 0 := (nI_eq (a := i) (b := 0) (by omega) (by omega)).mp c_55
            refine lv_aload_n hx hb dX4_set_58 rfl (lv_at hl 0 rfl) ?_
            refine g_get (ci := 4) (C := RX4) (T := TX4) (M := 8) hx hb hts hinX4 hown hK hG (by omega) cW_o rfl 0 (by decide) hf10 rfl rfl dX4_set_59 ?_
            have hG : GW D N L (gA N L s.heap.size) (yW cy L (cW cy L F C) (1) (cY C)) _ := hG.to (by rw [cW_Y0 ])
            refine g_cVi (As := []) (rest := []) hx hb hml hown hts hK hA hG hS (k_X3_padsOn l D cy N L _ 1 (cY C)  (by omega)  ) (cwV 0 hts gX4_set_X3_padsOn rfl rfl rfl (by decide +kernel) ⟨Nat.le_of_ble_eq_true rfl, Nat.le_of_ble_eq_true rfl⟩) (by omega) yW_o (ci := 3) rfl rfl rfl rfl hl.1 (Nat.le_of_ble_eq_true rfl) dX4_set_62 ⟨Nat.zero_le _, Nat.zero_le _⟩ (fun H locs hG hS => ?_)
            have hG : GW D N L (gA N L s.heap.size) (cW cy L F C) _ := hG.to (by rw [cW_Y0 ] <;> rfl)
            refine lv_iload_n hx hb dX4_set_65 rfl (lv_at hl 2 rfl) ?_
            refine lv_icmp_le (tgt := 79) hx hb dX4_set_66 (by decide) (fun c_66 => ?_) (fun c_66 => ?_)
            · skip
              refine lv_aload_n hx hb dX4_set_79 rfl (lv_at hl 0 rfl) ?_
              refine g_cVv (As := []) (rest := []) hx hb hml hown hts hK hA hG hS (k_X4_saveState l D cy N L _ (by omega) C  (hq) (hm)) (cwV 0 hts gX4_set_X4_saveState rfl rfl rfl (by decide +kernel) ⟨Nat.le_of_ble_eq_true rfl, Nat.le_of_ble_eq_true rfl⟩) (by omega) cW_o (ci := 4) rfl rfl rfl rfl hl.1 (Nat.le_of_ble_eq_true rfl) dX4_set_80 ⟨Nat.zero_le _, Nat.zero_le _⟩ (fun H locs hG hS => ?_)
              refine lv_aload_n hx hb dX4_set_83 rfl (lv_at hl 0 rfl) ?_
              refine g_get (ci := 4) (C := RX4) (T := TX4) (M := 8) hx hb hts hinX4 hown hK hG (by omega) cW_o rfl 0 (by decide) hf10 rfl rfl dX4_set_84 ?_
              refine g_get (ci := 3) (C := RX3) (T := TX3) (M := 9) hx hb hts hinX3 hown hK hG (by omega) cW_yo rfl 2 (by decide) hf117 rfl rfl dX4_set_87 ?_
              refine lv_iload_n hx hb dX4_set_90 rfl (lv_at hl 1 rfl) ?_
              refine g_iald hx hb hK hG (by omega) cW_yz (k := i) rfl (by omega) (by decide) dX4_set_91 ?_
              refine lv_istore_n (lv' := [(3, .int ((yZ (cY (c_save C))) i)), (0, .ref (L 0)), (1, .int (nI i)), (2, .int v)]) hx hb dX4_set_92 rfl hl (by decide) rfl (fun ls hl => ?_)
              refine lv_aload_n hx hb dX4_set_93 rfl (lv_at hl 1 rfl) ?_
              refine g_get (ci := 4) (C := RX4) (T := TX4) (M := 8) hx hb hts hinX4 hown hK hG (by omega) cW_o rfl 0 (by decide) hf10 rfl rfl dX4_set_94 ?_
              refine g_get (ci := 3) (C := RX3) (T := TX3) (M := 9) hx hb hts hinX3 hown hK hG (by omega) cW_yo rfl 2 (by decide) hf117 rfl rfl dX4_set_97 ?_
              refine lv_iload_n hx hb dX4_set_100 rfl (lv_at hl 2 rfl) ?_
              refine lv_iload_n hx hb dX4_set_101 rfl (lv_at hl 3 rfl) ?_
              refine g_iast hx hb hK hG hS (by omega) cW_yz (k := i) rfl (by omega) (by decide) dX4_set_102 (fun H locs hG hS => ?_)
              have hG : GW D N L (gA N L s.heap.size) (cW cy L F ((yS (cY (c_save C)), yH (cY (c_save C)), upd (yZ (cY (c_save C))) i v, yC (cY (c_save C))), cV (c_save C), cM (c_save C), cQ (c_save C), cB (c_save C), cL (c_save C), cR (c_save C), cT (c_save C), cU (c_save C))) _ := hG.to cW_uyz
              refine lv_iload_n hx hb dX4_set_103 rfl (lv_at hl 0 rfl) ?_
              exact g_iret hx hb hr hlocks hK hG hS rfl dX4_set_104 ⟨(congrArg (fun z9 => some (Value.int z9)) (by rfl)), (by rfl)⟩
            · skip
              exact absurd (hv3 c_55) c_66
        · skip
          exact absurd hv2 c_41
    · skip
      have c_13 : ¬ i < 4 := fun h9 => c_13 ((nI_ltI (a := i) (b := 4) (by omega) (by omega)).mpr h9)
      exfalso; omega
set_option maxHeartbeats 4000000 in
set_option maxRecDepth 100000 in
theorem k_X4_count_ok (l : Launch) (D : va_G) (cy : Nat → ClassId) (N : Nat) (L : Nat → Nat) (F : Nat → va_E) (hN : 162 ≤ N) (C : CT) (v : Int32) (hy : wfY (cY C)) (hv : v = 0 ∨ v = 1 ∨ v = 2 ∨ v = 3 ∨ v = 4 ∨ v = 5 ∨ v = 6 ∨ v = 7 ∨ v = 8 ∨ v = 9 ∨ v = 10 ∨ v = 11 ∨ v = 12 ∨ v = 13 ∨ v = 14) : GM l D cy N L yX4_count wsX4_count ({ frames := 7, cells := 0, slots := 0, locals := 150 }) [.ref (L 0), .int v] (cW cy L F C) (some (.int (c_count C v))) (cW cy L F C) := by
  refine GM.ofW (cc := cX4_count) (maxL := 2) (ret := (some .int)) (by decide) rfl (Nat.le_of_ble_eq_true rfl) ?_
  intro p e s m below meth c ls hx hb hr hts hown hlocks hml hK hA hG hS hl
  have hl : lv_has ls 2 [(0, .ref (L 0)), (1, .int v)] := hl
  have hf10 := hts (.fieldLink RX4 10 "SiloPads" "now" "LSiloPads$Yard;") (by decide +kernel)
  have hinX4 : ∀ w ∈ u_ws RX4 TX4 8, w ∈ wsX4_count := by decide +kernel
  have hf213 := hts (.fieldLink RX4 213 "SiloPads$Yard" "days" "I") (by decide +kernel)
  have hinX3 : ∀ w ∈ u_ws RX3 TX3 9, w ∈ wsX4_count := by decide +kernel
  have hf222 := hts (.fieldLink RX4 222 "SiloPads$Yard" "dust" "I") (by decide +kernel)
  have hf81 := hts (.fieldLink RX4 81 "SiloPads$Yard" "brought" "I") (by decide +kernel)
  have hf84 := hts (.fieldLink RX4 84 "SiloPads$Yard" "gone" "I") (by decide +kernel)
  have hf137 := hts (.fieldLink RX4 137 "SiloPads$Yard" "shakes" "I") (by decide +kernel)
  have hf228 := hts (.fieldLink RX4 228 "SiloPads$Yard" "formed" "I") (by decide +kernel)
  have hf117 := hts (.fieldLink RX4 117 "SiloPads$Yard" "settings" "[I") (by decide +kernel)
  have hf20 := hts (.fieldLink RX4 20 "SiloPads" "savedStates" "I") (by decide +kernel)
  refine lv_iload_n hx hb dX4_count_0 rfl (lv_at hl 1 rfl) ?_
  refine lv_toI (y := v) rfl ?_
  by_cases c_1_0 : v = 0
  · skip
    refine lv_tableIn (off := 75) (tgt := 76) hx hb dX4_count_1 (by rw [c_1_0]; decide) (by rw [c_1_0]; decide) (by rw [c_1_0]; decide) (by decide) ?_
    subst c_1_0
    refine lv_aload_n hx hb dX4_count_76 rfl (lv_at hl 0 rfl) ?_
    refine g_get (ci := 4) (C := RX4) (T := TX4) (M := 8) hx hb hts hinX4 hown hK hG (by omega) cW_o rfl 0 (by decide) hf10 rfl rfl dX4_count_77 ?_
    refine g_get (ci := 3) (C := RX3) (T := TX3) (M := 9) hx hb hts hinX3 hown hK hG (by omega) cW_yo rfl 3 (by decide) hf213 rfl rfl dX4_count_80 ?_
    exact g_iret hx hb hr hlocks hK hG hS rfl dX4_count_83 ⟨(congrArg (fun z9 => some (Value.int z9)) (by rfl)), rfl⟩
  by_cases c_1_1 : v = 1
  · skip
    refine lv_tableIn (off := 83) (tgt := 84) hx hb dX4_count_1 (by rw [c_1_1]; decide) (by rw [c_1_1]; decide) (by rw [c_1_1]; decide) (by decide) ?_
    subst c_1_1
    refine lv_aload_n hx hb dX4_count_84 rfl (lv_at hl 0 rfl) ?_
    refine g_get (ci := 4) (C := RX4) (T := TX4) (M := 8) hx hb hts hinX4 hown hK hG (by omega) cW_o rfl 0 (by decide) hf10 rfl rfl dX4_count_85 ?_
    have hG : GW D N L (gA N L s.heap.size) (yW cy L (cW cy L F C) (1) (cY C)) _ := hG.to (by rw [cW_Y0 ])
    refine g_cVi (As := []) (rest := []) hx hb hml hown hts hK hA hG hS (k_X3_siloTonnes l D cy N L _ 1 (cY C)  (by omega)  (hy)) (cwV 0 hts gX4_count_X3_siloTonnes rfl rfl rfl (by decide +kernel) ⟨Nat.le_of_ble_eq_true rfl, Nat.le_of_ble_eq_true rfl⟩) (by omega) yW_o (ci := 3) rfl rfl rfl rfl hl.1 (Nat.le_of_ble_eq_true rfl) dX4_count_88 ⟨Nat.zero_le _, Nat.zero_le _⟩ (fun H locs hG hS => ?_)
    have hG : GW D N L (gA N L s.heap.size) (cW cy L F C) _ := hG.to (by rw [cW_Y0 ] <;> rfl)
    exact g_iret hx hb hr hlocks hK hG hS rfl dX4_count_91 ⟨(congrArg (fun z9 => some (Value.int z9)) (by rfl)), rfl⟩
  by_cases c_1_2 : v = 2
  · skip
    refine lv_tableIn (off := 91) (tgt := 92) hx hb dX4_count_1 (by rw [c_1_2]; decide) (by rw [c_1_2]; decide) (by rw [c_1_2]; decide) (by decide) ?_
    subst c_1_2
    refine lv_aload_n hx hb dX4_count_92 rfl (lv_at hl 0 rfl) ?_
    refine g_get (ci := 4) (C := RX4) (T := TX4) (M := 8) hx hb hts hinX4 hown hK hG (by omega) cW_o rfl 0 (by decide) hf10 rfl rfl dX4_count_93 ?_
    have hG : GW D N L (gA N L s.heap.size) (yW cy L (cW cy L F C) (1) (cY C)) _ := hG.to (by rw [cW_Y0 ])
    refine g_cVi (As := []) (rest := []) hx hb hml hown hts hK hA hG hS (k_X3_shipTonnes l D cy N L _ 1 (cY C)  (by omega)  ) (cwV 0 hts gX4_count_X3_shipTonnes rfl rfl rfl (by decide +kernel) ⟨Nat.le_of_ble_eq_true rfl, Nat.le_of_ble_eq_true rfl⟩) (by omega) yW_o (ci := 3) rfl rfl rfl rfl hl.1 (Nat.le_of_ble_eq_true rfl) dX4_count_96 ⟨Nat.zero_le _, Nat.zero_le _⟩ (fun H locs hG hS => ?_)
    have hG : GW D N L (gA N L s.heap.size) (cW cy L F C) _ := hG.to (by rw [cW_Y0 ] <;> rfl)
    exact g_iret hx hb hr hlocks hK hG hS rfl dX4_count_99 ⟨(congrArg (fun z9 => some (Value.int z9)) (by rfl)), rfl⟩
  by_cases c_1_3 : v = 3
  · skip
    refine lv_tableIn (off := 99) (tgt := 100) hx hb dX4_count_1 (by rw [c_1_3]; decide) (by rw [c_1_3]; decide) (by rw [c_1_3]; decide) (by decide) ?_
    subst c_1_3
    refine lv_aload_n hx hb dX4_count_100 rfl (lv_at hl 0 rfl) ?_
    refine g_get (ci := 4) (C := RX4) (T := TX4) (M := 8) hx hb hts hinX4 hown hK hG (by omega) cW_o rfl 0 (by decide) hf10 rfl rfl dX4_count_101 ?_
    refine g_get (ci := 3) (C := RX3) (T := TX3) (M := 9) hx hb hts hinX3 hown hK hG (by omega) cW_yo rfl 4 (by decide) hf222 rfl rfl dX4_count_104 ?_
    exact g_iret hx hb hr hlocks hK hG hS rfl dX4_count_107 ⟨(congrArg (fun z9 => some (Value.int z9)) (by rfl)), rfl⟩
  by_cases c_1_4 : v = 4
  · skip
    refine lv_tableIn (off := 107) (tgt := 108) hx hb dX4_count_1 (by rw [c_1_4]; decide) (by rw [c_1_4]; decide) (by rw [c_1_4]; decide) (by decide) ?_
    subst c_1_4
    refine lv_aload_n hx hb dX4_count_108 rfl (lv_at hl 0 rfl) ?_
    refine g_get (ci := 4) (C := RX4) (T := TX4) (M := 8) hx hb hts hinX4 hown hK hG (by omega) cW_o rfl 0 (by decide) hf10 rfl rfl dX4_count_109 ?_
    refine g_get (ci := 3) (C := RX3) (T := TX3) (M := 9) hx hb hts hinX3 hown hK hG (by omega) cW_yo rfl 5 (by decide) hf81 rfl rfl dX4_count_112 ?_
    exact g_iret hx hb hr hlocks hK hG hS rfl dX4_count_115 ⟨(congrArg (fun z9 => some (Value.int z9)) (by rfl)), rfl⟩
  by_cases c_1_5 : v = 5
  · skip
    refine lv_tableIn (off := 115) (tgt := 116) hx hb dX4_count_1 (by rw [c_1_5]; decide) (by rw [c_1_5]; decide) (by rw [c_1_5]; decide) (by decide) ?_
    subst c_1_5
    refine lv_aload_n hx hb dX4_count_116 rfl (lv_at hl 0 rfl) ?_
    refine g_get (ci := 4) (C := RX4) (T := TX4) (M := 8) hx hb hts hinX4 hown hK hG (by omega) cW_o rfl 0 (by decide) hf10 rfl rfl dX4_count_117 ?_
    refine g_get (ci := 3) (C := RX3) (T := TX3) (M := 9) hx hb hts hinX3 hown hK hG (by omega) cW_yo rfl 6 (by decide) hf84 rfl rfl dX4_count_120 ?_
    exact g_iret hx hb hr hlocks hK hG hS rfl dX4_count_123 ⟨(congrArg (fun z9 => some (Value.int z9)) (by rfl)), rfl⟩
  by_cases c_1_6 : v = 6
  · skip
    refine lv_tableIn (off := 123) (tgt := 124) hx hb dX4_count_1 (by rw [c_1_6]; decide) (by rw [c_1_6]; decide) (by rw [c_1_6]; decide) (by decide) ?_
    subst c_1_6
    refine lv_aload_n hx hb dX4_count_124 rfl (lv_at hl 0 rfl) ?_
    refine g_get (ci := 4) (C := RX4) (T := TX4) (M := 8) hx hb hts hinX4 hown hK hG (by omega) cW_o rfl 0 (by decide) hf10 rfl rfl dX4_count_125 ?_
    have hG : GW D N L (gA N L s.heap.size) (yW cy L (cW cy L F C) (1) (cY C)) _ := hG.to (by rw [cW_Y0 ])
    refine g_cVi (As := []) (rest := []) hx hb hml hown hts hK hA hG hS (k_X3_padsOn l D cy N L _ 1 (cY C)  (by omega)  ) (cwV 0 hts gX4_count_X3_padsOn rfl rfl rfl (by decide +kernel) ⟨Nat.le_of_ble_eq_true rfl, Nat.le_of_ble_eq_true rfl⟩) (by omega) yW_o (ci := 3) rfl rfl rfl rfl hl.1 (Nat.le_of_ble_eq_true rfl) dX4_count_128 ⟨Nat.zero_le _, Nat.zero_le _⟩ (fun H locs hG hS => ?_)
    have hG : GW D N L (gA N L s.heap.size) (cW cy L F C) _ := hG.to (by rw [cW_Y0 ] <;> rfl)
    exact g_iret hx hb hr hlocks hK hG hS rfl dX4_count_131 ⟨(congrArg (fun z9 => some (Value.int z9)) (by rfl)), rfl⟩
  by_cases c_1_7 : v = 7
  · skip
    refine lv_tableIn (off := 131) (tgt := 132) hx hb dX4_count_1 (by rw [c_1_7]; decide) (by rw [c_1_7]; decide) (by rw [c_1_7]; decide) (by decide) ?_
    subst c_1_7
    refine lv_aload_n hx hb dX4_count_132 rfl (lv_at hl 0 rfl) ?_
    refine g_get (ci := 4) (C := RX4) (T := TX4) (M := 8) hx hb hts hinX4 hown hK hG (by omega) cW_o rfl 0 (by decide) hf10 rfl rfl dX4_count_133 ?_
    have hG : GW D N L (gA N L s.heap.size) (yW cy L (cW cy L F C) (1) (cY C)) _ := hG.to (by rw [cW_Y0 ])
    refine g_cVi (As := []) (rest := []) hx hb hml hown hts hK hA hG hS (k_X3_arches l D cy N L _ 1 (cY C)  (by omega)  ) (cwV 0 hts gX4_count_X3_arches rfl rfl rfl (by decide +kernel) ⟨Nat.le_of_ble_eq_true rfl, Nat.le_of_ble_eq_true rfl⟩) (by omega) yW_o (ci := 3) rfl rfl rfl rfl hl.1 (Nat.le_of_ble_eq_true rfl) dX4_count_136 ⟨Nat.zero_le _, Nat.zero_le _⟩ (fun H locs hG hS => ?_)
    have hG : GW D N L (gA N L s.heap.size) (cW cy L F C) _ := hG.to (by rw [cW_Y0 ] <;> rfl)
    exact g_iret hx hb hr hlocks hK hG hS rfl dX4_count_139 ⟨(congrArg (fun z9 => some (Value.int z9)) (by rfl)), rfl⟩
  by_cases c_1_8 : v = 8
  · skip
    refine lv_tableIn (off := 139) (tgt := 140) hx hb dX4_count_1 (by rw [c_1_8]; decide) (by rw [c_1_8]; decide) (by rw [c_1_8]; decide) (by decide) ?_
    subst c_1_8
    refine lv_aload_n hx hb dX4_count_140 rfl (lv_at hl 0 rfl) ?_
    refine g_get (ci := 4) (C := RX4) (T := TX4) (M := 8) hx hb hts hinX4 hown hK hG (by omega) cW_o rfl 0 (by decide) hf10 rfl rfl dX4_count_141 ?_
    refine g_get (ci := 3) (C := RX3) (T := TX3) (M := 9) hx hb hts hinX3 hown hK hG (by omega) cW_yo rfl 7 (by decide) hf137 rfl rfl dX4_count_144 ?_
    exact g_iret hx hb hr hlocks hK hG hS rfl dX4_count_147 ⟨(congrArg (fun z9 => some (Value.int z9)) (by rfl)), rfl⟩
  by_cases c_1_9 : v = 9
  · skip
    refine lv_tableIn (off := 147) (tgt := 148) hx hb dX4_count_1 (by rw [c_1_9]; decide) (by rw [c_1_9]; decide) (by rw [c_1_9]; decide) (by decide) ?_
    subst c_1_9
    refine lv_aload_n hx hb dX4_count_148 rfl (lv_at hl 0 rfl) ?_
    refine g_get (ci := 4) (C := RX4) (T := TX4) (M := 8) hx hb hts hinX4 hown hK hG (by omega) cW_o rfl 0 (by decide) hf10 rfl rfl dX4_count_149 ?_
    refine g_get (ci := 3) (C := RX3) (T := TX3) (M := 9) hx hb hts hinX3 hown hK hG (by omega) cW_yo rfl 8 (by decide) hf228 rfl rfl dX4_count_152 ?_
    exact g_iret hx hb hr hlocks hK hG hS rfl dX4_count_155 ⟨(congrArg (fun z9 => some (Value.int z9)) (by rfl)), rfl⟩
  by_cases c_1_10 : v = 10
  · skip
    refine lv_tableIn (off := 155) (tgt := 156) hx hb dX4_count_1 (by rw [c_1_10]; decide) (by rw [c_1_10]; decide) (by rw [c_1_10]; decide) (by decide) ?_
    subst c_1_10
    refine lv_aload_n hx hb dX4_count_156 rfl (lv_at hl 0 rfl) ?_
    refine g_get (ci := 4) (C := RX4) (T := TX4) (M := 8) hx hb hts hinX4 hown hK hG (by omega) cW_o rfl 0 (by decide) hf10 rfl rfl dX4_count_157 ?_
    refine g_get (ci := 3) (C := RX3) (T := TX3) (M := 9) hx hb hts hinX3 hown hK hG (by omega) cW_yo rfl 2 (by decide) hf117 rfl rfl dX4_count_160 ?_
    refine lv_iload_n hx hb dX4_count_163 rfl (lv_at hl 1 rfl) ?_
    refine lv_bipush (v := 10) hx hb dX4_count_164 (by decide) ?_
    refine lv_isub hx hb dX4_count_166 ?_
    refine lv_toI (y := 0) (by decide) ?_
    refine g_iald hx hb hK hG (by omega) cW_yz (k := 0) rfl (by omega) (by decide) dX4_count_167 ?_
    exact g_iret hx hb hr hlocks hK hG hS rfl dX4_count_168 ⟨(congrArg (fun z9 => some (Value.int z9)) (by rfl)), rfl⟩
  by_cases c_1_11 : v = 11
  · skip
    refine lv_tableIn (off := 155) (tgt := 156) hx hb dX4_count_1 (by rw [c_1_11]; decide) (by rw [c_1_11]; decide) (by rw [c_1_11]; decide) (by decide) ?_
    subst c_1_11
    refine lv_aload_n hx hb dX4_count_156 rfl (lv_at hl 0 rfl) ?_
    refine g_get (ci := 4) (C := RX4) (T := TX4) (M := 8) hx hb hts hinX4 hown hK hG (by omega) cW_o rfl 0 (by decide) hf10 rfl rfl dX4_count_157 ?_
    refine g_get (ci := 3) (C := RX3) (T := TX3) (M := 9) hx hb hts hinX3 hown hK hG (by omega) cW_yo rfl 2 (by decide) hf117 rfl rfl dX4_count_160 ?_
    refine lv_iload_n hx hb dX4_count_163 rfl (lv_at hl 1 rfl) ?_
    refine lv_bipush (v := 10) hx hb dX4_count_164 (by decide) ?_
    refine lv_isub hx hb dX4_count_166 ?_
    refine lv_toI (y := 1) (by decide) ?_
    refine g_iald hx hb hK hG (by omega) cW_yz (k := 1) rfl (by omega) (by decide) dX4_count_167 ?_
    exact g_iret hx hb hr hlocks hK hG hS rfl dX4_count_168 ⟨(congrArg (fun z9 => some (Value.int z9)) (by rfl)), rfl⟩
  by_cases c_1_12 : v = 12
  · skip
    refine lv_tableIn (off := 155) (tgt := 156) hx hb dX4_count_1 (by rw [c_1_12]; decide) (by rw [c_1_12]; decide) (by rw [c_1_12]; decide) (by decide) ?_
    subst c_1_12
    refine lv_aload_n hx hb dX4_count_156 rfl (lv_at hl 0 rfl) ?_
    refine g_get (ci := 4) (C := RX4) (T := TX4) (M := 8) hx hb hts hinX4 hown hK hG (by omega) cW_o rfl 0 (by decide) hf10 rfl rfl dX4_count_157 ?_
    refine g_get (ci := 3) (C := RX3) (T := TX3) (M := 9) hx hb hts hinX3 hown hK hG (by omega) cW_yo rfl 2 (by decide) hf117 rfl rfl dX4_count_160 ?_
    refine lv_iload_n hx hb dX4_count_163 rfl (lv_at hl 1 rfl) ?_
    refine lv_bipush (v := 10) hx hb dX4_count_164 (by decide) ?_
    refine lv_isub hx hb dX4_count_166 ?_
    refine lv_toI (y := 2) (by decide) ?_
    refine g_iald hx hb hK hG (by omega) cW_yz (k := 2) rfl (by omega) (by decide) dX4_count_167 ?_
    exact g_iret hx hb hr hlocks hK hG hS rfl dX4_count_168 ⟨(congrArg (fun z9 => some (Value.int z9)) (by rfl)), rfl⟩
  by_cases c_1_13 : v = 13
  · skip
    refine lv_tableIn (off := 155) (tgt := 156) hx hb dX4_count_1 (by rw [c_1_13]; decide) (by rw [c_1_13]; decide) (by rw [c_1_13]; decide) (by decide) ?_
    subst c_1_13
    refine lv_aload_n hx hb dX4_count_156 rfl (lv_at hl 0 rfl) ?_
    refine g_get (ci := 4) (C := RX4) (T := TX4) (M := 8) hx hb hts hinX4 hown hK hG (by omega) cW_o rfl 0 (by decide) hf10 rfl rfl dX4_count_157 ?_
    refine g_get (ci := 3) (C := RX3) (T := TX3) (M := 9) hx hb hts hinX3 hown hK hG (by omega) cW_yo rfl 2 (by decide) hf117 rfl rfl dX4_count_160 ?_
    refine lv_iload_n hx hb dX4_count_163 rfl (lv_at hl 1 rfl) ?_
    refine lv_bipush (v := 10) hx hb dX4_count_164 (by decide) ?_
    refine lv_isub hx hb dX4_count_166 ?_
    refine lv_toI (y := 3) (by decide) ?_
    refine g_iald hx hb hK hG (by omega) cW_yz (k := 3) rfl (by omega) (by decide) dX4_count_167 ?_
    exact g_iret hx hb hr hlocks hK hG hS rfl dX4_count_168 ⟨(congrArg (fun z9 => some (Value.int z9)) (by rfl)), rfl⟩
  by_cases c_1_14 : v = 14
  · skip
    refine lv_tableIn (off := 168) (tgt := 169) hx hb dX4_count_1 (by rw [c_1_14]; decide) (by rw [c_1_14]; decide) (by rw [c_1_14]; decide) (by decide) ?_
    subst c_1_14
    refine lv_aload_n hx hb dX4_count_169 rfl (lv_at hl 0 rfl) ?_
    refine g_get (ci := 4) (C := RX4) (T := TX4) (M := 8) hx hb hts hinX4 hown hK hG (by omega) cW_o rfl 2 (by decide) hf20 rfl rfl dX4_count_170 ?_
    exact g_iret hx hb hr hlocks hK hG hS rfl dX4_count_173 ⟨(congrArg (fun z9 => some (Value.int z9)) (by rfl)), rfl⟩
  rcases hv with h9 | h9 | h9 | h9 | h9 | h9 | h9 | h9 | h9 | h9 | h9 | h9 | h9 | h9 | h9 <;> first | exact absurd h9 c_1_0 | exact absurd h9 c_1_1 | exact absurd h9 c_1_2 | exact absurd h9 c_1_3 | exact absurd h9 c_1_4 | exact absurd h9 c_1_5 | exact absurd h9 c_1_6 | exact absurd h9 c_1_7 | exact absurd h9 c_1_8 | exact absurd h9 c_1_9 | exact absurd h9 c_1_10 | exact absurd h9 c_1_11 | exact absurd h9 c_1_12 | exact absurd h9 c_1_13 | exact absurd h9 c_1_14
end
section
set_option maxRecDepth 20000 in
theorem in0_wsL_law0_r1 : ∀ w ∈ wsL_law0_r1, w ∈ lw_tbl := fun w h => (goodIn_p wsL_law0_r1 [30, 33] (by decide +kernel) (by decide +kernel) w h).1
set_option maxRecDepth 20000 in
theorem in0_wsL_law0_r2 : ∀ w ∈ wsL_law0_r2, w ∈ lw_tbl := fun w h => (goodIn_p wsL_law0_r2 [38] (by decide +kernel) (by decide +kernel) w h).1
set_option maxRecDepth 20000 in
theorem in0_wsL_law0_r3 : ∀ w ∈ wsL_law0_r3, w ∈ lw_tbl := fun w h => (goodIn_p wsL_law0_r3 [56, 89, 143] (by decide +kernel) (by decide +kernel) w h).1
set_option maxRecDepth 20000 in
theorem in0_wsL_law0_r4 : ∀ w ∈ wsL_law0_r4, w ∈ lw_tbl := fun w h => (goodIn_p wsL_law0_r4 [320, 277, 281] (by decide +kernel) (by decide +kernel) w h).1
set_option maxRecDepth 20000 in
theorem in0_wsL_law0_r5 : ∀ w ∈ wsL_law0_r5, w ∈ lw_tbl := fun w h => (goodIn_p wsL_law0_r5 [285, 289, 293, 297, 301] (by decide +kernel) (by decide +kernel) w h).1
set_option maxRecDepth 20000 in
theorem in0_wsL_law0_r6 : ∀ w ∈ wsL_law0_r6, w ∈ lw_tbl := fun w h => (goodIn_p wsL_law0_r6 [193, 265, 269, 273, 323, 329] (by decide +kernel) (by decide +kernel) w h).1
set_option maxRecDepth 20000 in
theorem in0_wsL_law0_r7 : ∀ w ∈ wsL_law0_r7, w ∈ lw_tbl := fun w h => (goodIn_p wsL_law0_r7 [332, 353, 357, 362] (by decide +kernel) (by decide +kernel) w h).1
set_option maxRecDepth 20000 in
theorem in0_wsL_law0_r8 : ∀ w ∈ wsL_law0_r8, w ∈ lw_tbl := fun w h => (goodIn_p wsL_law0_r8 [368, 371, 376, 379, 384] (by decide +kernel) (by decide +kernel) w h).1
set_option maxRecDepth 20000 in
theorem in0_wsL_law0_r9 : ∀ w ∈ wsL_law0_r9, w ∈ lw_tbl := fun w h => (goodIn_p wsL_law0_r9 [389, 393, 399, 411, 403, 408] (by decide +kernel) (by decide +kernel) w h).1
set_option maxRecDepth 20000 in
theorem in0_wsL_law0_r10 : ∀ w ∈ wsL_law0_r10, w ∈ lw_tbl := fun w h => (goodIn_p wsL_law0_r10 [416, 420, 425, 429, 433, 437] (by decide +kernel) (by decide +kernel) w h).1
set_option maxRecDepth 20000 in
theorem in0_wsL_law0_r11 : ∀ w ∈ wsL_law0_r11, w ∈ lw_tbl := fun w h => (goodIn_p wsL_law0_r11 [441, 445, 449, 455, 460, 467] (by decide +kernel) (by decide +kernel) w h).1
set_option maxRecDepth 20000 in
theorem in0_wsL_law0_r12 : ∀ w ∈ wsL_law0_r12, w ∈ lw_tbl := fun w h => (goodIn_p wsL_law0_r12 [464, 471, 476, 487, 492] (by decide +kernel) (by decide +kernel) w h).1
set_option maxRecDepth 20000 in
theorem in0_wsL_law0_r13 : ∀ w ∈ wsL_law0_r13, w ∈ lw_tbl := fun w h => (goodIn_p wsL_law0_r13 [496, 500, 504, 507, 511, 515] (by decide +kernel) (by decide +kernel) w h).1
set_option maxRecDepth 20000 in
theorem in0_wsL_law0_r14 : ∀ w ∈ wsL_law0_r14, w ∈ lw_tbl := fun w h => (goodIn_p wsL_law0_r14 [519, 522, 526, 530] (by decide +kernel) (by decide +kernel) w h).1
theorem in0_wsX40 : ∀ w ∈ wsX40, w ∈ lw_tbl := by decide +kernel
theorem in0_wsX30 : ∀ w ∈ wsX30, w ∈ lw_tbl := by decide +kernel
theorem in0_wsX20 : ∀ w ∈ wsX20, w ∈ lw_tbl := by decide +kernel
theorem in0_wsX10 : ∀ w ∈ wsX10, w ∈ lw_tbl := by decide +kernel
theorem in0_wsX00 : ∀ w ∈ wsX00, w ∈ lw_tbl := by decide +kernel
theorem wsL_law_in0 : ∀ w ∈ wsL_law0, w ∈ lw_tbl := List.forall_mem_append.mpr ⟨List.forall_mem_append.mpr ⟨List.forall_mem_append.mpr ⟨List.forall_mem_append.mpr ⟨List.forall_mem_append.mpr ⟨List.forall_mem_append.mpr ⟨List.forall_mem_append.mpr ⟨in0_wsL_law0_r1, List.forall_mem_append.mpr ⟨in0_wsL_law0_r2, List.forall_mem_append.mpr ⟨in0_wsL_law0_r3, List.forall_mem_append.mpr ⟨in0_wsL_law0_r4, List.forall_mem_append.mpr ⟨in0_wsL_law0_r5, List.forall_mem_append.mpr ⟨in0_wsL_law0_r6, List.forall_mem_append.mpr ⟨in0_wsL_law0_r7, List.forall_mem_append.mpr ⟨in0_wsL_law0_r8, List.forall_mem_append.mpr ⟨in0_wsL_law0_r9, List.forall_mem_append.mpr ⟨in0_wsL_law0_r10, List.forall_mem_append.mpr ⟨in0_wsL_law0_r11, List.forall_mem_append.mpr ⟨in0_wsL_law0_r12, List.forall_mem_append.mpr ⟨in0_wsL_law0_r13, in0_wsL_law0_r14⟩⟩⟩⟩⟩⟩⟩⟩⟩⟩⟩⟩⟩, in0_wsX40⟩, in0_wsX30⟩, in0_wsX20⟩, in0_wsX10⟩, in0_wsX00⟩, fun _ h => absurd h List.not_mem_nil⟩
theorem wsL_law_x0 : ∀ w ∈ (vx_atS RX4 67 "java/lang/IllegalArgumentException" ["java/lang/RuntimeException", "java/lang/Exception"]).filter goodWord, w ∈ lw_tbl := by decide +kernel
theorem wsL_law_x1 : ∀ w ∈ (vx_atS RX4 124 "java/lang/IllegalStateException" ["java/lang/RuntimeException", "java/lang/Exception"]).filter goodWord, w ∈ lw_tbl := by decide +kernel
theorem wsL_law_x2 : ∀ w ∈ (vx_atS RX4 60 "java/lang/IndexOutOfBoundsException" ["java/lang/RuntimeException", "java/lang/Exception"]).filter goodWord, w ∈ lw_tbl := by decide +kernel
theorem wsL_law_in : ∀ w ∈ wsL_law, w ∈ lw_tbl := fun w h => (List.mem_append.mp h).elim (fun h => (List.mem_append.mp h).elim (fun h => (List.mem_append.mp h).elim (fun h => wsL_law_in0 w h) (fun h => wsL_law_x0 w h)) (fun h => wsL_law_x1 w h)) (fun h => wsL_law_x2 w h)
theorem inlX0 : ∀ w ∈ wsX00, w ∈ wsL_law := fun _ h => List.mem_append_left _ (List.mem_append_left _ (List.mem_append_left _ (List.mem_append_left _ (List.mem_append_right _ h))))
theorem inX0 : ∀ w ∈ wsX00, w ∈ lw_tbl := fun w h => wsL_law_in w (inlX0 w h)
theorem inlX1 : ∀ w ∈ wsX10, w ∈ wsL_law := fun _ h => List.mem_append_left _ (List.mem_append_left _ (List.mem_append_left _ (List.mem_append_left _ (List.mem_append_left _ (List.mem_append_right _ h)))))
theorem inX1 : ∀ w ∈ wsX10, w ∈ lw_tbl := fun w h => wsL_law_in w (inlX1 w h)
theorem inlX2 : ∀ w ∈ wsX20, w ∈ wsL_law := fun _ h => List.mem_append_left _ (List.mem_append_left _ (List.mem_append_left _ (List.mem_append_left _ (List.mem_append_left _ (List.mem_append_left _ (List.mem_append_right _ h))))))
theorem inX2 : ∀ w ∈ wsX20, w ∈ lw_tbl := fun w h => wsL_law_in w (inlX2 w h)
theorem inlX3 : ∀ w ∈ wsX30, w ∈ wsL_law := fun _ h => List.mem_append_left _ (List.mem_append_left _ (List.mem_append_left _ (List.mem_append_left _ (List.mem_append_left _ (List.mem_append_left _ (List.mem_append_left _ (List.mem_append_right _ h)))))))
theorem inX3 : ∀ w ∈ wsX30, w ∈ lw_tbl := fun w h => wsL_law_in w (inlX3 w h)
theorem inlX4 : ∀ w ∈ wsX40, w ∈ wsL_law := fun _ h => List.mem_append_left _ (List.mem_append_left _ (List.mem_append_left _ (List.mem_append_left _ (List.mem_append_left _ (List.mem_append_left _ (List.mem_append_left _ (List.mem_append_left _ (List.mem_append_right _ h))))))))
theorem inX4 : ∀ w ∈ wsX40, w ∈ lw_tbl := fun w h => wsL_law_in w (inlX4 w h)
theorem inX5 : ∀ w ∈ wsX50, w ∈ lw_tbl := by decide +kernel
theorem inJx8e188 : ∀ w ∈ wsJx8e1880, w ∈ lw_tbl := by decide +kernel
theorem inJ9 : ∀ w ∈ wsJ90, w ∈ lw_tbl := by decide +kernel
theorem inJ0 : ∀ w ∈ wsJ00, w ∈ lw_tbl := by decide +kernel
end
section
theorem dL_cell_0 : decode cL_cell 0 = .ok (.iload_n 1, 1) := by decide +kernel
theorem dL_cell_1 : decode cL_cell 1 = .ok (.aload_n 0, 1) := by decide +kernel
theorem dL_cell_2 : decode cL_cell 2 = .ok (.arraylength, 1) := by decide +kernel
theorem dL_cell_3 : decode cL_cell 3 = .ok (.if_icmp .ge 9, 3) := by decide +kernel
theorem dL_cell_6 : decode cL_cell 6 = .ok (.aload_n 0, 1) := by decide +kernel
theorem dL_cell_7 : decode cL_cell 7 = .ok (.iload_n 1, 1) := by decide +kernel
theorem dL_cell_8 : decode cL_cell 8 = .ok (.iaload, 1) := by decide +kernel
theorem dL_cell_9 : decode cL_cell 9 = .ok (.goto 15, 3) := by decide +kernel
theorem dL_cell_12 : decode cL_cell 12 = .ok (.sipush 7919, 3) := by decide +kernel
theorem dL_cell_15 : decode cL_cell 15 = .ok (.iload_n 1, 1) := by decide +kernel
theorem dL_cell_16 : decode cL_cell 16 = .ok (.iconst 3, 1) := by decide +kernel
theorem dL_cell_17 : decode cL_cell 17 = .ok (.iadd, 1) := by decide +kernel
theorem dL_cell_18 : decode cL_cell 18 = .ok (.imul, 1) := by decide +kernel
theorem dL_cell_19 : decode cL_cell 19 = .ok (.iload_n 1, 1) := by decide +kernel
theorem dL_cell_20 : decode cL_cell 20 = .ok (.bipush 11, 2) := by decide +kernel
theorem dL_cell_22 : decode cL_cell 22 = .ok (.iadd, 1) := by decide +kernel
theorem dL_cell_23 : decode cL_cell 23 = .ok (.imul, 1) := by decide +kernel
theorem dL_cell_24 : decode cL_cell 24 = .ok (.ireturn, 1) := by decide +kernel
theorem dL_low_0 : decode cL_low 0 = .ok (.iload_n 0, 1) := by decide +kernel
theorem dL_low_1 : decode cL_low 1 = .ok (.ldc 7, 2) := by decide +kernel
theorem dL_low_3 : decode cL_low 3 = .ok (.iand, 1) := by decide +kernel
theorem dL_low_4 : decode cL_low 4 = .ok (.iload_n 1, 1) := by decide +kernel
theorem dL_low_5 : decode cL_low 5 = .ok (.irem, 1) := by decide +kernel
theorem dL_low_6 : decode cL_low 6 = .ok (.ireturn, 1) := by decide +kernel
set_option maxRecDepth 20000 in
theorem ggL_told_X4_count : GoodIn wsL_told wsX4_count := goodIn_ca (goodIn_r _ [7, 8, 9, 10, 11, 12, 13, 14, 15, 16, 17, 18, 19, 20, 21, 22, 23, 24, 25, 26, 27, 28, 29, 30, 31, 32, 33, 34, 35, 36, 37, 38, 39, 40, 41, 42, 43, 44, 45, 46, 47, 48, 49, 50, 51, 91, 92, 93, 94, 95, 96, 97, 98, 99, 100, 101, 102, 103, 104, 105, 106, 107, 108, 109, 110, 111, 112, 113, 114, 115] (by decide +kernel) (by decide +kernel)) (goodIn_sub (fun _ h => List.mem_cons_of_mem _ (List.mem_append_left _ (List.mem_append_right _ h))) (by decide +kernel))
set_option maxRecDepth 20000 in
theorem gL_told_X4_count : GoodIn wsL_told (wsV RL 12 RX4 yX4_count wsX4_count) := goodIn_app (goodIn_of _ (by decide +kernel)) ggL_told_X4_count
set_option maxRecDepth 20000 in
theorem ggL_told_X4_silo : GoodIn wsL_told wsX4_silo := goodIn_ca (goodIn_ca (goodIn_r _ [55, 56, 57, 8, 9, 10, 58, 59, 60, 61, 62, 63, 64, 6, 65, 66, 26, 27, 28, 29, 30, 31, 32, 33, 34, 35, 67, 68, 69, 70, 71, 72, 73, 74, 75, 17, 91, 92, 93, 94, 95, 96, 97, 98, 99, 100, 101, 102, 103, 104, 105, 106, 107, 108, 109, 110, 111, 112, 113] (by decide +kernel) (by decide +kernel)) (goodIn_sub (fun _ h => List.mem_cons_of_mem _ (List.mem_append_right _ h)) (by decide +kernel))) (goodIn_sub (fun _ h => List.mem_cons_of_mem _ (List.mem_append_left _ (List.mem_append_right _ h))) (by decide +kernel))
set_option maxRecDepth 20000 in
theorem gL_told_X4_silo : GoodIn wsL_told (wsV RL 18 RX4 yX4_silo wsX4_silo) := goodIn_app (goodIn_of _ (by decide +kernel)) ggL_told_X4_silo
set_option maxRecDepth 20000 in
theorem ggL_told_X4_layer : GoodIn wsL_told wsX4_layer := goodIn_ca (goodIn_ca (goodIn_r _ [79, 56, 57, 8, 9, 10, 58, 59, 80, 71, 63, 64, 6, 65, 72, 73, 74, 75, 17, 91, 92, 93, 94, 95, 96, 97, 98, 99, 100, 101, 102, 103, 104, 105, 106, 107, 108, 109, 110, 111, 112, 113] (by decide +kernel) (by decide +kernel)) (goodIn_sub (fun _ h => List.mem_cons_of_mem _ (List.mem_append_right _ h)) (by decide +kernel))) (goodIn_sub (fun _ h => List.mem_cons_of_mem _ (List.mem_append_left _ (List.mem_append_right _ h))) (by decide +kernel))
set_option maxRecDepth 20000 in
theorem gL_told_X4_layer : GoodIn wsL_told (wsV RL 22 RX4 yX4_layer wsX4_layer) := goodIn_app (goodIn_of _ (by decide +kernel)) ggL_told_X4_layer
set_option maxRecDepth 20000 in
theorem ggL_told_X4_shipOf : GoodIn wsL_told wsX4_shipOf := goodIn_ca (goodIn_ca (goodIn_r _ [84, 56, 57, 8, 9, 10, 85, 86, 87, 88, 89, 6, 90, 91, 92, 93, 94, 95, 96, 97, 98, 99, 100, 101, 102, 103, 104, 105, 106, 107, 114, 115] (by decide +kernel) (by decide +kernel)) (goodIn_sub (fun _ h => List.mem_cons_of_mem _ (List.mem_append_right _ h)) (by decide +kernel))) (goodIn_sub (fun _ h => List.mem_cons_of_mem _ (List.mem_append_left _ (List.mem_append_right _ h))) (by decide +kernel))
set_option maxRecDepth 20000 in
theorem gL_told_X4_shipOf : GoodIn wsL_told (wsV RL 26 RX4 yX4_shipOf wsX4_shipOf) := goodIn_app (goodIn_of _ (by decide +kernel)) ggL_told_X4_shipOf
theorem dL_told_0 : decode cL_told 0 = .ok (.ldc2_w 8, 3) := by decide +kernel
theorem dL_told_3 : decode cL_told 3 = .ok (.lstore_n 1, 1) := by decide +kernel
theorem dL_told_4 : decode cL_told 4 = .ok (.iconst 0, 1) := by decide +kernel
theorem dL_told_5 : decode cL_told 5 = .ok (.istore_n 3, 1) := by decide +kernel
theorem dL_told_6 : decode cL_told 6 = .ok (.iload_n 3, 1) := by decide +kernel
theorem dL_told_7 : decode cL_told 7 = .ok (.bipush 14, 2) := by decide +kernel
theorem dL_told_9 : decode cL_told 9 = .ok (.if_icmp .ge 22, 3) := by decide +kernel
theorem dL_told_12 : decode cL_told 12 = .ok (.ldc2_w 10, 3) := by decide +kernel
theorem dL_told_15 : decode cL_told 15 = .ok (.lload_n 1, 1) := by decide +kernel
theorem dL_told_16 : decode cL_told 16 = .ok (.lmul, 1) := by decide +kernel
theorem dL_told_17 : decode cL_told 17 = .ok (.aload_n 0, 1) := by decide +kernel
theorem dL_told_18 : decode cL_told 18 = .ok (.iload_n 3, 1) := by decide +kernel
theorem dL_told_19 : decode cL_told 19 = .ok (.invokevirtual 12, 3) := by decide +kernel
theorem dL_told_22 : decode cL_told 22 = .ok (.i2l, 1) := by decide +kernel
theorem dL_told_23 : decode cL_told 23 = .ok (.ladd, 1) := by decide +kernel
theorem dL_told_24 : decode cL_told 24 = .ok (.lstore_n 1, 1) := by decide +kernel
theorem dL_told_25 : decode cL_told 25 = .ok (.iinc 3 1, 3) := by decide +kernel
theorem dL_told_28 : decode cL_told 28 = .ok (.goto (-22), 3) := by decide +kernel
theorem dL_told_31 : decode cL_told 31 = .ok (.iconst 0, 1) := by decide +kernel
theorem dL_told_32 : decode cL_told 32 = .ok (.istore_n 3, 1) := by decide +kernel
theorem dL_told_33 : decode cL_told 33 = .ok (.iload_n 3, 1) := by decide +kernel
theorem dL_told_34 : decode cL_told 34 = .ok (.iconst 4, 1) := by decide +kernel
theorem dL_told_35 : decode cL_told 35 = .ok (.if_icmp .ge 90, 3) := by decide +kernel
theorem dL_told_38 : decode cL_told 38 = .ok (.iconst 0, 1) := by decide +kernel
theorem dL_told_39 : decode cL_told 39 = .ok (.istore 4, 2) := by decide +kernel
theorem dL_told_41 : decode cL_told 41 = .ok (.iload 4, 2) := by decide +kernel
theorem dL_told_43 : decode cL_told 43 = .ok (.bipush 6, 2) := by decide +kernel
theorem dL_told_45 : decode cL_told 45 = .ok (.if_icmp .ge 24, 3) := by decide +kernel
theorem dL_told_48 : decode cL_told 48 = .ok (.ldc2_w 10, 3) := by decide +kernel
theorem dL_told_51 : decode cL_told 51 = .ok (.lload_n 1, 1) := by decide +kernel
theorem dL_told_52 : decode cL_told 52 = .ok (.lmul, 1) := by decide +kernel
theorem dL_told_53 : decode cL_told 53 = .ok (.aload_n 0, 1) := by decide +kernel
theorem dL_told_54 : decode cL_told 54 = .ok (.iload_n 3, 1) := by decide +kernel
theorem dL_told_55 : decode cL_told 55 = .ok (.iload 4, 2) := by decide +kernel
theorem dL_told_57 : decode cL_told 57 = .ok (.invokevirtual 18, 3) := by decide +kernel
theorem dL_told_60 : decode cL_told 60 = .ok (.i2l, 1) := by decide +kernel
theorem dL_told_61 : decode cL_told 61 = .ok (.ladd, 1) := by decide +kernel
theorem dL_told_62 : decode cL_told 62 = .ok (.lstore_n 1, 1) := by decide +kernel
theorem dL_told_63 : decode cL_told 63 = .ok (.iinc 4 1, 3) := by decide +kernel
theorem dL_told_66 : decode cL_told 66 = .ok (.goto (-25), 3) := by decide +kernel
theorem dL_told_69 : decode cL_told 69 = .ok (.iconst 0, 1) := by decide +kernel
theorem dL_told_70 : decode cL_told 70 = .ok (.istore 4, 2) := by decide +kernel
theorem dL_told_72 : decode cL_told 72 = .ok (.iload 4, 2) := by decide +kernel
theorem dL_told_74 : decode cL_told 74 = .ok (.aload_n 0, 1) := by decide +kernel
theorem dL_told_75 : decode cL_told 75 = .ok (.iload_n 3, 1) := by decide +kernel
theorem dL_told_76 : decode cL_told 76 = .ok (.iconst 1, 1) := by decide +kernel
theorem dL_told_77 : decode cL_told 77 = .ok (.invokevirtual 18, 3) := by decide +kernel
theorem dL_told_80 : decode cL_told 80 = .ok (.if_icmp .ge 39, 3) := by decide +kernel
theorem dL_told_83 : decode cL_told 83 = .ok (.ldc2_w 10, 3) := by decide +kernel
theorem dL_told_86 : decode cL_told 86 = .ok (.ldc2_w 10, 3) := by decide +kernel
theorem dL_told_89 : decode cL_told 89 = .ok (.lload_n 1, 1) := by decide +kernel
theorem dL_told_90 : decode cL_told 90 = .ok (.lmul, 1) := by decide +kernel
theorem dL_told_91 : decode cL_told 91 = .ok (.aload_n 0, 1) := by decide +kernel
theorem dL_told_92 : decode cL_told 92 = .ok (.iload_n 3, 1) := by decide +kernel
theorem dL_told_93 : decode cL_told 93 = .ok (.iload 4, 2) := by decide +kernel
theorem dL_told_95 : decode cL_told 95 = .ok (.iconst 0, 1) := by decide +kernel
theorem dL_told_96 : decode cL_told 96 = .ok (.invokevirtual 22, 3) := by decide +kernel
theorem dL_told_99 : decode cL_told 99 = .ok (.i2l, 1) := by decide +kernel
theorem dL_told_100 : decode cL_told 100 = .ok (.ladd, 1) := by decide +kernel
theorem dL_told_101 : decode cL_told 101 = .ok (.lmul, 1) := by decide +kernel
theorem dL_told_102 : decode cL_told 102 = .ok (.aload_n 0, 1) := by decide +kernel
theorem dL_told_103 : decode cL_told 103 = .ok (.iload_n 3, 1) := by decide +kernel
theorem dL_told_104 : decode cL_told 104 = .ok (.iload 4, 2) := by decide +kernel
theorem dL_told_106 : decode cL_told 106 = .ok (.iconst 1, 1) := by decide +kernel
theorem dL_told_107 : decode cL_told 107 = .ok (.invokevirtual 22, 3) := by decide +kernel
theorem dL_told_110 : decode cL_told 110 = .ok (.i2l, 1) := by decide +kernel
theorem dL_told_111 : decode cL_told 111 = .ok (.ladd, 1) := by decide +kernel
theorem dL_told_112 : decode cL_told 112 = .ok (.lstore_n 1, 1) := by decide +kernel
theorem dL_told_113 : decode cL_told 113 = .ok (.iinc 4 1, 3) := by decide +kernel
theorem dL_told_116 : decode cL_told 116 = .ok (.goto (-44), 3) := by decide +kernel
theorem dL_told_119 : decode cL_told 119 = .ok (.iinc 3 1, 3) := by decide +kernel
theorem dL_told_122 : decode cL_told 122 = .ok (.goto (-89), 3) := by decide +kernel
theorem dL_told_125 : decode cL_told 125 = .ok (.iconst 0, 1) := by decide +kernel
theorem dL_told_126 : decode cL_told 126 = .ok (.istore_n 3, 1) := by decide +kernel
theorem dL_told_127 : decode cL_told 127 = .ok (.iload_n 3, 1) := by decide +kernel
theorem dL_told_128 : decode cL_told 128 = .ok (.bipush 6, 2) := by decide +kernel
theorem dL_told_130 : decode cL_told 130 = .ok (.if_icmp .ge 35, 3) := by decide +kernel
theorem dL_told_133 : decode cL_told 133 = .ok (.ldc2_w 10, 3) := by decide +kernel
theorem dL_told_136 : decode cL_told 136 = .ok (.ldc2_w 10, 3) := by decide +kernel
theorem dL_told_139 : decode cL_told 139 = .ok (.lload_n 1, 1) := by decide +kernel
theorem dL_told_140 : decode cL_told 140 = .ok (.lmul, 1) := by decide +kernel
theorem dL_told_141 : decode cL_told 141 = .ok (.aload_n 0, 1) := by decide +kernel
theorem dL_told_142 : decode cL_told 142 = .ok (.iload_n 3, 1) := by decide +kernel
theorem dL_told_143 : decode cL_told 143 = .ok (.iconst 0, 1) := by decide +kernel
theorem dL_told_144 : decode cL_told 144 = .ok (.invokevirtual 26, 3) := by decide +kernel
theorem dL_told_147 : decode cL_told 147 = .ok (.i2l, 1) := by decide +kernel
theorem dL_told_148 : decode cL_told 148 = .ok (.ladd, 1) := by decide +kernel
theorem dL_told_149 : decode cL_told 149 = .ok (.lmul, 1) := by decide +kernel
theorem dL_told_150 : decode cL_told 150 = .ok (.aload_n 0, 1) := by decide +kernel
theorem dL_told_151 : decode cL_told 151 = .ok (.iload_n 3, 1) := by decide +kernel
theorem dL_told_152 : decode cL_told 152 = .ok (.iconst 1, 1) := by decide +kernel
theorem dL_told_153 : decode cL_told 153 = .ok (.invokevirtual 26, 3) := by decide +kernel
theorem dL_told_156 : decode cL_told 156 = .ok (.i2l, 1) := by decide +kernel
theorem dL_told_157 : decode cL_told 157 = .ok (.ladd, 1) := by decide +kernel
theorem dL_told_158 : decode cL_told 158 = .ok (.lstore_n 1, 1) := by decide +kernel
theorem dL_told_159 : decode cL_told 159 = .ok (.iinc 3 1, 3) := by decide +kernel
theorem dL_told_162 : decode cL_told 162 = .ok (.goto (-35), 3) := by decide +kernel
theorem dL_told_165 : decode cL_told 165 = .ok (.lload_n 1, 1) := by decide +kernel
theorem dL_told_166 : decode cL_told 166 = .ok (.lreturn, 1) := by decide +kernel
set_option maxRecDepth 20000 in
theorem ggL_act_L_low : GoodIn wsL_act wsL_low := goodIn_r _ [4, 5] (by decide +kernel) (by decide +kernel)
set_option maxRecDepth 20000 in
theorem gL_act_L_low : GoodIn wsL_act (va_wsS RL 29 yL_low wsL_low) := goodIn_app (goodIn_of _ (by decide +kernel)) ggL_act_L_low
set_option maxRecDepth 20000 in
theorem ggL_act_X4_ship : GoodIn wsL_act wsX4_ship := goodIn_ca (goodIn_ca (goodIn_r _ [10, 11, 12, 13, 14, 15, 16, 17, 18, 19, 20, 21, 22, 9, 23, 24, 25, 26, 27, 28, 29, 30, 31, 32, 33, 34, 35, 36, 37, 38, 39, 40, 41, 42, 43, 44, 45, 46, 47, 48, 49, 50, 51, 52, 53, 54, 55, 56, 57, 58, 59, 60, 61, 227, 228, 229, 230, 231, 232, 233, 234, 235, 236, 237, 238, 239, 240, 241, 242, 243, 244, 245, 246, 247, 248, 249, 250, 251] (by decide +kernel) (by decide +kernel)) (goodIn_sub (fun _ h => List.mem_cons_of_mem _ (List.mem_append_left _ (List.mem_append_left _ (List.mem_append_right _ h)))) (by decide +kernel))) (goodIn_sub (fun _ h => List.mem_cons_of_mem _ (List.mem_append_left _ (List.mem_append_right _ h))) (by decide +kernel))
set_option maxRecDepth 20000 in
theorem gL_act_X4_ship : GoodIn wsL_act (wsV RL 34 RX4 yX4_ship wsX4_ship) := goodIn_app (goodIn_of _ (by decide +kernel)) ggL_act_X4_ship
set_option maxRecDepth 20000 in
theorem ggL_act_X4_unload : GoodIn wsL_act wsX4_unload := goodIn_ca (goodIn_ca (goodIn_r _ [65, 11, 12, 13, 14, 15, 66, 16, 67, 68, 9, 69, 21, 22, 23, 24, 25, 26, 27, 28, 29, 30, 31, 32, 33, 34, 35, 36, 37, 38, 39, 40, 41, 42, 43, 44, 45, 46, 47, 48, 49, 50, 51, 52, 53, 54, 55, 56, 57, 58, 59, 60, 61, 70, 71, 72, 73, 17, 74, 75, 76, 77, 78, 79, 80, 81, 82, 83, 84, 85, 86, 87, 88, 89, 90, 91, 92, 93, 94, 95, 96, 97, 98, 227, 228, 229, 230, 231, 232, 233, 234, 235, 236, 237, 238, 239, 240, 241, 242, 243, 246, 247, 248, 249, 250, 251, 244, 245] (by decide +kernel) (by decide +kernel)) (goodIn_sub (fun _ h => List.mem_cons_of_mem _ (List.mem_append_left _ (List.mem_append_left _ (List.mem_append_right _ h)))) (by decide +kernel))) (goodIn_sub (fun _ h => List.mem_cons_of_mem _ (List.mem_append_left _ (List.mem_append_right _ h))) (by decide +kernel))
set_option maxRecDepth 20000 in
theorem gL_act_X4_unload : GoodIn wsL_act (wsV RL 37 RX4 yX4_unload wsX4_unload) := goodIn_app (goodIn_of _ (by decide +kernel)) ggL_act_X4_unload
set_option maxRecDepth 20000 in
theorem ggL_act_X4_flow : GoodIn wsL_act wsX4_flow := goodIn_ca (goodIn_ca (goodIn_r _ [102, 11, 12, 13, 14, 15, 66, 16, 67, 68, 9, 69, 21, 22, 23, 24, 25, 26, 27, 28, 29, 30, 31, 32, 33, 34, 35, 36, 37, 38, 39, 40, 41, 42, 43, 44, 45, 46, 47, 48, 49, 50, 51, 52, 53, 54, 55, 56, 57, 58, 59, 60, 61, 103, 104, 105, 106, 107, 108, 84, 85, 86, 87, 88, 89, 90, 109, 110, 111, 112, 113, 114, 115, 116, 117, 118, 119, 120, 74, 75, 76, 77, 17, 121, 122, 123, 124, 125, 126, 127, 128, 129, 130, 131, 132, 133, 134, 135, 136, 137, 138, 139, 140, 141, 142, 227, 228, 229, 230, 231, 232, 233, 234, 235, 236, 237, 238, 239, 240, 241, 242, 243, 246, 247, 248, 249, 250, 251, 244, 245] (by decide +kernel) (by decide +kernel)) (goodIn_sub (fun _ h => List.mem_cons_of_mem _ (List.mem_append_left _ (List.mem_append_left _ (List.mem_append_right _ h)))) (by decide +kernel))) (goodIn_sub (fun _ h => List.mem_cons_of_mem _ (List.mem_append_left _ (List.mem_append_right _ h))) (by decide +kernel))
set_option maxRecDepth 20000 in
theorem gL_act_X4_flow : GoodIn wsL_act (wsV RL 40 RX4 yX4_flow wsX4_flow) := goodIn_app (goodIn_of _ (by decide +kernel)) ggL_act_X4_flow
set_option maxRecDepth 20000 in
theorem ggL_act_X4_count : GoodIn wsL_act wsX4_count := goodIn_ca (goodIn_r _ [146, 13, 14, 15, 147, 107, 19, 20, 148, 149, 130, 28, 150, 151, 152, 33, 153, 35, 154, 84, 85, 47, 86, 87, 88, 89, 90, 51, 49, 155, 156, 157, 158, 36, 159, 160, 161, 162, 163, 164, 165, 166, 167, 168, 169, 227, 228, 229, 230, 231, 232, 233, 234, 235, 236, 237, 238, 239, 240, 241, 242, 243, 246, 247, 248, 249, 250, 251, 244, 245] (by decide +kernel) (by decide +kernel)) (goodIn_sub (fun _ h => List.mem_cons_of_mem _ (List.mem_append_left _ (List.mem_append_right _ h))) (by decide +kernel))
set_option maxRecDepth 20000 in
theorem gL_act_X4_count : GoodIn wsL_act (wsV RL 12 RX4 yX4_count wsX4_count) := goodIn_app (goodIn_of _ (by decide +kernel)) ggL_act_X4_count
set_option maxRecDepth 20000 in
theorem ggL_act_X4_silo : GoodIn wsL_act wsX4_silo := goodIn_ca (goodIn_ca (goodIn_r _ [173, 11, 12, 13, 14, 15, 66, 117, 119, 118, 174, 67, 68, 9, 69, 108, 84, 85, 47, 86, 87, 88, 89, 90, 51, 49, 121, 122, 123, 124, 125, 126, 127, 128, 129, 130, 227, 228, 229, 230, 231, 232, 233, 234, 235, 236, 237, 238, 239, 240, 241, 242, 243, 246, 247, 248, 249, 250, 251] (by decide +kernel) (by decide +kernel)) (goodIn_sub (fun _ h => List.mem_cons_of_mem _ (List.mem_append_left _ (List.mem_append_left _ (List.mem_append_right _ h)))) (by decide +kernel))) (goodIn_sub (fun _ h => List.mem_cons_of_mem _ (List.mem_append_left _ (List.mem_append_right _ h))) (by decide +kernel))
set_option maxRecDepth 20000 in
theorem gL_act_X4_silo : GoodIn wsL_act (wsV RL 18 RX4 yX4_silo wsX4_silo) := goodIn_app (goodIn_of _ (by decide +kernel)) ggL_act_X4_silo
set_option maxRecDepth 20000 in
theorem ggL_act_X4_pads : GoodIn wsL_act wsX4_pads := goodIn_ca (goodIn_ca (goodIn_ca (goodIn_r _ [178, 11, 12, 13, 14, 179, 180, 15, 66, 119, 130, 67, 68, 9, 69, 160, 161, 162, 33, 163, 35, 164, 24, 25, 26, 27, 28, 29, 30, 31, 32, 34, 36, 37, 38, 39, 40, 41, 42, 43, 44, 45, 46, 47, 48, 49, 50, 51, 52, 53, 54, 55, 56, 57, 58, 59, 60, 61, 227, 228, 229, 230, 231, 232, 233, 234, 235, 236, 237, 238, 239, 240, 241, 242, 243, 246, 247, 248, 249, 250, 251, 244, 245] (by decide +kernel) (by decide +kernel)) (goodIn_sub (fun _ h => List.mem_cons_of_mem _ (List.mem_append_left _ (List.mem_append_left _ (List.mem_append_right _ h)))) (by decide +kernel))) (goodIn_sub (fun _ h => List.mem_cons_of_mem _ (List.mem_append_left _ (List.mem_append_right _ h))) (by decide +kernel))) (goodIn_sub (fun _ h => List.mem_cons_of_mem _ (List.mem_append_right _ h)) (by decide +kernel))
set_option maxRecDepth 20000 in
theorem gL_act_X4_pads : GoodIn wsL_act (wsV RL 43 RX4 yX4_pads wsX4_pads) := goodIn_app (goodIn_of _ (by decide +kernel)) ggL_act_X4_pads
set_option maxRecDepth 20000 in
theorem ggL_act_X4_shake : GoodIn wsL_act wsX4_shake := goodIn_ca (goodIn_ca (goodIn_r _ [184, 11, 12, 179, 180, 15, 66, 117, 174, 148, 118, 67, 68, 9, 69, 24, 25, 26, 27, 28, 29, 30, 31, 32, 33, 34, 35, 36, 37, 38, 39, 40, 41, 42, 43, 44, 45, 46, 47, 48, 49, 50, 51, 52, 53, 54, 55, 56, 57, 58, 59, 60, 61, 185, 186, 187, 188, 130, 189, 190, 76, 191, 192, 193, 194, 195, 87, 88, 89, 90, 196, 197, 198, 199, 200, 227, 228, 229, 230, 231, 232, 233, 234, 235, 236, 237, 238, 239, 240, 241, 242, 243, 246, 247, 248, 249, 250, 251, 244, 245] (by decide +kernel) (by decide +kernel)) (goodIn_sub (fun _ h => List.mem_cons_of_mem _ (List.mem_append_left _ (List.mem_append_left _ (List.mem_append_right _ h)))) (by decide +kernel))) (goodIn_sub (fun _ h => List.mem_cons_of_mem _ (List.mem_append_right _ h)) (by decide +kernel))
set_option maxRecDepth 20000 in
theorem gL_act_X4_shake : GoodIn wsL_act (wsV RL 46 RX4 yX4_shake wsX4_shake) := goodIn_app (goodIn_of _ (by decide +kernel)) ggL_act_X4_shake
set_option maxRecDepth 20000 in
theorem ggL_act_X4_set : GoodIn wsL_act wsX4_set := goodIn_ca (goodIn_ca (goodIn_ca (goodIn_r _ [204, 11, 12, 13, 14, 179, 180, 15, 130, 205, 206, 160, 161, 162, 33, 163, 35, 164, 24, 25, 26, 9, 27, 28, 29, 30, 31, 32, 34, 36, 37, 38, 39, 40, 41, 42, 43, 44, 45, 46, 47, 48, 49, 50, 51, 52, 53, 54, 55, 56, 57, 58, 59, 60, 61, 227, 228, 229, 230, 231, 232, 233, 234, 235, 236, 237, 238, 239, 240, 241, 242, 243, 246, 247, 248, 249, 250, 251, 244, 245] (by decide +kernel) (by decide +kernel)) (goodIn_sub (fun _ h => List.mem_cons_of_mem _ (List.mem_append_left _ (List.mem_append_left _ (List.mem_append_right _ h)))) (by decide +kernel))) (goodIn_sub (fun _ h => List.mem_cons_of_mem _ (List.mem_append_left _ (List.mem_append_right _ h))) (by decide +kernel))) (goodIn_sub (fun _ h => List.mem_cons_of_mem _ (List.mem_append_right _ h)) (by decide +kernel))
set_option maxRecDepth 20000 in
theorem gL_act_X4_set : GoodIn wsL_act (wsV RL 49 RX4 yX4_set wsX4_set) := goodIn_app (goodIn_of _ (by decide +kernel)) ggL_act_X4_set
set_option maxRecDepth 20000 in
theorem ggL_act_X4_pass : GoodIn wsL_act wsX4_pass := goodIn_ca (goodIn_r _ [210, 13, 14, 24, 25, 26, 9, 27, 28, 29, 15, 30, 31, 32, 33, 34, 35, 36, 37, 38, 39, 40, 41, 42, 43, 44, 45, 46, 47, 48, 49, 50, 51, 52, 53, 54, 55, 56, 57, 58, 59, 60, 61, 211, 212, 213, 214, 147, 66, 149, 215, 216, 217, 218, 125, 118, 174, 219, 220, 221, 222, 223, 224, 225, 226, 126, 127, 128, 129, 130, 227, 228, 229, 230, 231, 232, 233, 234, 235, 236, 237, 238, 239, 240, 241, 242, 243, 246, 247, 248, 249, 250, 251, 244, 245] (by decide +kernel) (by decide +kernel)) (goodIn_sub (fun _ h => List.mem_cons_of_mem _ (List.mem_append_left _ (List.mem_append_right _ h))) (by decide +kernel))
set_option maxRecDepth 20000 in
theorem gL_act_X4_pass : GoodIn wsL_act (wsV RL 52 RX4 yX4_pass wsX4_pass) := goodIn_app (goodIn_of _ (by decide +kernel)) ggL_act_X4_pass
theorem dL_act_0 : decode cL_act 0 = .ok (.iload_n 1, 1) := by decide +kernel
theorem dL_act_1 : decode cL_act 1 = .ok (.iconst 4, 1) := by decide +kernel
theorem dL_act_2 : decode cL_act 2 = .ok (.ishr, 1) := by decide +kernel
theorem dL_act_3 : decode cL_act 3 = .ok (.iload_n 1, 1) := by decide +kernel
theorem dL_act_4 : decode cL_act 4 = .ok (.bipush 20, 2) := by decide +kernel
theorem dL_act_6 : decode cL_act 6 = .ok (.ishr, 1) := by decide +kernel
theorem dL_act_7 : decode cL_act 7 = .ok (.iconst 1, 1) := by decide +kernel
theorem dL_act_8 : decode cL_act 8 = .ok (.iand, 1) := by decide +kernel
theorem dL_act_9 : decode cL_act 9 = .ok (.ifCond .ne 7, 3) := by decide +kernel
theorem dL_act_12 : decode cL_act 12 = .ok (.iconst 2, 1) := by decide +kernel
theorem dL_act_13 : decode cL_act 13 = .ok (.goto 4, 3) := by decide +kernel
theorem dL_act_16 : decode cL_act 16 = .ok (.iconst 4, 1) := by decide +kernel
theorem dL_act_17 : decode cL_act 17 = .ok (.invokestatic 29, 3) := by decide +kernel
theorem dL_act_20 : decode cL_act 20 = .ok (.istore_n 3, 1) := by decide +kernel
theorem dL_act_21 : decode cL_act 21 = .ok (.iload_n 1, 1) := by decide +kernel
theorem dL_act_22 : decode cL_act 22 = .ok (.bipush 6, 2) := by decide +kernel
theorem dL_act_24 : decode cL_act 24 = .ok (.ishr, 1) := by decide +kernel
theorem dL_act_25 : decode cL_act 25 = .ok (.bipush 6, 2) := by decide +kernel
theorem dL_act_27 : decode cL_act 27 = .ok (.invokestatic 29, 3) := by decide +kernel
theorem dL_act_30 : decode cL_act 30 = .ok (.istore 4, 2) := by decide +kernel
theorem dL_act_32 : decode cL_act 32 = .ok (.iload_n 1, 1) := by decide +kernel
theorem dL_act_33 : decode cL_act 33 = .ok (.bipush 15, 2) := by decide +kernel
theorem dL_act_35 : decode cL_act 35 = .ok (.iand, 1) := by decide +kernel
theorem dL_act_36 : decode cL_act 36 = .ok (.tableswitch 231 0 12 #[68, 68, 97, 97, 97, 128, 128, 128, 144, 144, 189, 189, 209], 68) := by decide +kernel
theorem dL_act_104 : decode cL_act 104 = .ok (.iload_n 2, 1) := by decide +kernel
theorem dL_act_105 : decode cL_act 105 = .ok (.sipush 901, 3) := by decide +kernel
theorem dL_act_108 : decode cL_act 108 = .ok (.invokestatic 29, 3) := by decide +kernel
theorem dL_act_111 : decode cL_act 111 = .ok (.istore 5, 2) := by decide +kernel
theorem dL_act_113 : decode cL_act 113 = .ok (.aload_n 0, 1) := by decide +kernel
theorem dL_act_114 : decode cL_act 114 = .ok (.iload 4, 2) := by decide +kernel
theorem dL_act_116 : decode cL_act 116 = .ok (.iload 5, 2) := by decide +kernel
theorem dL_act_118 : decode cL_act 118 = .ok (.iload_n 2, 1) := by decide +kernel
theorem dL_act_119 : decode cL_act 119 = .ok (.bipush 6, 2) := by decide +kernel
theorem dL_act_121 : decode cL_act 121 = .ok (.ishr, 1) := by decide +kernel
theorem dL_act_122 : decode cL_act 122 = .ok (.iload 5, 2) := by decide +kernel
theorem dL_act_124 : decode cL_act 124 = .ok (.iconst 1, 1) := by decide +kernel
theorem dL_act_125 : decode cL_act 125 = .ok (.iadd, 1) := by decide +kernel
theorem dL_act_126 : decode cL_act 126 = .ok (.invokestatic 29, 3) := by decide +kernel
theorem dL_act_129 : decode cL_act 129 = .ok (.invokevirtual 34, 3) := by decide +kernel
theorem dL_act_132 : decode cL_act 132 = .ok (.ireturn, 1) := by decide +kernel
theorem dL_act_133 : decode cL_act 133 = .ok (.aload_n 0, 1) := by decide +kernel
theorem dL_act_134 : decode cL_act 134 = .ok (.iload_n 3, 1) := by decide +kernel
theorem dL_act_135 : decode cL_act 135 = .ok (.iload 4, 2) := by decide +kernel
theorem dL_act_137 : decode cL_act 137 = .ok (.iconst 1, 1) := by decide +kernel
theorem dL_act_138 : decode cL_act 138 = .ok (.iload_n 2, 1) := by decide +kernel
theorem dL_act_139 : decode cL_act 139 = .ok (.iload_n 2, 1) := by decide +kernel
theorem dL_act_140 : decode cL_act 140 = .ok (.bipush 20, 2) := by decide +kernel
theorem dL_act_142 : decode cL_act 142 = .ok (.ishr, 1) := by decide +kernel
theorem dL_act_143 : decode cL_act 143 = .ok (.iconst 1, 1) := by decide +kernel
theorem dL_act_144 : decode cL_act 144 = .ok (.iand, 1) := by decide +kernel
theorem dL_act_145 : decode cL_act 145 = .ok (.ifCond .ne 9, 3) := by decide +kernel
theorem dL_act_148 : decode cL_act 148 = .ok (.sipush 500, 3) := by decide +kernel
theorem dL_act_151 : decode cL_act 151 = .ok (.goto 5, 3) := by decide +kernel
theorem dL_act_154 : decode cL_act 154 = .ok (.bipush 60, 2) := by decide +kernel
theorem dL_act_156 : decode cL_act 156 = .ok (.invokestatic 29, 3) := by decide +kernel
theorem dL_act_159 : decode cL_act 159 = .ok (.iadd, 1) := by decide +kernel
theorem dL_act_160 : decode cL_act 160 = .ok (.invokevirtual 37, 3) := by decide +kernel
theorem dL_act_163 : decode cL_act 163 = .ok (.ireturn, 1) := by decide +kernel
theorem dL_act_164 : decode cL_act 164 = .ok (.aload_n 0, 1) := by decide +kernel
theorem dL_act_165 : decode cL_act 165 = .ok (.iload_n 3, 1) := by decide +kernel
theorem dL_act_166 : decode cL_act 166 = .ok (.iload 4, 2) := by decide +kernel
theorem dL_act_168 : decode cL_act 168 = .ok (.iconst 1, 1) := by decide +kernel
theorem dL_act_169 : decode cL_act 169 = .ok (.iload_n 2, 1) := by decide +kernel
theorem dL_act_170 : decode cL_act 170 = .ok (.bipush 24, 2) := by decide +kernel
theorem dL_act_172 : decode cL_act 172 = .ok (.invokestatic 29, 3) := by decide +kernel
theorem dL_act_175 : decode cL_act 175 = .ok (.iadd, 1) := by decide +kernel
theorem dL_act_176 : decode cL_act 176 = .ok (.invokevirtual 40, 3) := by decide +kernel
theorem dL_act_179 : decode cL_act 179 = .ok (.ireturn, 1) := by decide +kernel
theorem dL_act_180 : decode cL_act 180 = .ok (.iload_n 2, 1) := by decide +kernel
theorem dL_act_181 : decode cL_act 181 = .ok (.iconst 5, 1) := by decide +kernel
theorem dL_act_182 : decode cL_act 182 = .ok (.invokestatic 29, 3) := by decide +kernel
theorem dL_act_185 : decode cL_act 185 = .ok (.istore 6, 2) := by decide +kernel
theorem dL_act_187 : decode cL_act 187 = .ok (.aload_n 0, 1) := by decide +kernel
theorem dL_act_188 : decode cL_act 188 = .ok (.bipush 6, 2) := by decide +kernel
theorem dL_act_190 : decode cL_act 190 = .ok (.invokevirtual 12, 3) := by decide +kernel
theorem dL_act_193 : decode cL_act 193 = .ok (.aload_n 0, 1) := by decide +kernel
theorem dL_act_194 : decode cL_act 194 = .ok (.iload_n 3, 1) := by decide +kernel
theorem dL_act_195 : decode cL_act 195 = .ok (.iconst 2, 1) := by decide +kernel
theorem dL_act_196 : decode cL_act 196 = .ok (.invokevirtual 18, 3) := by decide +kernel
theorem dL_act_199 : decode cL_act 199 = .ok (.isub, 1) := by decide +kernel
theorem dL_act_200 : decode cL_act 200 = .ok (.iload 6, 2) := by decide +kernel
theorem dL_act_202 : decode cL_act 202 = .ok (.iadd, 1) := by decide +kernel
theorem dL_act_203 : decode cL_act 203 = .ok (.aload_n 0, 1) := by decide +kernel
theorem dL_act_204 : decode cL_act 204 = .ok (.bipush 10, 2) := by decide +kernel
theorem dL_act_206 : decode cL_act 206 = .ok (.invokevirtual 12, 3) := by decide +kernel
theorem dL_act_209 : decode cL_act 209 = .ok (.if_icmp .le 8, 3) := by decide +kernel
theorem dL_act_212 : decode cL_act 212 = .ok (.bipush (-9), 2) := by decide +kernel
theorem dL_act_214 : decode cL_act 214 = .ok (.goto 10, 3) := by decide +kernel
theorem dL_act_217 : decode cL_act 217 = .ok (.aload_n 0, 1) := by decide +kernel
theorem dL_act_218 : decode cL_act 218 = .ok (.iload_n 3, 1) := by decide +kernel
theorem dL_act_219 : decode cL_act 219 = .ok (.iload 6, 2) := by decide +kernel
theorem dL_act_221 : decode cL_act 221 = .ok (.invokevirtual 43, 3) := by decide +kernel
theorem dL_act_224 : decode cL_act 224 = .ok (.ireturn, 1) := by decide +kernel
theorem dL_act_225 : decode cL_act 225 = .ok (.aload_n 0, 1) := by decide +kernel
theorem dL_act_226 : decode cL_act 226 = .ok (.iload_n 3, 1) := by decide +kernel
theorem dL_act_227 : decode cL_act 227 = .ok (.iconst 1, 1) := by decide +kernel
theorem dL_act_228 : decode cL_act 228 = .ok (.invokevirtual 18, 3) := by decide +kernel
theorem dL_act_231 : decode cL_act 231 = .ok (.ifCond .ne 8, 3) := by decide +kernel
theorem dL_act_234 : decode cL_act 234 = .ok (.bipush (-9), 2) := by decide +kernel
theorem dL_act_236 : decode cL_act 236 = .ok (.goto 8, 3) := by decide +kernel
theorem dL_act_239 : decode cL_act 239 = .ok (.aload_n 0, 1) := by decide +kernel
theorem dL_act_240 : decode cL_act 240 = .ok (.iload_n 3, 1) := by decide +kernel
theorem dL_act_241 : decode cL_act 241 = .ok (.invokevirtual 46, 3) := by decide +kernel
theorem dL_act_244 : decode cL_act 244 = .ok (.ireturn, 1) := by decide +kernel
theorem dL_act_245 : decode cL_act 245 = .ok (.aload_n 0, 1) := by decide +kernel
theorem dL_act_246 : decode cL_act 246 = .ok (.iconst 1, 1) := by decide +kernel
theorem dL_act_247 : decode cL_act 247 = .ok (.iload_n 2, 1) := by decide +kernel
theorem dL_act_248 : decode cL_act 248 = .ok (.iconst 3, 1) := by decide +kernel
theorem dL_act_249 : decode cL_act 249 = .ok (.invokestatic 29, 3) := by decide +kernel
theorem dL_act_252 : decode cL_act 252 = .ok (.iadd, 1) := by decide +kernel
theorem dL_act_253 : decode cL_act 253 = .ok (.iconst 5, 1) := by decide +kernel
theorem dL_act_254 : decode cL_act 254 = .ok (.iload_n 2, 1) := by decide +kernel
theorem dL_act_255 : decode cL_act 255 = .ok (.iconst 2, 1) := by decide +kernel
theorem dL_act_256 : decode cL_act 256 = .ok (.ishr, 1) := by decide +kernel
theorem dL_act_257 : decode cL_act 257 = .ok (.bipush 16, 2) := by decide +kernel
theorem dL_act_259 : decode cL_act 259 = .ok (.invokestatic 29, 3) := by decide +kernel
theorem dL_act_262 : decode cL_act 262 = .ok (.iadd, 1) := by decide +kernel
theorem dL_act_263 : decode cL_act 263 = .ok (.invokevirtual 49, 3) := by decide +kernel
theorem dL_act_266 : decode cL_act 266 = .ok (.ireturn, 1) := by decide +kernel
theorem dL_act_267 : decode cL_act 267 = .ok (.aload_n 0, 1) := by decide +kernel
theorem dL_act_268 : decode cL_act 268 = .ok (.iconst 1, 1) := by decide +kernel
theorem dL_act_269 : decode cL_act 269 = .ok (.iload_n 2, 1) := by decide +kernel
theorem dL_act_270 : decode cL_act 270 = .ok (.iload_n 2, 1) := by decide +kernel
theorem dL_act_271 : decode cL_act 271 = .ok (.bipush 20, 2) := by decide +kernel
theorem dL_act_273 : decode cL_act 273 = .ok (.ishr, 1) := by decide +kernel
theorem dL_act_274 : decode cL_act 274 = .ok (.iconst 1, 1) := by decide +kernel
theorem dL_act_275 : decode cL_act 275 = .ok (.iand, 1) := by decide +kernel
theorem dL_act_276 : decode cL_act 276 = .ok (.ifCond .ne 7, 3) := by decide +kernel
theorem dL_act_279 : decode cL_act 279 = .ok (.iconst 3, 1) := by decide +kernel
theorem dL_act_280 : decode cL_act 280 = .ok (.goto 5, 3) := by decide +kernel
theorem dL_act_283 : decode cL_act 283 = .ok (.bipush 30, 2) := by decide +kernel
theorem dL_act_285 : decode cL_act 285 = .ok (.invokestatic 29, 3) := by decide +kernel
theorem dL_act_288 : decode cL_act 288 = .ok (.iadd, 1) := by decide +kernel
theorem dL_act_289 : decode cL_act 289 = .ok (.invokevirtual 52, 3) := by decide +kernel
theorem dL_act_292 : decode cL_act 292 = .ok (.ireturn, 1) := by decide +kernel
set_option maxRecDepth 20000 in
theorem ggL_holds_X4_silo : GoodIn wsL_holds wsX4_silo := goodIn_ca (goodIn_ca (goodIn_r _ [5, 6, 7, 8, 9, 10, 11, 12, 13, 14, 15, 16, 17, 4, 18, 19, 20, 21, 22, 23, 24, 25, 26, 27, 28, 29, 30, 31, 32, 33, 34, 35, 36, 37, 38, 39, 132, 133, 134, 135, 136, 137, 138, 139, 140, 141, 142, 143, 144, 145, 146, 147, 148, 149, 150, 151, 152, 153, 154] (by decide +kernel) (by decide +kernel)) (goodIn_sub (fun _ h => List.mem_cons_of_mem _ (List.mem_append_left _ (List.mem_append_right _ h))) (by decide +kernel))) (goodIn_sub (fun _ h => List.mem_cons_of_mem _ (List.mem_append_right _ h)) (by decide +kernel))
set_option maxRecDepth 20000 in
theorem gL_holds_X4_silo : GoodIn wsL_holds (wsV RL 18 RX4 yX4_silo wsX4_silo) := goodIn_app (goodIn_of _ (by decide +kernel)) ggL_holds_X4_silo
set_option maxRecDepth 20000 in
theorem ggL_holds_X4_layer : GoodIn wsL_holds wsX4_layer := goodIn_ca (goodIn_ca (goodIn_r _ [43, 6, 7, 8, 9, 10, 11, 12, 44, 34, 16, 17, 4, 18, 35, 36, 37, 38, 39, 132, 133, 134, 135, 136, 137, 138, 139, 140, 141, 142, 143, 144, 145, 146, 147, 148, 149, 150, 151, 152, 153, 154] (by decide +kernel) (by decide +kernel)) (goodIn_sub (fun _ h => List.mem_cons_of_mem _ (List.mem_append_left _ (List.mem_append_right _ h))) (by decide +kernel))) (goodIn_sub (fun _ h => List.mem_cons_of_mem _ (List.mem_append_right _ h)) (by decide +kernel))
set_option maxRecDepth 20000 in
theorem gL_holds_X4_layer : GoodIn wsL_holds (wsV RL 22 RX4 yX4_layer wsX4_layer) := goodIn_app (goodIn_of _ (by decide +kernel)) ggL_holds_X4_layer
set_option maxRecDepth 20000 in
theorem ggL_holds_X4_count : GoodIn wsL_holds wsX4_count := goodIn_ca (goodIn_r _ [48, 8, 9, 10, 49, 50, 51, 52, 53, 54, 39, 55, 56, 57, 58, 59, 60, 61, 62, 20, 21, 22, 23, 24, 25, 26, 27, 28, 29, 63, 64, 65, 66, 67, 68, 69, 70, 71, 72, 73, 74, 75, 76, 77, 78, 132, 133, 134, 135, 136, 137, 138, 139, 140, 141, 142, 143, 144, 145, 146, 147, 148, 149, 150, 151, 152, 153, 154, 155, 156] (by decide +kernel) (by decide +kernel)) (goodIn_sub (fun _ h => List.mem_cons_of_mem _ (List.mem_append_right _ h)) (by decide +kernel))
set_option maxRecDepth 20000 in
theorem gL_holds_X4_count : GoodIn wsL_holds (wsV RL 12 RX4 yX4_count wsX4_count) := goodIn_app (goodIn_of _ (by decide +kernel)) ggL_holds_X4_count
set_option maxRecDepth 20000 in
theorem ggL_holds_X4_shakesNeeded : GoodIn wsL_holds wsX4_shakesNeeded := goodIn_ca (goodIn_r _ [82, 6, 7, 10, 11, 16, 17, 4, 18, 83, 84, 85, 86, 14, 39, 15, 87, 88, 89, 90, 91, 92, 93, 22, 94, 95, 24, 25, 26, 27, 28, 29, 132, 133, 134, 135, 136, 137, 138, 139, 140, 141, 142, 143, 144, 145, 146, 147, 148, 149, 150, 151, 152, 153, 154] (by decide +kernel) (by decide +kernel)) (goodIn_sub (fun _ h => List.mem_cons_of_mem _ (List.mem_append_left _ (List.mem_append_right _ h))) (by decide +kernel))
set_option maxRecDepth 20000 in
theorem gL_holds_X4_shakesNeeded : GoodIn wsL_holds (wsV RL 55 RX4 yX4_shakesNeeded wsX4_shakesNeeded) := goodIn_app (goodIn_of _ (by decide +kernel)) ggL_holds_X4_shakesNeeded
set_option maxRecDepth 20000 in
theorem ggL_holds_X4_whyNot : GoodIn wsL_holds wsX4_whyNot := goodIn_ca (goodIn_r _ [99, 6, 7, 10, 11, 12, 14, 100, 13, 16, 17, 4, 18, 101, 102, 103, 104, 105, 106, 107, 108, 109, 110, 30, 31, 32, 33, 34, 35, 36, 37, 38, 39, 132, 133, 134, 135, 136, 137, 138, 139, 140, 141, 142, 143, 144, 145, 146, 147, 148, 149, 150, 151, 152, 153, 154, 155, 156] (by decide +kernel) (by decide +kernel)) (goodIn_sub (fun _ h => List.mem_cons_of_mem _ (List.mem_append_left _ (List.mem_append_right _ h))) (by decide +kernel))
set_option maxRecDepth 20000 in
theorem gL_holds_X4_whyNot : GoodIn wsL_holds (wsV RL 58 RX4 yX4_whyNot wsX4_whyNot) := goodIn_app (goodIn_of _ (by decide +kernel)) ggL_holds_X4_whyNot
set_option maxRecDepth 20000 in
theorem ggL_holds_X4_shipOf : GoodIn wsL_holds wsX4_shipOf := goodIn_ca (goodIn_ca (goodIn_r _ [114, 6, 7, 8, 9, 10, 100, 115, 116, 101, 102, 4, 103, 132, 133, 134, 135, 136, 137, 138, 139, 140, 141, 142, 143, 144, 145, 146, 147, 148, 155, 156] (by decide +kernel) (by decide +kernel)) (goodIn_sub (fun _ h => List.mem_cons_of_mem _ (List.mem_append_left _ (List.mem_append_right _ h))) (by decide +kernel))) (goodIn_sub (fun _ h => List.mem_cons_of_mem _ (List.mem_append_right _ h)) (by decide +kernel))
set_option maxRecDepth 20000 in
theorem gL_holds_X4_shipOf : GoodIn wsL_holds (wsV RL 26 RX4 yX4_shipOf wsX4_shipOf) := goodIn_app (goodIn_of _ (by decide +kernel)) ggL_holds_X4_shipOf
set_option maxRecDepth 20000 in
theorem ggL_holds_X4_urgent : GoodIn wsL_holds wsX4_urgent := goodIn_r _ [120, 10, 11, 12, 121, 122, 4, 123, 34, 19, 20, 21, 22, 23, 24, 25, 26, 27, 28, 29, 132, 133, 134, 135, 136, 137, 138, 139, 140, 141, 142, 143, 144, 145, 146, 147, 148, 149, 150, 151, 152, 153, 154] (by decide +kernel) (by decide +kernel)
set_option maxRecDepth 20000 in
theorem gL_holds_X4_urgent : GoodIn wsL_holds (wsV RL 61 RX4 yX4_urgent wsX4_urgent) := goodIn_app (goodIn_of _ (by decide +kernel)) ggL_holds_X4_urgent
set_option maxRecDepth 20000 in
theorem ggL_holds_X4_softness : GoodIn wsL_holds wsX4_softness := goodIn_r _ [127, 10, 11, 56, 57, 58, 59, 60, 61, 62, 20, 21, 22, 23, 24, 25, 26, 27, 28, 29, 128, 129, 130, 4, 131, 12, 34, 44, 35, 36, 37, 38, 39, 132, 133, 134, 135, 136, 137, 138, 139, 140, 141, 142, 143, 144, 145, 146, 147, 148, 149, 150, 151, 152, 153, 154] (by decide +kernel) (by decide +kernel)
set_option maxRecDepth 20000 in
theorem gL_holds_X4_softness : GoodIn wsL_holds (wsV RL 65 RX4 yX4_softness wsX4_softness) := goodIn_app (goodIn_of _ (by decide +kernel)) ggL_holds_X4_softness
theorem dL_holds_0 : decode cL_holds 0 = .ok (.iconst 0, 1) := by decide +kernel
theorem dL_holds_1 : decode cL_holds 1 = .ok (.istore_n 1, 1) := by decide +kernel
theorem dL_holds_2 : decode cL_holds 2 = .ok (.iconst 0, 1) := by decide +kernel
theorem dL_holds_3 : decode cL_holds 3 = .ok (.istore_n 2, 1) := by decide +kernel
theorem dL_holds_4 : decode cL_holds 4 = .ok (.iconst 0, 1) := by decide +kernel
theorem dL_holds_5 : decode cL_holds 5 = .ok (.istore_n 3, 1) := by decide +kernel
theorem dL_holds_6 : decode cL_holds 6 = .ok (.iconst 0, 1) := by decide +kernel
theorem dL_holds_7 : decode cL_holds 7 = .ok (.istore 4, 2) := by decide +kernel
theorem dL_holds_9 : decode cL_holds 9 = .ok (.iload 4, 2) := by decide +kernel
theorem dL_holds_11 : decode cL_holds 11 = .ok (.iconst 4, 1) := by decide +kernel
theorem dL_holds_12 : decode cL_holds 12 = .ok (.if_icmp .ge 309, 3) := by decide +kernel
theorem dL_holds_15 : decode cL_holds 15 = .ok (.iconst 0, 1) := by decide +kernel
theorem dL_holds_16 : decode cL_holds 16 = .ok (.istore 5, 2) := by decide +kernel
theorem dL_holds_18 : decode cL_holds 18 = .ok (.aload_n 0, 1) := by decide +kernel
theorem dL_holds_19 : decode cL_holds 19 = .ok (.iload 4, 2) := by decide +kernel
theorem dL_holds_21 : decode cL_holds 21 = .ok (.iconst 1, 1) := by decide +kernel
theorem dL_holds_22 : decode cL_holds 22 = .ok (.invokevirtual 18, 3) := by decide +kernel
theorem dL_holds_25 : decode cL_holds 25 = .ok (.istore 6, 2) := by decide +kernel
theorem dL_holds_27 : decode cL_holds 27 = .ok (.iconst 0, 1) := by decide +kernel
theorem dL_holds_28 : decode cL_holds 28 = .ok (.istore 7, 2) := by decide +kernel
theorem dL_holds_30 : decode cL_holds 30 = .ok (.iload 7, 2) := by decide +kernel
theorem dL_holds_32 : decode cL_holds 32 = .ok (.iload 6, 2) := by decide +kernel
theorem dL_holds_34 : decode cL_holds 34 = .ok (.if_icmp .ge 156, 3) := by decide +kernel
theorem dL_holds_37 : decode cL_holds 37 = .ok (.aload_n 0, 1) := by decide +kernel
theorem dL_holds_38 : decode cL_holds 38 = .ok (.iload 4, 2) := by decide +kernel
theorem dL_holds_40 : decode cL_holds 40 = .ok (.iload 7, 2) := by decide +kernel
theorem dL_holds_42 : decode cL_holds 42 = .ok (.iconst 0, 1) := by decide +kernel
theorem dL_holds_43 : decode cL_holds 43 = .ok (.invokevirtual 22, 3) := by decide +kernel
theorem dL_holds_46 : decode cL_holds 46 = .ok (.istore 8, 2) := by decide +kernel
theorem dL_holds_48 : decode cL_holds 48 = .ok (.aload_n 0, 1) := by decide +kernel
theorem dL_holds_49 : decode cL_holds 49 = .ok (.iload 4, 2) := by decide +kernel
theorem dL_holds_51 : decode cL_holds 51 = .ok (.iload 7, 2) := by decide +kernel
theorem dL_holds_53 : decode cL_holds 53 = .ok (.iconst 2, 1) := by decide +kernel
theorem dL_holds_54 : decode cL_holds 54 = .ok (.invokevirtual 22, 3) := by decide +kernel
theorem dL_holds_57 : decode cL_holds 57 = .ok (.istore 9, 2) := by decide +kernel
theorem dL_holds_59 : decode cL_holds 59 = .ok (.aload_n 0, 1) := by decide +kernel
theorem dL_holds_60 : decode cL_holds 60 = .ok (.iload 4, 2) := by decide +kernel
theorem dL_holds_62 : decode cL_holds 62 = .ok (.iload 7, 2) := by decide +kernel
theorem dL_holds_64 : decode cL_holds 64 = .ok (.iconst 1, 1) := by decide +kernel
theorem dL_holds_65 : decode cL_holds 65 = .ok (.invokevirtual 22, 3) := by decide +kernel
theorem dL_holds_68 : decode cL_holds 68 = .ok (.istore 10, 2) := by decide +kernel
theorem dL_holds_70 : decode cL_holds 70 = .ok (.iload 5, 2) := by decide +kernel
theorem dL_holds_72 : decode cL_holds 72 = .ok (.iload 8, 2) := by decide +kernel
theorem dL_holds_74 : decode cL_holds 74 = .ok (.iadd, 1) := by decide +kernel
theorem dL_holds_75 : decode cL_holds 75 = .ok (.istore 5, 2) := by decide +kernel
theorem dL_holds_77 : decode cL_holds 77 = .ok (.iload 8, 2) := by decide +kernel
theorem dL_holds_79 : decode cL_holds 79 = .ok (.iconst 1, 1) := by decide +kernel
theorem dL_holds_80 : decode cL_holds 80 = .ok (.if_icmp .lt 102, 3) := by decide +kernel
theorem dL_holds_83 : decode cL_holds 83 = .ok (.iload 8, 2) := by decide +kernel
theorem dL_holds_85 : decode cL_holds 85 = .ok (.sipush 500, 3) := by decide +kernel
theorem dL_holds_88 : decode cL_holds 88 = .ok (.if_icmp .gt 94, 3) := by decide +kernel
theorem dL_holds_91 : decode cL_holds 91 = .ok (.iload 9, 2) := by decide +kernel
theorem dL_holds_93 : decode cL_holds 93 = .ok (.ifCond .ne 7, 3) := by decide +kernel
theorem dL_holds_96 : decode cL_holds 96 = .ok (.iconst 1, 1) := by decide +kernel
theorem dL_holds_97 : decode cL_holds 97 = .ok (.goto 4, 3) := by decide +kernel
theorem dL_holds_100 : decode cL_holds 100 = .ok (.iconst 0, 1) := by decide +kernel
theorem dL_holds_101 : decode cL_holds 101 = .ok (.iload 10, 2) := by decide +kernel
theorem dL_holds_103 : decode cL_holds 103 = .ok (.aload_n 0, 1) := by decide +kernel
theorem dL_holds_104 : decode cL_holds 104 = .ok (.bipush 11, 2) := by decide +kernel
theorem dL_holds_106 : decode cL_holds 106 = .ok (.invokevirtual 12, 3) := by decide +kernel
theorem dL_holds_109 : decode cL_holds 109 = .ok (.if_icmp .gt 7, 3) := by decide +kernel
theorem dL_holds_112 : decode cL_holds 112 = .ok (.iconst 1, 1) := by decide +kernel
theorem dL_holds_113 : decode cL_holds 113 = .ok (.goto 4, 3) := by decide +kernel
theorem dL_holds_116 : decode cL_holds 116 = .ok (.iconst 0, 1) := by decide +kernel
theorem dL_holds_117 : decode cL_holds 117 = .ok (.if_icmp .ne 65, 3) := by decide +kernel
theorem dL_holds_120 : decode cL_holds 120 = .ok (.iload 9, 2) := by decide +kernel
theorem dL_holds_122 : decode cL_holds 122 = .ok (.iconst 2, 1) := by decide +kernel
theorem dL_holds_123 : decode cL_holds 123 = .ok (.if_icmp .ne 7, 3) := by decide +kernel
theorem dL_holds_126 : decode cL_holds 126 = .ok (.iconst 1, 1) := by decide +kernel
theorem dL_holds_127 : decode cL_holds 127 = .ok (.goto 4, 3) := by decide +kernel
theorem dL_holds_130 : decode cL_holds 130 = .ok (.iconst 0, 1) := by decide +kernel
theorem dL_holds_131 : decode cL_holds 131 = .ok (.iload 10, 2) := by decide +kernel
theorem dL_holds_133 : decode cL_holds 133 = .ok (.iconst 2, 1) := by decide +kernel
theorem dL_holds_134 : decode cL_holds 134 = .ok (.aload_n 0, 1) := by decide +kernel
theorem dL_holds_135 : decode cL_holds 135 = .ok (.bipush 11, 2) := by decide +kernel
theorem dL_holds_137 : decode cL_holds 137 = .ok (.invokevirtual 12, 3) := by decide +kernel
theorem dL_holds_140 : decode cL_holds 140 = .ok (.imul, 1) := by decide +kernel
theorem dL_holds_141 : decode cL_holds 141 = .ok (.if_icmp .le 7, 3) := by decide +kernel
theorem dL_holds_144 : decode cL_holds 144 = .ok (.iconst 1, 1) := by decide +kernel
theorem dL_holds_145 : decode cL_holds 145 = .ok (.goto 4, 3) := by decide +kernel
theorem dL_holds_148 : decode cL_holds 148 = .ok (.iconst 0, 1) := by decide +kernel
theorem dL_holds_149 : decode cL_holds 149 = .ok (.if_icmp .ne 33, 3) := by decide +kernel
theorem dL_holds_152 : decode cL_holds 152 = .ok (.aload_n 0, 1) := by decide +kernel
theorem dL_holds_153 : decode cL_holds 153 = .ok (.bipush 8, 2) := by decide +kernel
theorem dL_holds_155 : decode cL_holds 155 = .ok (.invokevirtual 12, 3) := by decide +kernel
theorem dL_holds_158 : decode cL_holds 158 = .ok (.ifCond .ne 26, 3) := by decide +kernel
theorem dL_holds_161 : decode cL_holds 161 = .ok (.iload 7, 2) := by decide +kernel
theorem dL_holds_163 : decode cL_holds 163 = .ok (.ifCond .le 21, 3) := by decide +kernel
theorem dL_holds_166 : decode cL_holds 166 = .ok (.aload_n 0, 1) := by decide +kernel
theorem dL_holds_167 : decode cL_holds 167 = .ok (.iload 4, 2) := by decide +kernel
theorem dL_holds_169 : decode cL_holds 169 = .ok (.iload 7, 2) := by decide +kernel
theorem dL_holds_171 : decode cL_holds 171 = .ok (.iconst 1, 1) := by decide +kernel
theorem dL_holds_172 : decode cL_holds 172 = .ok (.isub, 1) := by decide +kernel
theorem dL_holds_173 : decode cL_holds 173 = .ok (.iconst 1, 1) := by decide +kernel
theorem dL_holds_174 : decode cL_holds 174 = .ok (.invokevirtual 22, 3) := by decide +kernel
theorem dL_holds_177 : decode cL_holds 177 = .ok (.iload 10, 2) := by decide +kernel
theorem dL_holds_179 : decode cL_holds 179 = .ok (.if_icmp .ge 5, 3) := by decide +kernel
theorem dL_holds_182 : decode cL_holds 182 = .ok (.iconst 0, 1) := by decide +kernel
theorem dL_holds_183 : decode cL_holds 183 = .ok (.ireturn, 1) := by decide +kernel
theorem dL_holds_184 : decode cL_holds 184 = .ok (.iinc 7 1, 3) := by decide +kernel
theorem dL_holds_187 : decode cL_holds 187 = .ok (.goto (-157), 3) := by decide +kernel
theorem dL_holds_190 : decode cL_holds 190 = .ok (.aload_n 0, 1) := by decide +kernel
theorem dL_holds_191 : decode cL_holds 191 = .ok (.iload 4, 2) := by decide +kernel
theorem dL_holds_193 : decode cL_holds 193 = .ok (.invokevirtual 55, 3) := by decide +kernel
theorem dL_holds_196 : decode cL_holds 196 = .ok (.istore 7, 2) := by decide +kernel
theorem dL_holds_198 : decode cL_holds 198 = .ok (.iload 5, 2) := by decide +kernel
theorem dL_holds_200 : decode cL_holds 200 = .ok (.aload_n 0, 1) := by decide +kernel
theorem dL_holds_201 : decode cL_holds 201 = .ok (.iload 4, 2) := by decide +kernel
theorem dL_holds_203 : decode cL_holds 203 = .ok (.iconst 0, 1) := by decide +kernel
theorem dL_holds_204 : decode cL_holds 204 = .ok (.invokevirtual 18, 3) := by decide +kernel
theorem dL_holds_207 : decode cL_holds 207 = .ok (.if_icmp .ne 81, 3) := by decide +kernel
theorem dL_holds_210 : decode cL_holds 210 = .ok (.iload 5, 2) := by decide +kernel
theorem dL_holds_212 : decode cL_holds 212 = .ok (.sipush 1200, 3) := by decide +kernel
theorem dL_holds_215 : decode cL_holds 215 = .ok (.if_icmp .gt 73, 3) := by decide +kernel
theorem dL_holds_218 : decode cL_holds 218 = .ok (.iload 6, 2) := by decide +kernel
theorem dL_holds_220 : decode cL_holds 220 = .ok (.bipush 10, 2) := by decide +kernel
theorem dL_holds_222 : decode cL_holds 222 = .ok (.if_icmp .gt 66, 3) := by decide +kernel
theorem dL_holds_225 : decode cL_holds 225 = .ok (.iload 7, 2) := by decide +kernel
theorem dL_holds_227 : decode cL_holds 227 = .ok (.ifCond .ne 7, 3) := by decide +kernel
theorem dL_holds_230 : decode cL_holds 230 = .ok (.iconst 1, 1) := by decide +kernel
theorem dL_holds_231 : decode cL_holds 231 = .ok (.goto 4, 3) := by decide +kernel
theorem dL_holds_234 : decode cL_holds 234 = .ok (.iconst 0, 1) := by decide +kernel
theorem dL_holds_235 : decode cL_holds 235 = .ok (.aload_n 0, 1) := by decide +kernel
theorem dL_holds_236 : decode cL_holds 236 = .ok (.iload 4, 2) := by decide +kernel
theorem dL_holds_238 : decode cL_holds 238 = .ok (.iconst 3, 1) := by decide +kernel
theorem dL_holds_239 : decode cL_holds 239 = .ok (.invokevirtual 18, 3) := by decide +kernel
theorem dL_holds_242 : decode cL_holds 242 = .ok (.ifCond .ne 7, 3) := by decide +kernel
theorem dL_holds_245 : decode cL_holds 245 = .ok (.iconst 1, 1) := by decide +kernel
theorem dL_holds_246 : decode cL_holds 246 = .ok (.goto 4, 3) := by decide +kernel
theorem dL_holds_249 : decode cL_holds 249 = .ok (.iconst 0, 1) := by decide +kernel
theorem dL_holds_250 : decode cL_holds 250 = .ok (.if_icmp .ne 38, 3) := by decide +kernel
theorem dL_holds_253 : decode cL_holds 253 = .ok (.iload 7, 2) := by decide +kernel
theorem dL_holds_255 : decode cL_holds 255 = .ok (.iconst 3, 1) := by decide +kernel
theorem dL_holds_256 : decode cL_holds 256 = .ok (.if_icmp .gt 32, 3) := by decide +kernel
theorem dL_holds_259 : decode cL_holds 259 = .ok (.aload_n 0, 1) := by decide +kernel
theorem dL_holds_260 : decode cL_holds 260 = .ok (.iload 4, 2) := by decide +kernel
theorem dL_holds_262 : decode cL_holds 262 = .ok (.iconst 0, 1) := by decide +kernel
theorem dL_holds_263 : decode cL_holds 263 = .ok (.invokevirtual 58, 3) := by decide +kernel
theorem dL_holds_266 : decode cL_holds 266 = .ok (.iconst 1, 1) := by decide +kernel
theorem dL_holds_267 : decode cL_holds 267 = .ok (.if_icmp .ne 7, 3) := by decide +kernel
theorem dL_holds_270 : decode cL_holds 270 = .ok (.iconst 1, 1) := by decide +kernel
theorem dL_holds_271 : decode cL_holds 271 = .ok (.goto 4, 3) := by decide +kernel
theorem dL_holds_274 : decode cL_holds 274 = .ok (.iconst 0, 1) := by decide +kernel
theorem dL_holds_275 : decode cL_holds 275 = .ok (.iload 6, 2) := by decide +kernel
theorem dL_holds_277 : decode cL_holds 277 = .ok (.ifCond .ne 7, 3) := by decide +kernel
theorem dL_holds_280 : decode cL_holds 280 = .ok (.iconst 1, 1) := by decide +kernel
theorem dL_holds_281 : decode cL_holds 281 = .ok (.goto 4, 3) := by decide +kernel
theorem dL_holds_284 : decode cL_holds 284 = .ok (.iconst 0, 1) := by decide +kernel
theorem dL_holds_285 : decode cL_holds 285 = .ok (.if_icmp .eq 5, 3) := by decide +kernel
theorem dL_holds_288 : decode cL_holds 288 = .ok (.iconst 0, 1) := by decide +kernel
theorem dL_holds_289 : decode cL_holds 289 = .ok (.ireturn, 1) := by decide +kernel
theorem dL_holds_290 : decode cL_holds 290 = .ok (.iload_n 1, 1) := by decide +kernel
theorem dL_holds_291 : decode cL_holds 291 = .ok (.iload 5, 2) := by decide +kernel
theorem dL_holds_293 : decode cL_holds 293 = .ok (.iadd, 1) := by decide +kernel
theorem dL_holds_294 : decode cL_holds 294 = .ok (.istore_n 1, 1) := by decide +kernel
theorem dL_holds_295 : decode cL_holds 295 = .ok (.iload_n 2, 1) := by decide +kernel
theorem dL_holds_296 : decode cL_holds 296 = .ok (.aload_n 0, 1) := by decide +kernel
theorem dL_holds_297 : decode cL_holds 297 = .ok (.iload 4, 2) := by decide +kernel
theorem dL_holds_299 : decode cL_holds 299 = .ok (.iconst 2, 1) := by decide +kernel
theorem dL_holds_300 : decode cL_holds 300 = .ok (.invokevirtual 18, 3) := by decide +kernel
theorem dL_holds_303 : decode cL_holds 303 = .ok (.iadd, 1) := by decide +kernel
theorem dL_holds_304 : decode cL_holds 304 = .ok (.istore_n 2, 1) := by decide +kernel
theorem dL_holds_305 : decode cL_holds 305 = .ok (.iload_n 3, 1) := by decide +kernel
theorem dL_holds_306 : decode cL_holds 306 = .ok (.aload_n 0, 1) := by decide +kernel
theorem dL_holds_307 : decode cL_holds 307 = .ok (.iload 4, 2) := by decide +kernel
theorem dL_holds_309 : decode cL_holds 309 = .ok (.iconst 3, 1) := by decide +kernel
theorem dL_holds_310 : decode cL_holds 310 = .ok (.invokevirtual 18, 3) := by decide +kernel
theorem dL_holds_313 : decode cL_holds 313 = .ok (.iadd, 1) := by decide +kernel
theorem dL_holds_314 : decode cL_holds 314 = .ok (.istore_n 3, 1) := by decide +kernel
theorem dL_holds_315 : decode cL_holds 315 = .ok (.iinc 4 1, 3) := by decide +kernel
theorem dL_holds_318 : decode cL_holds 318 = .ok (.goto (-309), 3) := by decide +kernel
theorem dL_holds_321 : decode cL_holds 321 = .ok (.iconst 0, 1) := by decide +kernel
theorem dL_holds_322 : decode cL_holds 322 = .ok (.istore 4, 2) := by decide +kernel
theorem dL_holds_324 : decode cL_holds 324 = .ok (.iconst 0, 1) := by decide +kernel
theorem dL_holds_325 : decode cL_holds 325 = .ok (.istore 5, 2) := by decide +kernel
theorem dL_holds_327 : decode cL_holds 327 = .ok (.iload 5, 2) := by decide +kernel
theorem dL_holds_329 : decode cL_holds 329 = .ok (.bipush 6, 2) := by decide +kernel
theorem dL_holds_331 : decode cL_holds 331 = .ok (.if_icmp .ge 44, 3) := by decide +kernel
theorem dL_holds_334 : decode cL_holds 334 = .ok (.aload_n 0, 1) := by decide +kernel
theorem dL_holds_335 : decode cL_holds 335 = .ok (.iload 5, 2) := by decide +kernel
theorem dL_holds_337 : decode cL_holds 337 = .ok (.iconst 0, 1) := by decide +kernel
theorem dL_holds_338 : decode cL_holds 338 = .ok (.invokevirtual 26, 3) := by decide +kernel
theorem dL_holds_341 : decode cL_holds 341 = .ok (.istore 6, 2) := by decide +kernel
theorem dL_holds_343 : decode cL_holds 343 = .ok (.iload 4, 2) := by decide +kernel
theorem dL_holds_345 : decode cL_holds 345 = .ok (.iload 6, 2) := by decide +kernel
theorem dL_holds_347 : decode cL_holds 347 = .ok (.iadd, 1) := by decide +kernel
theorem dL_holds_348 : decode cL_holds 348 = .ok (.istore 4, 2) := by decide +kernel
theorem dL_holds_350 : decode cL_holds 350 = .ok (.iload 6, 2) := by decide +kernel
theorem dL_holds_352 : decode cL_holds 352 = .ok (.ifCond .lt 15, 3) := by decide +kernel
theorem dL_holds_355 : decode cL_holds 355 = .ok (.iload 6, 2) := by decide +kernel
theorem dL_holds_357 : decode cL_holds 357 = .ok (.aload_n 0, 1) := by decide +kernel
theorem dL_holds_358 : decode cL_holds 358 = .ok (.iload 5, 2) := by decide +kernel
theorem dL_holds_360 : decode cL_holds 360 = .ok (.iconst 1, 1) := by decide +kernel
theorem dL_holds_361 : decode cL_holds 361 = .ok (.invokevirtual 26, 3) := by decide +kernel
theorem dL_holds_364 : decode cL_holds 364 = .ok (.if_icmp .le 5, 3) := by decide +kernel
theorem dL_holds_367 : decode cL_holds 367 = .ok (.iconst 0, 1) := by decide +kernel
theorem dL_holds_368 : decode cL_holds 368 = .ok (.ireturn, 1) := by decide +kernel
theorem dL_holds_369 : decode cL_holds 369 = .ok (.iinc 5 1, 3) := by decide +kernel
theorem dL_holds_372 : decode cL_holds 372 = .ok (.goto (-45), 3) := by decide +kernel
theorem dL_holds_375 : decode cL_holds 375 = .ok (.aload_n 0, 1) := by decide +kernel
theorem dL_holds_376 : decode cL_holds 376 = .ok (.iconst 1, 1) := by decide +kernel
theorem dL_holds_377 : decode cL_holds 377 = .ok (.invokevirtual 12, 3) := by decide +kernel
theorem dL_holds_380 : decode cL_holds 380 = .ok (.aload_n 0, 1) := by decide +kernel
theorem dL_holds_381 : decode cL_holds 381 = .ok (.iconst 2, 1) := by decide +kernel
theorem dL_holds_382 : decode cL_holds 382 = .ok (.invokevirtual 12, 3) := by decide +kernel
theorem dL_holds_385 : decode cL_holds 385 = .ok (.iadd, 1) := by decide +kernel
theorem dL_holds_386 : decode cL_holds 386 = .ok (.aload_n 0, 1) := by decide +kernel
theorem dL_holds_387 : decode cL_holds 387 = .ok (.iconst 3, 1) := by decide +kernel
theorem dL_holds_388 : decode cL_holds 388 = .ok (.invokevirtual 12, 3) := by decide +kernel
theorem dL_holds_391 : decode cL_holds 391 = .ok (.iadd, 1) := by decide +kernel
theorem dL_holds_392 : decode cL_holds 392 = .ok (.aload_n 0, 1) := by decide +kernel
theorem dL_holds_393 : decode cL_holds 393 = .ok (.iconst 5, 1) := by decide +kernel
theorem dL_holds_394 : decode cL_holds 394 = .ok (.invokevirtual 12, 3) := by decide +kernel
theorem dL_holds_397 : decode cL_holds 397 = .ok (.iadd, 1) := by decide +kernel
theorem dL_holds_398 : decode cL_holds 398 = .ok (.aload_n 0, 1) := by decide +kernel
theorem dL_holds_399 : decode cL_holds 399 = .ok (.iconst 4, 1) := by decide +kernel
theorem dL_holds_400 : decode cL_holds 400 = .ok (.invokevirtual 12, 3) := by decide +kernel
theorem dL_holds_403 : decode cL_holds 403 = .ok (.if_icmp .ne 7, 3) := by decide +kernel
theorem dL_holds_406 : decode cL_holds 406 = .ok (.iconst 1, 1) := by decide +kernel
theorem dL_holds_407 : decode cL_holds 407 = .ok (.goto 4, 3) := by decide +kernel
theorem dL_holds_410 : decode cL_holds 410 = .ok (.iconst 0, 1) := by decide +kernel
theorem dL_holds_411 : decode cL_holds 411 = .ok (.istore 5, 2) := by decide +kernel
theorem dL_holds_413 : decode cL_holds 413 = .ok (.iload 5, 2) := by decide +kernel
theorem dL_holds_415 : decode cL_holds 415 = .ok (.ifCond .eq 99, 3) := by decide +kernel
theorem dL_holds_418 : decode cL_holds 418 = .ok (.iload_n 1, 1) := by decide +kernel
theorem dL_holds_419 : decode cL_holds 419 = .ok (.aload_n 0, 1) := by decide +kernel
theorem dL_holds_420 : decode cL_holds 420 = .ok (.iconst 1, 1) := by decide +kernel
theorem dL_holds_421 : decode cL_holds 421 = .ok (.invokevirtual 12, 3) := by decide +kernel
theorem dL_holds_424 : decode cL_holds 424 = .ok (.if_icmp .ne 90, 3) := by decide +kernel
theorem dL_holds_427 : decode cL_holds 427 = .ok (.iload 4, 2) := by decide +kernel
theorem dL_holds_429 : decode cL_holds 429 = .ok (.aload_n 0, 1) := by decide +kernel
theorem dL_holds_430 : decode cL_holds 430 = .ok (.iconst 2, 1) := by decide +kernel
theorem dL_holds_431 : decode cL_holds 431 = .ok (.invokevirtual 12, 3) := by decide +kernel
theorem dL_holds_434 : decode cL_holds 434 = .ok (.if_icmp .ne 80, 3) := by decide +kernel
theorem dL_holds_437 : decode cL_holds 437 = .ok (.iload_n 2, 1) := by decide +kernel
theorem dL_holds_438 : decode cL_holds 438 = .ok (.aload_n 0, 1) := by decide +kernel
theorem dL_holds_439 : decode cL_holds 439 = .ok (.bipush 6, 2) := by decide +kernel
theorem dL_holds_441 : decode cL_holds 441 = .ok (.invokevirtual 12, 3) := by decide +kernel
theorem dL_holds_444 : decode cL_holds 444 = .ok (.if_icmp .ne 70, 3) := by decide +kernel
theorem dL_holds_447 : decode cL_holds 447 = .ok (.iload_n 2, 1) := by decide +kernel
theorem dL_holds_448 : decode cL_holds 448 = .ok (.aload_n 0, 1) := by decide +kernel
theorem dL_holds_449 : decode cL_holds 449 = .ok (.bipush 10, 2) := by decide +kernel
theorem dL_holds_451 : decode cL_holds 451 = .ok (.invokevirtual 12, 3) := by decide +kernel
theorem dL_holds_454 : decode cL_holds 454 = .ok (.if_icmp .gt 60, 3) := by decide +kernel
theorem dL_holds_457 : decode cL_holds 457 = .ok (.iload_n 3, 1) := by decide +kernel
theorem dL_holds_458 : decode cL_holds 458 = .ok (.aload_n 0, 1) := by decide +kernel
theorem dL_holds_459 : decode cL_holds 459 = .ok (.bipush 7, 2) := by decide +kernel
theorem dL_holds_461 : decode cL_holds 461 = .ok (.invokevirtual 12, 3) := by decide +kernel
theorem dL_holds_464 : decode cL_holds 464 = .ok (.if_icmp .ne 50, 3) := by decide +kernel
theorem dL_holds_467 : decode cL_holds 467 = .ok (.aload_n 0, 1) := by decide +kernel
theorem dL_holds_468 : decode cL_holds 468 = .ok (.invokevirtual 61, 3) := by decide +kernel
theorem dL_holds_471 : decode cL_holds 471 = .ok (.iconst (-1), 1) := by decide +kernel
theorem dL_holds_472 : decode cL_holds 472 = .ok (.if_icmp .ne 7, 3) := by decide +kernel
theorem dL_holds_475 : decode cL_holds 475 = .ok (.iconst 1, 1) := by decide +kernel
theorem dL_holds_476 : decode cL_holds 476 = .ok (.goto 4, 3) := by decide +kernel
theorem dL_holds_479 : decode cL_holds 479 = .ok (.iconst 0, 1) := by decide +kernel
theorem dL_holds_480 : decode cL_holds 480 = .ok (.iload_n 1, 1) := by decide +kernel
theorem dL_holds_481 : decode cL_holds 481 = .ok (.ifCond .ne 7, 3) := by decide +kernel
theorem dL_holds_484 : decode cL_holds 484 = .ok (.iconst 1, 1) := by decide +kernel
theorem dL_holds_485 : decode cL_holds 485 = .ok (.goto 4, 3) := by decide +kernel
theorem dL_holds_488 : decode cL_holds 488 = .ok (.iconst 0, 1) := by decide +kernel
theorem dL_holds_489 : decode cL_holds 489 = .ok (.if_icmp .ne 25, 3) := by decide +kernel
theorem dL_holds_492 : decode cL_holds 492 = .ok (.aload_n 0, 1) := by decide +kernel
theorem dL_holds_493 : decode cL_holds 493 = .ok (.invokevirtual 65, 3) := by decide +kernel
theorem dL_holds_496 : decode cL_holds 496 = .ok (.dconst 0, 1) := by decide +kernel
theorem dL_holds_497 : decode cL_holds 497 = .ok (.dcmp .l, 1) := by decide +kernel
theorem dL_holds_498 : decode cL_holds 498 = .ok (.ifCond .lt 16, 3) := by decide +kernel
theorem dL_holds_501 : decode cL_holds 501 = .ok (.aload_n 0, 1) := by decide +kernel
theorem dL_holds_502 : decode cL_holds 502 = .ok (.invokevirtual 65, 3) := by decide +kernel
theorem dL_holds_505 : decode cL_holds 505 = .ok (.dconst 1, 1) := by decide +kernel
theorem dL_holds_506 : decode cL_holds 506 = .ok (.dcmp .g, 1) := by decide +kernel
theorem dL_holds_507 : decode cL_holds 507 = .ok (.ifCond .gt 7, 3) := by decide +kernel
theorem dL_holds_510 : decode cL_holds 510 = .ok (.iconst 1, 1) := by decide +kernel
theorem dL_holds_511 : decode cL_holds 511 = .ok (.goto 4, 3) := by decide +kernel
theorem dL_holds_514 : decode cL_holds 514 = .ok (.iconst 0, 1) := by decide +kernel
theorem dL_holds_515 : decode cL_holds 515 = .ok (.ireturn, 1) := by decide +kernel
set_option maxRecDepth 20000 in
theorem ggL_law_X4_init : GoodIn wsL_law wsX4_init := goodIn_r _ [5, 6, 7, 8, 9, 10, 11, 12, 13, 14, 15, 16, 17, 18, 19, 20, 21, 22, 23, 24, 25, 26, 27, 28, 29, 30, 31, 32, 33, 34, 35, 36, 37, 38, 39, 40, 41, 42, 43, 44, 45, 46, 47, 48, 49, 50, 51, 52, 53, 54, 55, 56, 57, 58, 59, 60, 61, 62, 63, 64, 65, 66, 67, 68, 69, 70, 71, 72, 332, 333, 334, 335, 336, 337, 338, 339, 340, 324, 325, 326, 327, 328, 329, 330, 331, 341, 342, 343, 344, 345, 346, 347, 348, 349, 350, 351, 352, 353] (by decide +kernel) (by decide +kernel)
set_option maxRecDepth 20000 in
theorem gL_law_X4_init : GoodIn wsL_law (wsX4_init) := ggL_law_X4_init
set_option maxRecDepth 20000 in
theorem ggL_law_L_cell : GoodIn wsL_law wsL_cell := goodIn_r _ [76] (by decide +kernel) (by decide +kernel)
set_option maxRecDepth 20000 in
theorem gL_law_L_cell : GoodIn wsL_law (va_wsS RL 70 yL_cell wsL_cell) := goodIn_app (goodIn_of _ (by decide +kernel)) ggL_law_L_cell
set_option maxRecDepth 20000 in
theorem ggL_law_X4_count : GoodIn wsL_law wsX4_count := goodIn_ca (goodIn_r _ [80, 81, 82, 12, 83, 84, 85, 86, 87, 88, 89, 14, 90, 91, 92, 11, 93, 35, 94, 95, 96, 24, 97, 98, 99, 100, 101, 56, 54, 102, 103, 104, 105, 37, 106, 107, 108, 109, 110, 111, 112, 113, 114, 115, 116, 324, 325, 326, 327, 328, 329, 330, 331, 332, 333, 334, 335, 336, 337, 338, 339, 340, 346, 347, 348, 349, 350, 351, 352, 353] (by decide +kernel) (by decide +kernel)) (goodIn_sub (fun _ h => List.mem_append_left _ (List.mem_append_left _ (List.mem_append_right _ h))) (by decide +kernel))
set_option maxRecDepth 20000 in
theorem gL_law_X4_count : GoodIn wsL_law (wsV RL 12 RX4 yX4_count wsX4_count) := goodIn_app (goodIn_of _ (by decide +kernel)) ggL_law_X4_count
set_option maxRecDepth 20000 in
theorem ggL_law_X4_undo : GoodIn wsL_law wsX4_undo := goodIn_ca (goodIn_r _ [120, 121, 122, 14, 12, 13, 123, 124, 125, 11, 126, 35, 37, 44, 45, 46, 47, 48, 49, 50, 127, 128, 129, 24, 130, 54, 55, 56, 57, 58, 59, 131, 132, 133, 28, 134, 63, 64, 324, 325, 326, 327, 328, 329, 330, 331, 332, 333, 334, 335, 336, 337, 338, 339, 340, 346, 347, 348, 349, 350, 351, 352, 353] (by decide +kernel) (by decide +kernel)) (goodIn_sub (fun _ h => List.mem_append_left _ (List.mem_append_right _ h)) (by decide +kernel))
set_option maxRecDepth 20000 in
theorem gL_law_X4_undo : GoodIn wsL_law (wsV RL 74 RX4 yX4_undo wsX4_undo) := goodIn_app (goodIn_of _ (by decide +kernel)) ggL_law_X4_undo
set_option maxRecDepth 20000 in
theorem ggL_law_L_told : GoodIn wsL_law wsL_told := goodIn_ca (goodIn_ca (goodIn_r _ [137, 138, 139, 77, 78, 79, 2, 80, 81, 82, 12, 83, 84, 85, 86, 87, 88, 89, 14, 90, 91, 92, 11, 93, 35, 94, 95, 96, 24, 97, 98, 99, 100, 101, 56, 54, 102, 103, 104, 105, 37, 106, 107, 108, 109, 110, 111, 112, 113, 114, 115, 116, 140, 141, 142, 143, 144, 145, 146, 147, 148, 149, 150, 151, 152, 153, 154, 155, 156, 157, 158, 159, 160, 161, 162, 163, 164, 165, 166, 167, 168, 169, 170, 171, 172, 173, 174, 175, 176, 177, 178, 324, 325, 326, 327, 328, 329, 330, 331, 332, 333, 334, 335, 336, 337, 338, 339, 340, 346, 347, 348, 349, 350, 351, 352, 353] (by decide +kernel) (by decide +kernel)) (goodIn_sub (fun _ h => List.mem_append_left _ (List.mem_append_left _ (List.mem_append_right _ h))) (by decide +kernel))) (goodIn_sub (fun _ h => List.mem_append_right _ h) (by decide +kernel))
set_option maxRecDepth 20000 in
theorem gL_law_L_told : GoodIn wsL_law (va_wsS RL 77 yL_told wsL_told) := goodIn_app (goodIn_of _ (by decide +kernel)) ggL_law_L_told
theorem dL_law_0 : decode cL_law 0 = .ok (.new 13, 3) := by decide +kernel
theorem dL_law_3 : decode cL_law 3 = .ok (.dup, 1) := by decide +kernel
theorem dL_law_4 : decode cL_law 4 = .ok (.invokespecial 69, 3) := by decide +kernel
theorem dL_law_7 : decode cL_law 7 = .ok (.astore_n 1, 1) := by decide +kernel
theorem dL_law_8 : decode cL_law 8 = .ok (.iconst 0, 1) := by decide +kernel
theorem dL_law_9 : decode cL_law 9 = .ok (.istore_n 2, 1) := by decide +kernel
theorem dL_law_10 : decode cL_law 10 = .ok (.iload_n 2, 1) := by decide +kernel
theorem dL_law_11 : decode cL_law 11 = .ok (.bipush 44, 2) := by decide +kernel
theorem dL_law_13 : decode cL_law 13 = .ok (.if_icmp .ge 208, 3) := by decide +kernel
theorem dL_law_16 : decode cL_law 16 = .ok (.iload_n 2, 1) := by decide +kernel
theorem dL_law_17 : decode cL_law 17 = .ok (.iconst 4, 1) := by decide +kernel
theorem dL_law_18 : decode cL_law 18 = .ok (.if_icmp .ge 16, 3) := by decide +kernel
theorem dL_law_21 : decode cL_law 21 = .ok (.aload_n 0, 1) := by decide +kernel
theorem dL_law_22 : decode cL_law 22 = .ok (.iconst 2, 1) := by decide +kernel
theorem dL_law_23 : decode cL_law 23 = .ok (.iload_n 2, 1) := by decide +kernel
theorem dL_law_24 : decode cL_law 24 = .ok (.imul, 1) := by decide +kernel
theorem dL_law_25 : decode cL_law 25 = .ok (.invokestatic 70, 3) := by decide +kernel
theorem dL_law_28 : decode cL_law 28 = .ok (.bipush (-16), 2) := by decide +kernel
theorem dL_law_30 : decode cL_law 30 = .ok (.iand, 1) := by decide +kernel
theorem dL_law_31 : decode cL_law 31 = .ok (.goto 10, 3) := by decide +kernel
theorem dL_law_34 : decode cL_law 34 = .ok (.aload_n 0, 1) := by decide +kernel
theorem dL_law_35 : decode cL_law 35 = .ok (.iconst 2, 1) := by decide +kernel
theorem dL_law_36 : decode cL_law 36 = .ok (.iload_n 2, 1) := by decide +kernel
theorem dL_law_37 : decode cL_law 37 = .ok (.imul, 1) := by decide +kernel
theorem dL_law_38 : decode cL_law 38 = .ok (.invokestatic 70, 3) := by decide +kernel
theorem dL_law_41 : decode cL_law 41 = .ok (.istore_n 3, 1) := by decide +kernel
theorem dL_law_42 : decode cL_law 42 = .ok (.aload_n 0, 1) := by decide +kernel
theorem dL_law_43 : decode cL_law 43 = .ok (.iconst 2, 1) := by decide +kernel
theorem dL_law_44 : decode cL_law 44 = .ok (.iload_n 2, 1) := by decide +kernel
theorem dL_law_45 : decode cL_law 45 = .ok (.imul, 1) := by decide +kernel
theorem dL_law_46 : decode cL_law 46 = .ok (.iconst 1, 1) := by decide +kernel
theorem dL_law_47 : decode cL_law 47 = .ok (.iadd, 1) := by decide +kernel
theorem dL_law_48 : decode cL_law 48 = .ok (.invokestatic 70, 3) := by decide +kernel
theorem dL_law_51 : decode cL_law 51 = .ok (.istore 4, 2) := by decide +kernel
theorem dL_law_53 : decode cL_law 53 = .ok (.aload_n 1, 1) := by decide +kernel
theorem dL_law_54 : decode cL_law 54 = .ok (.bipush 14, 2) := by decide +kernel
theorem dL_law_56 : decode cL_law 56 = .ok (.invokevirtual 12, 3) := by decide +kernel
theorem dL_law_59 : decode cL_law 59 = .ok (.bipush 6, 2) := by decide +kernel
theorem dL_law_61 : decode cL_law 61 = .ok (.if_icmp .ne 13, 3) := by decide +kernel
theorem dL_law_64 : decode cL_law 64 = .ok (.aload_n 1, 1) := by decide +kernel
theorem dL_law_65 : decode cL_law 65 = .ok (.invokevirtual 74, 3) := by decide +kernel
theorem dL_law_68 : decode cL_law 68 = .ok (.pop, 1) := by decide +kernel
theorem dL_law_69 : decode cL_law 69 = .ok (.aload_n 1, 1) := by decide +kernel
theorem dL_law_70 : decode cL_law 70 = .ok (.invokevirtual 74, 3) := by decide +kernel
theorem dL_law_73 : decode cL_law 73 = .ok (.pop, 1) := by decide +kernel
theorem dL_law_74 : decode cL_law 74 = .ok (.aload_n 1, 1) := by decide +kernel
theorem dL_law_75 : decode cL_law 75 = .ok (.bipush 14, 2) := by decide +kernel
theorem dL_law_77 : decode cL_law 77 = .ok (.invokevirtual 12, 3) := by decide +kernel
theorem dL_law_80 : decode cL_law 80 = .ok (.istore 5, 2) := by decide +kernel
theorem dL_law_82 : decode cL_law 82 = .ok (.aload_n 1, 1) := by decide +kernel
theorem dL_law_83 : decode cL_law 83 = .ok (.invokestatic 77, 3) := by decide +kernel
theorem dL_law_86 : decode cL_law 86 = .ok (.lstore 6, 2) := by decide +kernel
theorem dL_law_88 : decode cL_law 88 = .ok (.aload_n 1, 1) := by decide +kernel
theorem dL_law_89 : decode cL_law 89 = .ok (.iload_n 3, 1) := by decide +kernel
theorem dL_law_90 : decode cL_law 90 = .ok (.iload 4, 2) := by decide +kernel
theorem dL_law_92 : decode cL_law 92 = .ok (.invokestatic 81, 3) := by decide +kernel
theorem dL_law_95 : decode cL_law 95 = .ok (.istore 8, 2) := by decide +kernel
theorem dL_law_97 : decode cL_law 97 = .ok (.aload_n 1, 1) := by decide +kernel
theorem dL_law_98 : decode cL_law 98 = .ok (.invokestatic 77, 3) := by decide +kernel
theorem dL_law_101 : decode cL_law 101 = .ok (.lstore 9, 2) := by decide +kernel
theorem dL_law_103 : decode cL_law 103 = .ok (.iload 8, 2) := by decide +kernel
theorem dL_law_105 : decode cL_law 105 = .ok (.bipush (-9), 2) := by decide +kernel
theorem dL_law_107 : decode cL_law 107 = .ok (.if_icmp .ne 25, 3) := by decide +kernel
theorem dL_law_110 : decode cL_law 110 = .ok (.lload 9, 2) := by decide +kernel
theorem dL_law_112 : decode cL_law 112 = .ok (.lload 6, 2) := by decide +kernel
theorem dL_law_114 : decode cL_law 114 = .ok (.lcmp, 1) := by decide +kernel
theorem dL_law_115 : decode cL_law 115 = .ok (.ifCond .ne 30, 3) := by decide +kernel
theorem dL_law_118 : decode cL_law 118 = .ok (.aload_n 1, 1) := by decide +kernel
theorem dL_law_119 : decode cL_law 119 = .ok (.bipush 14, 2) := by decide +kernel
theorem dL_law_121 : decode cL_law 121 = .ok (.invokevirtual 12, 3) := by decide +kernel
theorem dL_law_124 : decode cL_law 124 = .ok (.iload 5, 2) := by decide +kernel
theorem dL_law_126 : decode cL_law 126 = .ok (.if_icmp .eq 21, 3) := by decide +kernel
theorem dL_law_129 : decode cL_law 129 = .ok (.goto 16, 3) := by decide +kernel
theorem dL_law_132 : decode cL_law 132 = .ok (.aload_n 1, 1) := by decide +kernel
theorem dL_law_133 : decode cL_law 133 = .ok (.bipush 14, 2) := by decide +kernel
theorem dL_law_135 : decode cL_law 135 = .ok (.invokevirtual 12, 3) := by decide +kernel
theorem dL_law_138 : decode cL_law 138 = .ok (.iload 5, 2) := by decide +kernel
theorem dL_law_140 : decode cL_law 140 = .ok (.iconst 1, 1) := by decide +kernel
theorem dL_law_141 : decode cL_law 141 = .ok (.iadd, 1) := by decide +kernel
theorem dL_law_142 : decode cL_law 142 = .ok (.if_icmp .eq 5, 3) := by decide +kernel
theorem dL_law_145 : decode cL_law 145 = .ok (.iconst 0, 1) := by decide +kernel
theorem dL_law_146 : decode cL_law 146 = .ok (.ireturn, 1) := by decide +kernel
theorem dL_law_147 : decode cL_law 147 = .ok (.iload 8, 2) := by decide +kernel
theorem dL_law_149 : decode cL_law 149 = .ok (.bipush (-9), 2) := by decide +kernel
theorem dL_law_151 : decode cL_law 151 = .ok (.if_icmp .le 55, 3) := by decide +kernel
theorem dL_law_154 : decode cL_law 154 = .ok (.iload_n 3, 1) := by decide +kernel
theorem dL_law_155 : decode cL_law 155 = .ok (.bipush 10, 2) := by decide +kernel
theorem dL_law_157 : decode cL_law 157 = .ok (.ishr, 1) := by decide +kernel
theorem dL_law_158 : decode cL_law 158 = .ok (.iconst 1, 1) := by decide +kernel
theorem dL_law_159 : decode cL_law 159 = .ok (.iand, 1) := by decide +kernel
theorem dL_law_160 : decode cL_law 160 = .ok (.ifCond .ne 46, 3) := by decide +kernel
theorem dL_law_163 : decode cL_law 163 = .ok (.aload_n 1, 1) := by decide +kernel
theorem dL_law_164 : decode cL_law 164 = .ok (.invokevirtual 74, 3) := by decide +kernel
theorem dL_law_167 : decode cL_law 167 = .ok (.iload 5, 2) := by decide +kernel
theorem dL_law_169 : decode cL_law 169 = .ok (.if_icmp .ne 35, 3) := by decide +kernel
theorem dL_law_172 : decode cL_law 172 = .ok (.aload_n 1, 1) := by decide +kernel
theorem dL_law_173 : decode cL_law 173 = .ok (.invokestatic 77, 3) := by decide +kernel
theorem dL_law_176 : decode cL_law 176 = .ok (.lload 6, 2) := by decide +kernel
theorem dL_law_178 : decode cL_law 178 = .ok (.lcmp, 1) := by decide +kernel
theorem dL_law_179 : decode cL_law 179 = .ok (.ifCond .ne 25, 3) := by decide +kernel
theorem dL_law_182 : decode cL_law 182 = .ok (.aload_n 1, 1) := by decide +kernel
theorem dL_law_183 : decode cL_law 183 = .ok (.iload_n 3, 1) := by decide +kernel
theorem dL_law_184 : decode cL_law 184 = .ok (.iload 4, 2) := by decide +kernel
theorem dL_law_186 : decode cL_law 186 = .ok (.invokestatic 81, 3) := by decide +kernel
theorem dL_law_189 : decode cL_law 189 = .ok (.iload 8, 2) := by decide +kernel
theorem dL_law_191 : decode cL_law 191 = .ok (.if_icmp .ne 13, 3) := by decide +kernel
theorem dL_law_194 : decode cL_law 194 = .ok (.aload_n 1, 1) := by decide +kernel
theorem dL_law_195 : decode cL_law 195 = .ok (.invokestatic 77, 3) := by decide +kernel
theorem dL_law_198 : decode cL_law 198 = .ok (.lload 9, 2) := by decide +kernel
theorem dL_law_200 : decode cL_law 200 = .ok (.lcmp, 1) := by decide +kernel
theorem dL_law_201 : decode cL_law 201 = .ok (.ifCond .eq 5, 3) := by decide +kernel
theorem dL_law_204 : decode cL_law 204 = .ok (.iconst 0, 1) := by decide +kernel
theorem dL_law_205 : decode cL_law 205 = .ok (.ireturn, 1) := by decide +kernel
theorem dL_law_206 : decode cL_law 206 = .ok (.aload_n 1, 1) := by decide +kernel
theorem dL_law_207 : decode cL_law 207 = .ok (.invokestatic 85, 3) := by decide +kernel
theorem dL_law_210 : decode cL_law 210 = .ok (.ifCond .ne 5, 3) := by decide +kernel
theorem dL_law_213 : decode cL_law 213 = .ok (.iconst 0, 1) := by decide +kernel
theorem dL_law_214 : decode cL_law 214 = .ok (.ireturn, 1) := by decide +kernel
theorem dL_law_215 : decode cL_law 215 = .ok (.iinc 2 1, 3) := by decide +kernel
theorem dL_law_218 : decode cL_law 218 = .ok (.goto (-208), 3) := by decide +kernel
theorem dL_law_221 : decode cL_law 221 = .ok (.iconst 1, 1) := by decide +kernel
theorem dL_law_222 : decode cL_law 222 = .ok (.ireturn, 1) := by decide +kernel
end
section
set_option maxRecDepth 20000 in
theorem ggL_law_L_act : GoodIn wsL_law wsL_act := goodIn_ca (goodIn_ca (goodIn_ca (goodIn_r _ [181, 182, 183, 75, 184, 185, 186, 187, 188, 2, 189, 144, 145, 81, 82, 12, 173, 174, 175, 85, 86, 176, 177, 178, 190, 191, 192, 193, 14, 13, 123, 124, 125, 11, 126, 35, 37, 44, 45, 46, 47, 48, 49, 50, 127, 128, 129, 24, 130, 54, 55, 56, 57, 58, 59, 131, 132, 133, 28, 134, 63, 64, 194, 195, 196, 197, 146, 151, 152, 153, 198, 199, 200, 201, 202, 203, 204, 205, 206, 207, 208, 209, 210, 211, 95, 96, 97, 98, 99, 100, 101, 212, 213, 214, 215, 216, 217, 218, 219, 220, 221, 222, 223, 224, 225, 226, 227, 84, 154, 228, 229, 230, 231, 232, 233, 234, 235, 147, 149, 148, 168, 155, 156, 157, 158, 159, 160, 161, 162, 163, 89, 236, 237, 238, 239, 240, 241, 242, 243, 244, 245, 246, 247, 77, 78, 79, 80, 83, 87, 88, 90, 91, 92, 93, 94, 102, 103, 104, 105, 106, 107, 108, 109, 110, 111, 112, 113, 114, 115, 116, 140, 141, 142, 143, 150, 248, 249, 250, 251, 121, 122, 252, 253, 254, 255, 256, 257, 258, 259, 260, 261, 262, 263, 264, 265, 266, 267, 268, 269, 270, 271, 272, 273, 274, 275, 276, 277, 278, 279, 280, 281, 282, 283, 284, 285, 286, 287, 288, 289, 290, 291, 292, 293, 294, 295, 296, 297, 324, 325, 326, 327, 328, 329, 330, 331, 332, 333, 334, 335, 336, 337, 338, 339, 340, 352, 353, 346, 347, 348, 349, 350, 351] (by decide +kernel) (by decide +kernel)) (goodIn_sub (fun _ h => List.mem_append_right _ h) (by decide +kernel))) (goodIn_sub (fun _ h => List.mem_append_left _ (List.mem_append_left _ (List.mem_append_right _ h))) (by decide +kernel))) (goodIn_sub (fun _ h => List.mem_append_left _ (List.mem_append_right _ h)) (by decide +kernel))
set_option maxRecDepth 20000 in
theorem gL_law_L_act : GoodIn wsL_law (va_wsS RL 81 yL_act wsL_act) := goodIn_app (goodIn_of _ (by decide +kernel)) ggL_law_L_act
end
section
set_option maxRecDepth 20000 in
theorem ggL_law_L_holds : GoodIn wsL_law wsL_holds := goodIn_ca (goodIn_ca (goodIn_r _ [300, 140, 141, 142, 2, 143, 144, 145, 81, 82, 12, 146, 147, 148, 149, 150, 151, 152, 153, 154, 95, 96, 24, 97, 98, 99, 100, 101, 56, 54, 155, 156, 157, 158, 159, 160, 161, 162, 163, 89, 164, 165, 166, 167, 168, 77, 78, 79, 80, 83, 84, 85, 86, 87, 88, 14, 90, 91, 92, 11, 93, 35, 94, 102, 103, 104, 105, 37, 106, 107, 108, 109, 110, 111, 112, 113, 114, 115, 116, 301, 302, 303, 304, 256, 257, 258, 259, 260, 261, 204, 262, 263, 264, 265, 266, 58, 305, 306, 307, 308, 173, 176, 177, 178, 236, 237, 238, 28, 239, 64, 63, 169, 170, 171, 172, 174, 175, 309, 310, 311, 312, 313, 314, 315, 316, 317, 318, 319, 320, 321, 322, 323, 324, 325, 326, 327, 328, 329, 330, 331, 332, 333, 334, 335, 336, 337, 338, 339, 340, 346, 347, 348, 349, 350, 351, 352, 353] (by decide +kernel) (by decide +kernel)) (goodIn_sub (fun _ h => List.mem_append_right _ h) (by decide +kernel))) (goodIn_sub (fun _ h => List.mem_append_left _ (List.mem_append_left _ (List.mem_append_right _ h))) (by decide +kernel))
set_option maxRecDepth 20000 in
theorem gL_law_L_holds : GoodIn wsL_law (va_wsS RL 85 yL_holds wsL_holds) := goodIn_app (goodIn_of _ (by decide +kernel)) ggL_law_L_holds
end
