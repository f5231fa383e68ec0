section
-- ===== PART A: goes FIRST, ahead of the names: the tables' words, and 'selects' of the private methods out of them =====
/-- a private method of a class that the tables say can be made, by its rows of tables_1 -/
def lw_okq (q : MethodName × Nat) : Prop := (q.1.cls ≠ "java/lang/invoke/MethodHandle" ∧ q.1.cls ≠ "java/lang/invoke/VarHandle") ∧ Cond.instantiable q.1.cls q.2 ∈ tables_1 ∧ Cond.privateMethod q.1 ∈ tables_1 ∧ Cond.instanceMethod q.1 ∈ tables_1
theorem lw_p0 : lw_okq (⟨"java/lang/Throwable", "fillInStackTrace", "(I)Ljava/lang/Throwable;"⟩, 6) := ⟨⟨by decide +kernel, by decide +kernel⟩, List.mem_of_getElem? (i := 310) (by decide +kernel), List.mem_of_getElem? (i := 308) (by decide +kernel), List.mem_of_getElem? (i := 309) (by decide +kernel)⟩
theorem lw_p1 : lw_okq (⟨"LatticePaths$Board", "mark", "(III)V"⟩, 8) := ⟨⟨by decide +kernel, by decide +kernel⟩, List.mem_of_getElem? (i := 30) (by decide +kernel), List.mem_of_getElem? (i := 376) (by decide +kernel), List.mem_of_getElem? (i := 377) (by decide +kernel)⟩
theorem lw_p2 : lw_okq (⟨"LatticePaths", "checkPath", "(I)V"⟩, 10) := ⟨⟨by decide +kernel, by decide +kernel⟩, List.mem_of_getElem? (i := 22) (by decide +kernel), List.mem_of_getElem? (i := 549) (by decide +kernel), List.mem_of_getElem? (i := 550) (by decide +kernel)⟩
theorem lw_p3 : lw_okq (⟨"LatticePaths$Board", "refusalAt", "(II)I"⟩, 8) := ⟨⟨by decide +kernel, by decide +kernel⟩, List.mem_of_getElem? (i := 30) (by decide +kernel), List.mem_of_getElem? (i := 565) (by decide +kernel), List.mem_of_getElem? (i := 566) (by decide +kernel)⟩
theorem lw_p4 : lw_okq (⟨"LatticePaths$Board", "noteStep", "(I)V"⟩, 8) := ⟨⟨by decide +kernel, by decide +kernel⟩, List.mem_of_getElem? (i := 30) (by decide +kernel), List.mem_of_getElem? (i := 572) (by decide +kernel), List.mem_of_getElem? (i := 573) (by decide +kernel)⟩
theorem lw_p5 : lw_okq (⟨"LatticePaths", "checkPlace", "(II)V"⟩, 10) := ⟨⟨by decide +kernel, by decide +kernel⟩, List.mem_of_getElem? (i := 22) (by decide +kernel), List.mem_of_getElem? (i := 627) (by decide +kernel), List.mem_of_getElem? (i := 628) (by decide +kernel)⟩
theorem lw_p6 : lw_okq (⟨"LatticePaths$Turning", "land", "(LLatticePaths$Trail;II)Z"⟩, 1) := ⟨⟨by decide +kernel, by decide +kernel⟩, List.mem_of_getElem? (i := 158) (by decide +kernel), List.mem_of_getElem? (i := 641) (by decide +kernel), List.mem_of_getElem? (i := 642) (by decide +kernel)⟩
theorem lw_p7 : lw_okq (⟨"LatticePaths", "checkTwoPaths", "(II)V"⟩, 10) := ⟨⟨by decide +kernel, by decide +kernel⟩, List.mem_of_getElem? (i := 22) (by decide +kernel), List.mem_of_getElem? (i := 687) (by decide +kernel), List.mem_of_getElem? (i := 688) (by decide +kernel)⟩
theorem lw_p8 : lw_okq (⟨"LatticePaths$Board", "neighboursIn", "(II)I"⟩, 8) := ⟨⟨by decide +kernel, by decide +kernel⟩, List.mem_of_getElem? (i := 30) (by decide +kernel), List.mem_of_getElem? (i := 846) (by decide +kernel), List.mem_of_getElem? (i := 847) (by decide +kernel)⟩
def lw_privs_1 : List (MethodName × Nat) := [(⟨"java/lang/Throwable", "fillInStackTrace", "(I)Ljava/lang/Throwable;"⟩, 6), (⟨"LatticePaths$Board", "mark", "(III)V"⟩, 8), (⟨"LatticePaths", "checkPath", "(I)V"⟩, 10), (⟨"LatticePaths$Board", "refusalAt", "(II)I"⟩, 8), (⟨"LatticePaths$Board", "noteStep", "(I)V"⟩, 8), (⟨"LatticePaths", "checkPlace", "(II)V"⟩, 10), (⟨"LatticePaths$Turning", "land", "(LLatticePaths$Trail;II)Z"⟩, 1), (⟨"LatticePaths", "checkTwoPaths", "(II)V"⟩, 10), (⟨"LatticePaths$Board", "neighboursIn", "(II)I"⟩, 8)]
theorem lw_r1 : ∀ q ∈ lw_privs_1, lw_okq q := List.forall_mem_cons.mpr ⟨lw_p0, List.forall_mem_cons.mpr ⟨lw_p1, List.forall_mem_cons.mpr ⟨lw_p2, List.forall_mem_cons.mpr ⟨lw_p3, List.forall_mem_cons.mpr ⟨lw_p4, List.forall_mem_cons.mpr ⟨lw_p5, List.forall_mem_cons.mpr ⟨lw_p6, List.forall_mem_cons.mpr ⟨lw_p7, List.forall_mem_cons.mpr ⟨lw_p8, fun _ h => absurd h List.not_mem_nil⟩⟩⟩⟩⟩⟩⟩⟩⟩
def lw_privs : List (MethodName × Nat) := lw_privs_1
def lw_tbl : List Cond := k2_sels lw_privs ++ tables_1
theorem lw_privs_ok : ∀ q ∈ lw_privs, lw_okq q := lw_r1
/-- the streams that the claim lets the run draw from -/
abbrev lw_cs : List Choice := [Jvm.Choice.named "NaN.bits"]
theorem lw_bits : nanBits ∈ lw_cs := by first | decide | exact List.mem_cons_self | simp [lw_cs, nanBits]
end
section
/-! ===== BEGIN words of one list among another's, by their places ===== -/
theorem goodIn_r {big : List Cond} (ws : List Cond) (ps : List Nat) (hp : ws = ps.filterMap (fun i => big[i]?)) (h : ws.all goodWord = true) : GoodIn big ws := by
  intro w hw
  have h1 := List.all_eq_true.mp h w hw
  rw [hp] at hw
  obtain ⟨i, -, hi⟩ := List.mem_filterMap.mp hw
  have hm : w ∈ big := by first | exact List.mem_of_getElem? hi | exact List.getElem?_mem hi
  exact ⟨hm, good_of_word h1⟩
theorem goodIn_app {big a b : List Cond} (ha : GoodIn big a) (hb : GoodIn big b) : GoodIn big (a ++ b) := fun w h => (List.mem_append.mp h).elim (ha w) (hb w)
theorem goodIn_ca {big a b : List Cond} {c : Cond} (ha : GoodIn big (c :: a)) (hb : GoodIn big b) : GoodIn big (c :: (a ++ b)) := fun w h => (List.mem_cons.mp h).elim (fun e => ha w (List.mem_cons.mpr (Or.inl e))) (fun h => (List.mem_append.mp h).elim (fun h => ha w (List.mem_cons.mpr (Or.inr h))) (hb w))
theorem goodIn_sub {big ws : List Cond} (hm : ∀ w ∈ ws, w ∈ big) (h : ws.all goodWord = true) : GoodIn big ws := fun w hw => ⟨hm w hw, good_of_word (List.all_eq_true.mp h w hw)⟩
/-! ===== END ===== -/

/-! ===== BEGIN exceptions that leave a method, and their catching by the caller (launches without stack traces) ===== -/
section VXA
/-! The laws vx_back, vx_callV, vx_callS, vx_callSW, vx_throw0, vx_throwS follow proofs of the library, with one case more: JvmDerived/Free/Laws.lean (Back.of_free), Shelf42/LK1.lean (callV, callS), Shelf/KitTraced.lean (throwNew0V, throwNewS). -/
/-- where a method has thrown q: the class by its name, the cell, what was written, the world -/
def vx_T (XC : String → State → State → Prop) (st : State) (q : Addr) (t : State) (mc ms : Nat) (free : Addr → Prop) : Prop :=
  ∃ (E : String) (ce : Cell) (L : List Loc), XC E st t ∧ t.heap[q]? = some ce ∧ ce.vm = .none ∧ st.vm.findClass E = some ce.cls ∧ st.WarmedH t.vm ∧ st.sameButNew ({ t with vm := st.vm } : State) L mc ms ∧ ∀ z ∈ L, free z.base
def vx_Q (Qc : Array Value → State → Outcome → State → Prop) (XC : String → State → State → Prop) (mc ms : Nat) (free : Addr → Prop) : Array Value → State → Outcome → State → Prop := fun a st o t =>
  (Qc a st o t ∧ ∃ L, FrameEnd st o t L mc ms ∧ ∀ q ∈ L, free q.base) ∨ ∃ q, o = .threw q ∧ vx_T XC st q t mc ms free
/-- a callee that returns or throws -/
def vx_Met (l : Launch) (y : MethodName) (ws : List Cond) (rm : Room) (Pc : Array Value → State → Prop) (Qc : Array Value → State → Outcome → State → Prop) (XC : String → State → State → Prop) (mc ms : Nat) (free : Addr → Prop) : Prop :=
  MetFree l y (headSpec ws rm) Pc (fun _ _ _ _ _ => True) (vx_Q Qc XC mc ms free)
def vx_Post (XC : String → State → State → Prop) (mc ms : Nat) (free : Addr → Prop) : Pt → Array Value → Addr → Pt → Prop := fun A a q B =>
  ∃ (g : JFrame) (mk : MethodId) (t : State) (L : List Loc) (E : String) (ce : Cell), B.U.heap = t.heap ∧ B.U.vm = t.vm ∧ XC E (A.U.calling g mk a) t ∧ t.heap[q]? = some ce ∧ ce.vm = .none ∧ A.U.vm.findClass E = some ce.cls ∧ B.locs = A.locs ++ L ∧ (∀ z ∈ L, free z.base) ∧ B.cells = A.cells + mc ∧ B.slots = A.slots + ms
def vx_Back (l : Launch) (R : Room) (p : Program) (e : Env) (below : List Frame) (s : State) (sargs : Array Value) (y : MethodName) (len W9 : Nat)
    (Pre : Pt → Array Value → Prop) (Post : Pt → Array Value → Option Value → Pt → Prop) (PostX : Pt → Array Value → Addr → Pt → Prop) : Prop :=
  ∀ (m : MethodId) (meth : Method) (c : Code) (A : Pt) (g : JFrame) (ig : Instr) (mk : MethodId) (a : Array Value),
    Stand p l e R s m sargs below meth c A.U A.locs A.cells A.slots → g.method = m → g.locals.size = c.maxLocals → decode c.code g.pc = .ok (ig, len) →
    2 * g.monitorRoom + (g.stack.map fun v => v.category).sum ≤ W9 → A.U.methodNamed? y = some mk → Pre A a →
    (∃ (v : Option Value) (B : Pt), Stand p l e R s m sargs below meth c B.U B.locs B.cells B.slots ∧ Post A a v B ∧
      Steps p.tables e below (doInvoke e (A.U.setTop g) [] mk a).1 (B.U.setTop { g with pc := g.pc + len, stack := v.toList ++ g.stack })) ∨
    (∃ (q : Addr) (B : Pt), Stand p l e R s m sargs below meth c B.U B.locs B.cells B.slots ∧ PostX A a q B ∧
      Steps p.tables e below (doInvoke e (A.U.setTop g) [] mk a).1 ((B.U.setTop g).pushFrame (.throwing q)))
section Payer
variable {l : Launch} {R : Room} {p : Program} {e : Env} {below : List Frame} {s : State} {sargs : Array Value} {y : MethodName} {len W9 : Nat}
theorem vx_back {ws : List Cond} {rm : Room} {Pc : Array Value → State → Prop} {Qc : Array Value → State → Outcome → State → Prop} {XC : String → State → State → Prop} {mc ms : Nat} {free : Addr → Prop} {bytes : ByteArray} {maxL : Nat} {ret : Option FieldType}
    (hM : vx_Met l y ws rm Pc Qc XC mc ms free) (hblind : FrameBlind Pc) (hrc : rm.cells = mc) (hrs : rm.slots = ms)
    (hframes : rm.frames + 1 ≤ R.frames) (hlocals : W9 + (maxL + 11) + rm.locals ≤ R.locals)
    (hws : ∀ w ∈ ws, ∀ a' U, s.WarmedH U.vm → w.before a' U = true) (hcode : Cond.code y bytes maxL ret ∈ ws) (hinit : ∀ a' U, s.WarmedH U.vm → (Cond.initialized y.cls).before a' U = true) :
    vx_Back l R p e below s sargs y len W9 (PreOf R mc ms Pc) (PostOf Qc mc ms free) (vx_Post XC mc ms free) := by
  intro m meth c A g ig mk a X hg hsize hdg hW hn hp
  have h1 : (headSpec ws rm).pre.before a A.U = true := atoms_intro fun w hw => hws w hw _ _ X.warmed
  have h2 : (Cond.code y bytes maxL ret).before a A.U = true := hws _ hcode _ _ X.warmed
  have h3 : (Cond.initialized y.cls).before a A.U = true := hinit _ _ X.warmed
  have h4 : A.cells + (headSpec ws rm).room.cells ≤ R.cells := by rw [show (headSpec ws rm).room.cells = mc from hrc]; exact hp.1
  have h5 : A.slots + (headSpec ws rm).room.slots ≤ R.slots := by rw [show (headSpec ws rm).room.slots = ms from hrs]; exact hp.2.1
  have hPc : Pc a (A.U.calling g mk a) := hblind _ _ _ _ hp.2.2
  obtain ⟨U, Ls, c0, s0⟩ := A
  dsimp only [Pt.U, Pt.locs, Pt.cells, Pt.slots] at h1 h2 h3 h4 h5 X hn hPc ⊢
  obtain ⟨methY, cY, hmY, hcY, -, hlY, -, -, -, -⟩ := Cond.code_spec hn h2
  obtain ⟨kY, hkY, -⟩ := className_of_methodNamed hn
  have hinitY : kY.init = .initialized := Cond.initialized_spec (findClass_of_methodNamed hn) hkY h3
  have h : At U g.method c below := by rw [hg]; exact X.here
  have hlocals9 : W9 + (maxL + 11) + (headSpec ws rm).room.locals ≤ R.locals := hlocals
  have happ : (headSpec ws rm).appliesLoose y e.platform (U.calling g mk a) = true :=
    Spec.appliesLoose_calling (g := g) h hdg hn hkY hinitY
      (X.room_calling (g := g) (R' := (headSpec ws rm).room) hsize hmY hcY hframes (by rw [hlY]; omega) h4 h5) h1
  obtain ⟨mid, hmid⟩ := h.above
  have hfr : (U.setTop g).frames = (.java g :: mid) ++ below := by rw [State.frames_setTop' g h.top, hmid]; rfl
  obtain ⟨o, s₂, hsteps, -, hend, hq⟩ := Steps.callFree hM p X.admits X.cas X.clock (acts := []) hfr happ hPc trivial
  have hq' : vx_Q Qc XC mc ms free a (U.calling g mk a) o s₂ := hq
  rw [State.frames_setTop' g h.top] at hend
  obtain ⟨g₀, hg0⟩ := Option.isSome_iff_exists.mp h.top
  obtain ⟨r, hr⟩ := State.topJava?_eq_some.mp hg0
  have hr' : (({ U with heap := s₂.heap, slotsUsed := s₂.slotsUsed } : State).setVm s₂.vm).frames = .java g₀ :: r := hr
  rcases hq' with ⟨hqc, L, hfe, hL⟩ | ⟨q, rfl, E, ce, L, hx, hce, hcv, hcl, hW₂, hsm, hL⟩
  · obtain ⟨⟨v, rfl⟩, hW₂, e2, q2, q3, q4, q5, q6⟩ := id hfe
    have e3 : s₂ = ({ (U.calling g mk a).setFrames s₂.frames with heap := s₂.heap, slotsUsed := s₂.slotsUsed } : State).setVm s₂.vm := by
      have : s₂ = ({ s₂ with vm := (U.calling g mk a).vm } : State).setVm s₂.vm := rfl
      rw [e2] at this
      exact this
    obtain ⟨c₂, i₂, len₂, hc₂, hd₂, hf₂⟩ := hend
    have hW' : U.WarmedH s₂.vm := hW₂
    have hcc : c₂ = c := by
      have h1 : s₂.code? g.method = U.code? g.method := by
        rw [State.code?_eq, State.code?_eq, hW'.alike.method?]
      exact Option.some.inj (hc₂.symm.trans (h1.trans h.code))
    subst hcc
    have hlen : len₂ = len := by rw [hdg] at hd₂; cases hd₂; rfl
    subst hlen
    have hs₂ : s₂ = (({ U with heap := s₂.heap, slotsUsed := s₂.slotsUsed } : State).setVm s₂.vm).setTop { g with pc := g.pc + len₂, stack := v.toList ++ g.stack } := by
      refine e3.trans ?_
      rw [hf₂, State.calling_eq h.top, State.setFrames_setFrames, State.setTop_of_frames _ hr', hr]
      rfl
    have hsame : U.sameButNew ({ U with heap := s₂.heap, slotsUsed := s₂.slotsUsed } : State) L mc ms := by
      refine ⟨?_, q2, q3, q4, q5, q6⟩
      obtain ⟨t, ht, -⟩ := State.frames_cons hr
      show ({ U with heap := s₂.heap, slotsUsed := s₂.slotsUsed } : State) = { U.setFrames U.frames with heap := s₂.heap, slotsUsed := s₂.slotsUsed }
      rw [State.setFrames_self ht]
    subst hg
    refine Or.inl ⟨v, ⟨(({ U with heap := s₂.heap, slotsUsed := s₂.slotsUsed } : State).setVm s₂.vm), Ls ++ L, c0 + mc, s0 + ms⟩,
      ⟨X.admits, X.cas, X.clock, X.frames, X.room, X.hears, X.method, X.code, (X.here.setHeapUsed s₂.heap s₂.slotsUsed).setVm hW'.alike, X.tail, State.WarmedH.trans X.warmed hW', X.limits, X.bytes, X.same.trans (hsame.setVm s.vm)⟩,
      ⟨g, mk, s₂, L, rfl, rfl, hqc, rfl, hL, rfl, rfl⟩, ?_⟩
    show Steps p.tables e below _ ((({ U with heap := s₂.heap, slotsUsed := s₂.slotsUsed } : State).setVm s₂.vm).setTop { g with pc := g.pc + len₂, stack := v.toList ++ g.stack })
    rw [← hs₂]
    exact hsteps
  · obtain ⟨e2, q2, q3, q4, q5, q6⟩ := id hsm
    have e3 : s₂ = ({ (U.calling g mk a).setFrames s₂.frames with heap := s₂.heap, slotsUsed := s₂.slotsUsed } : State).setVm s₂.vm := by
      have : s₂ = ({ s₂ with vm := (U.calling g mk a).vm } : State).setVm s₂.vm := rfl
      rw [e2] at this
      exact this
    have hf₂ : s₂.frames = .throwing q :: .java g :: U.frames.tail := hend
    have hW' : U.WarmedH s₂.vm := hW₂
    have hs₂ : s₂ = ((({ U with heap := s₂.heap, slotsUsed := s₂.slotsUsed } : State).setVm s₂.vm).setTop g).pushFrame (.throwing q) := by
      refine e3.trans ?_
      rw [hf₂, State.calling_eq h.top, State.setFrames_setFrames, State.pushFrame, State.frames_setTop _ hr', State.setTop_of_frames _ hr', State.setFrames_setFrames, hr]
      rfl
    have hsame : U.sameButNew ({ U with heap := s₂.heap, slotsUsed := s₂.slotsUsed } : State) L mc ms := by
      refine ⟨?_, q2, q3, q4, q5, q6⟩
      obtain ⟨t, ht, -⟩ := State.frames_cons hr
      show ({ U with heap := s₂.heap, slotsUsed := s₂.slotsUsed } : State) = { U.setFrames U.frames with heap := s₂.heap, slotsUsed := s₂.slotsUsed }
      rw [State.setFrames_self ht]
    subst hg
    refine Or.inr ⟨q, ⟨(({ U with heap := s₂.heap, slotsUsed := s₂.slotsUsed } : State).setVm s₂.vm), Ls ++ L, c0 + mc, s0 + ms⟩,
      ⟨X.admits, X.cas, X.clock, X.frames, X.room, X.hears, X.method, X.code, (X.here.setHeapUsed s₂.heap s₂.slotsUsed).setVm hW'.alike, X.tail, State.WarmedH.trans X.warmed hW', X.limits, X.bytes, X.same.trans (hsame.setVm s.vm)⟩,
      ⟨g, mk, s₂, L, E, ce, rfl, rfl, hx, hce, hcv, hcl, rfl, hL, rfl, rfl⟩, ?_⟩
    show Steps p.tables e below _ (((({ U with heap := s₂.heap, slotsUsed := s₂.slotsUsed } : State).setVm s₂.vm).setTop g).pushFrame (.throwing q))
    rw [← hs₂]
    exact hsteps
end Payer
section Calls
variable {p : Program} {l : Launch} {e : Env} {R : Room} {s : State} {m : MethodId} {args : Array Value} {below : List Frame} {meth : Method} {c : Code} {T : State} {locs : List Loc} {cells slots : Nat}
theorem vx_callV (X : Stand p l e R s m args below meth c T locs cells slots) (hexec : p.tables.exec = Jvm.exec) {own C : String} {index : Nat} {y : MethodName} {bytes : ByteArray} {maxL : Nat} {ret : Option FieldType}
    (hown : s.vm.findClass own = some m.cls) (hlink : (Cond.methodLink own index y).before args s = true) (hinst : (Cond.instanceMethod y).before args s = true) (hsel : (Cond.selects C y y).before args s = true)
    (hcode : (Cond.code y bytes maxL ret).before args s = true) (hy : y.cls ≠ "java/lang/invoke/MethodHandle" ∧ y.cls ≠ "java/lang/invoke/VarHandle")
    {W9 : Nat} {Pre : Pt → Array Value → Prop} {Post : Pt → Array Value → Option Value → Pt → Prop} {PostX : Pt → Array Value → Addr → Pt → Prop} (hK : vx_Back l R p e below s args y 3 W9 Pre Post PostX)
    {b : Addr} {cellB : Cell} (hcell : T.heap[b]? = some cellB) (hobj : cellB.vm.isStatics = false) (hcls : s.vm.findClass C = some cellB.cls)
    {g : JFrame} (hg : g.method = m) (hsize : g.locals.size = c.maxLocals) {argsL rest : List Value} (hlen : ∀ sig, parseMethodDescriptor y.desc = some sig → argsL.length = sig.parameters.length)
    (hstack : g.stack = argsL.reverse ++ .ref b :: rest) (hW : 2 * g.monitorRoom + (rest.map fun v => v.category).sum ≤ W9) (hdg : decode c.code g.pc = .ok (.invokevirtual index, 3))
    (hpre : ∀ vm₁, s.WarmedH vm₁ → Pre ⟨T.setVm vm₁, locs, cells, slots⟩ (Value.ref b :: argsL).toArray) :
    (∃ (v : Option Value) (vm₁ : Vm) (B : Pt), s.WarmedH vm₁ ∧ Stand p l e R s m args below meth c B.U B.locs B.cells B.slots ∧ Post ⟨T.setVm vm₁, locs, cells, slots⟩ (Value.ref b :: argsL).toArray v B ∧
      ∀ target, Steps p.tables e below (B.U.setTop { g with pc := g.pc + 3, stack := v.toList ++ rest }) target → Steps p.tables e below (T.setTop g) target) ∨
    (∃ (q : Addr) (vm₁ : Vm) (B : Pt), s.WarmedH vm₁ ∧ Stand p l e R s m args below meth c B.U B.locs B.cells B.slots ∧ PostX ⟨T.setVm vm₁, locs, cells, slots⟩ (Value.ref b :: argsL).toArray q B ∧
      Steps p.tables e below (T.setTop g) ((B.U.setTop { g with stack := rest }).pushFrame (.throwing q))) := by
  obtain ⟨mk, methM, hnamed, hmethM, hstM, habM⟩ := Cond.instanceMethod_spec hinst
  obtain ⟨methM', cM, hmethM', -, -, -, -, -, -, hsigM⟩ := Cond.code_spec hnamed hcode
  cases hmethM.symm.trans hmethM'
  obtain ⟨c2, r2, m2, q1, q2, q3, q4, kP, hkP, hkPi⟩ := Cond.selects_spec hsel
  cases hcls.symm.trans q1
  cases (State.methodFound?_of_named hnamed hy).symm.trans q2
  cases hnamed.symm.trans q3
  have hselP : selectMethod e.platform s.vm cellB.cls mk = .method mk := by rw [Launch.admits_selectMethod X.admits]; exact q4
  obtain ⟨vm₁, X₁, hstep₁⟩ := X.invokevirtual hexec hown hlink hnamed hmethM hstM hkP hkPi hy (a := b) (cell := cellB) hcell
    (fun z h => by rw [h] at hobj; cases hobj) hselP hmethM habM hkP hkPi (g := g) hg (argsL := argsL) (rest := rest) (hlen _ hsigM) hstack hdg
  rcases hK m meth c ⟨T.setVm vm₁, locs, cells, slots⟩ { g with stack := rest } (.invokevirtual index) mk (Value.ref b :: argsL).toArray X₁ hg hsize hdg hW (X₁.named hnamed) (hpre vm₁ X₁.warmed) with ⟨v, B, X', hpost, hsteps⟩ | ⟨q, B, X', hpost, hsteps⟩
  · exact Or.inl ⟨v, vm₁, B, X₁.warmed, X', hpost, fun target h => hstep₁ _ fun acts => by rw [doInvoke_state]; exact hsteps.trans h⟩
  · exact Or.inr ⟨q, vm₁, B, X₁.warmed, X', hpost, hstep₁ _ fun acts => by rw [doInvoke_state]; exact hsteps⟩
theorem vx_callS (X : Stand p l e R s m args below meth c T locs cells slots) (hexec : p.tables.exec = Jvm.exec) {own : String} {index : Nat} {y : MethodName} {bytes : ByteArray} {maxL : Nat} {ret : Option FieldType}
    (hown : s.vm.findClass own = some m.cls) (hlink : (Cond.methodLink own index y).before args s = true) (hstat : (Cond.static y).before args s = true) (hinit : (Cond.initialized y.cls).before args s = true)
    (hcode : (Cond.code y bytes maxL ret).before args s = true) (hy : y.cls ≠ "java/lang/invoke/MethodHandle" ∧ y.cls ≠ "java/lang/invoke/VarHandle")
    {W9 : Nat} {Pre : Pt → Array Value → Prop} {Post : Pt → Array Value → Option Value → Pt → Prop} {PostX : Pt → Array Value → Addr → Pt → Prop} (hK : vx_Back l R p e below s args y 3 W9 Pre Post PostX)
    {g : JFrame} (hg : g.method = m) (hsize : g.locals.size = c.maxLocals) {argsL rest : List Value} (hlen : ∀ sig, parseMethodDescriptor y.desc = some sig → argsL.length = sig.parameters.length)
    (hstack : g.stack = argsL.reverse ++ rest) (hW : 2 * g.monitorRoom + (rest.map fun v => v.category).sum ≤ W9) (hdg : decode c.code g.pc = .ok (.invokestatic index, 3))
    (hpre : ∀ vm₁, s.WarmedH vm₁ → Pre ⟨T.setVm vm₁, locs, cells, slots⟩ argsL.toArray) :
    (∃ (v : Option Value) (vm₁ : Vm) (B : Pt), s.WarmedH vm₁ ∧ Stand p l e R s m args below meth c B.U B.locs B.cells B.slots ∧ Post ⟨T.setVm vm₁, locs, cells, slots⟩ argsL.toArray v B ∧
      ∀ target, Steps p.tables e below (B.U.setTop { g with pc := g.pc + 3, stack := v.toList ++ rest }) target → Steps p.tables e below (T.setTop g) target) ∨
    (∃ (q : Addr) (vm₁ : Vm) (B : Pt), s.WarmedH vm₁ ∧ Stand p l e R s m args below meth c B.U B.locs B.cells B.slots ∧ PostX ⟨T.setVm vm₁, locs, cells, slots⟩ argsL.toArray q B ∧
      Steps p.tables e below (T.setTop g) ((B.U.setTop { g with stack := rest }).pushFrame (.throwing q))) := by
  obtain ⟨mk, hnamed⟩ := Cond.code_named hcode
  obtain ⟨methM, cM, hmethM, -, -, -, -, -, -, hsigM⟩ := Cond.code_spec hnamed hcode
  have hstatic : methM.isStatic = true := Cond.static_spec hnamed hmethM hstat
  obtain ⟨kP, hkP, -⟩ := className_of_methodNamed hnamed
  have hinitP : kP.init = .initialized := Cond.initialized_spec (findClass_of_methodNamed hnamed) hkP hinit
  obtain ⟨vm₁, X₁, hstep₁⟩ := X.invokestatic hexec hown hlink hnamed hmethM hstatic hkP hinitP hy (g := g) hg (argsL := argsL) (rest := rest) (hlen _ hsigM) hstack hdg
  rcases hK m meth c ⟨T.setVm vm₁, locs, cells, slots⟩ { g with stack := rest } (.invokestatic index) mk argsL.toArray X₁ hg hsize hdg hW (X₁.named hnamed) (hpre vm₁ X₁.warmed) with ⟨v, B, X', hpost, hsteps⟩ | ⟨q, B, X', hpost, hsteps⟩
  · exact Or.inl ⟨v, vm₁, B, X₁.warmed, X', hpost, fun target h => hstep₁ _ fun acts => by rw [doInvoke_state]; exact hsteps.trans h⟩
  · exact Or.inr ⟨q, vm₁, B, X₁.warmed, X', hpost, hstep₁ _ fun acts => by rw [doInvoke_state]; exact hsteps⟩
end Calls
theorem vx_cls {s : State} {T : State} {vm₁ : Vm} {E : String} {k : ClassId} (hW : s.WarmedH vm₁) (h : (T.setVm vm₁).vm.findClass E = some k) : s.vm.findClass E = some k := by
  have h1 : vm₁.findClass E = some k := h
  rw [hW.alike.findClass] at h1
  exact h1
/-- the method's frame g, with q thrown over it -/
def vx_W (p : Program) (l : Launch) (e : Env) (R : Room) (s : State) (m : MethodId) (args : Array Value) (below : List Frame) (meth : Method) (c : Code) (H : Heap) (locs : List Loc) (cells slots : Nat) (Q : State → Prop) (g : JFrame) (q : Addr) : Prop :=
  ∀ T : State, T.heap = H → Stand p l e R s m args below meth c T locs cells slots → ∃ t, Steps p.tables e below ((T.setTop g).pushFrame (.throwing q)) t ∧ Q t
def vx_Run (p : Program) (l : Launch) (e : Env) (R : Room) (s : State) (m : MethodId) (args : Array Value) (below : List Frame) (meth : Method) (c : Code) (H : Heap) (locs : List Loc) (cells slots mc ms : Nat) (g : JFrame) (rest : List Value) (Qa : State → Outcome → State → Prop) (XC : String → State → State → Prop) (free : Addr → Prop) : Prop :=
  ∀ T : State, T.heap = H → Stand p l e R s m args below meth c T locs cells slots →
    (∃ (v : Option Value) (st₀ t T' : State) (L : List Loc), st₀.heap = H ∧ Stand p l e R s m args below meth c T' (locs ++ L) (cells + mc) (slots + ms) ∧ (∀ q ∈ L, free q.base) ∧ T'.heap = t.heap ∧ T'.vm = t.vm ∧ Qa st₀ (.returned v) t ∧
      Goes p e below T g T' { g with pc := g.pc + 3, stack := v.toList ++ rest }) ∨
    (∃ (q : Addr) (st₀ t T' : State) (L : List Loc) (E : String) (ce : Cell), st₀.heap = H ∧ Stand p l e R s m args below meth c T' (locs ++ L) (cells + mc) (slots + ms) ∧ (∀ z ∈ L, free z.base) ∧ T'.heap = t.heap ∧ T'.vm = t.vm ∧ XC E st₀ t ∧ t.heap[q]? = some ce ∧ ce.vm = .none ∧ s.vm.findClass E = some ce.cls ∧
      Steps p.tables e below (T.setTop g) ((T'.setTop { g with stack := rest }).pushFrame (.throwing q)))
def vx_X {S : Type} (px : S → Prop) (B : String → S → State → Prop) (A : Nat → Prop) : String → State → State → Prop := fun E st t => ∃ u : S, px u ∧ B E u t ∧ va_F A st t
section Runs
variable {p : Program} {l : Launch} {e : Env} {R : Room} {s : State} {m : MethodId} {args : Array Value} {below : List Frame} {meth : Method} {c : Code} {H : Heap} {locs : List Loc} {cells slots : Nat}
variable {y : MethodName} {bytes cc : ByteArray} {maxL nL mc ms n index : Nat} {ret : Option FieldType} {ws : List Cond} {rm : Room} {Pc : Array Value → State → Prop} {Qc : Array Value → State → Outcome → State → Prop} {XC : String → State → State → Prop} {free : Addr → Prop} {Ts : List Cond} {own C : String} {b : Addr} {As rest : List Value} {g : JFrame}
theorem vx_callBack (cb : CallB R s args own index y bytes maxL ret ws rm mc ms n) (hM : vx_Met l y ws rm Pc Qc XC mc ms free) (hbl : FrameBlind Pc) : vx_Back l R p e below s args y 3 8 (PreOf R mc ms Pc) (PostOf Qc mc ms free) (vx_Post XC mc ms free) := by
  obtain ⟨hrc, hrs, hfr, hlo, hws, hcw, -, hini, -⟩ := cb
  exact vx_back (bytes := bytes) (maxL := maxL) (ret := ret) hM hbl hrc hrs hfr hlo hws hcw (fun a' U hW => word_at hW (Or.inl (by first | rfl | simp [Cond.onTables, Cond.keeps, Cond.steady])) hini)
theorem vx_runV (S : CallFix p m c cc nL s args Ts own) (hM : vx_Met l y ws rm Pc Qc XC mc ms free) (cw : CallW R s args own C index y bytes maxL ret ws rm mc ms n) (hp : PreV s H C b Pc As)
    (hg : g.method = m) (hn : As.length = n) (hsize : g.locals.size = nL) (hstack : g.stack = As.reverse ++ .ref b :: rest) (hW : 2 * g.monitorRoom + (rest.map fun v => v.category).sum ≤ 8) (hdg : decode cc g.pc = .ok (.invokevirtual index, 3)) (hf : cells + mc ≤ R.cells ∧ slots + ms ≤ R.slots) :
    vx_Run p l e R s m args below meth c H locs cells slots mc ms g rest (Qc (Value.ref b :: As).toArray) XC free := by
  have hK : vx_Back l R p e below s args y 3 8 (PreOf R mc ms Pc) (PostOf Qc mc ms free) (vx_Post XC mc ms free) := vx_callBack cw.1 hM hp.1
  obtain ⟨⟨-, -, -, -, -, -, hcode, -, hy, hlen, hl⟩, hin, hse⟩ := cw
  obtain ⟨hx, hb, hml, ho, -⟩ := S
  obtain ⟨-, ⟨cellB, hcB, hoB, hclB⟩, hPc⟩ := hp
  intro T hT X
  rcases vx_callV X hx (C := C) (bytes := bytes) (maxL := maxL) (ret := ret) ho hl hin hse hcode hy hK (by rw [hT]; exact hcB) hoB hclB hg (hsize.trans hml.symm) (argsL := As) (rest := rest) (fun sig h => hn.trans (hlen sig h)) hstack hW (by rw [hb]; exact hdg)
    (fun vm₁ hW₁ => ⟨hf.1, hf.2, hPc (T.setVm vm₁) hT hW₁⟩) with ⟨v, vm₁, ⟨U', l2, c2, s2⟩, hW₁, X', ⟨g', mk, t, L, e1, e2, hq, h1, hL, h2, h3⟩, st⟩ | ⟨q, vm₁, ⟨U', l2, c2, s2⟩, hW₁, X', ⟨g', mk, t, L, E, ce, e1, e2, hq, hce, hcv, hcl, h1, hL, h2, h3⟩, st⟩
  · dsimp only [Pt.U, Pt.locs, Pt.cells, Pt.slots] at X' e1 e2 h1 h2 h3 st
    subst h1; subst h2; subst h3
    exact Or.inl ⟨v, (T.setVm vm₁).calling g' mk (Value.ref b :: As).toArray, t, U', L, hT, X', hL, e1, e2, hq, st⟩
  · dsimp only [Pt.U, Pt.locs, Pt.cells, Pt.slots] at X' e1 e2 h1 h2 h3 st hcl
    subst h1; subst h2; subst h3
    exact Or.inr ⟨q, (T.setVm vm₁).calling g' mk (Value.ref b :: As).toArray, t, U', L, E, ce, hT, X', hL, e1, e2, hq, hce, hcv, vx_cls hW₁ hcl, st⟩
theorem vx_runS (S : CallFix p m c cc nL s args Ts own) (hM : vx_Met l y ws rm Pc Qc XC mc ms free) (cw : CallB R s args own index y bytes maxL ret ws rm mc ms n ∧ (Cond.static y).before args s = true) (hp : PreS s H Pc As)
    (hg : g.method = m) (hn : As.length = n) (hsize : g.locals.size = nL) (hstack : g.stack = As.reverse ++ rest) (hW : 2 * g.monitorRoom + (rest.map fun v => v.category).sum ≤ 8) (hdg : decode cc g.pc = .ok (.invokestatic index, 3)) (hf : cells + mc ≤ R.cells ∧ slots + ms ≤ R.slots) :
    vx_Run p l e R s m args below meth c H locs cells slots mc ms g rest (Qc As.toArray) XC free := by
  have hK : vx_Back l R p e below s args y 3 8 (PreOf R mc ms Pc) (PostOf Qc mc ms free) (vx_Post XC mc ms free) := vx_callBack cw.1 hM hp.1
  obtain ⟨⟨-, -, -, -, -, -, hcode, hini, hy, hlen, hl⟩, hstt⟩ := cw
  obtain ⟨hx, hb, hml, ho, -⟩ := S
  intro T hT X
  rcases vx_callS X hx (bytes := bytes) (maxL := maxL) (ret := ret) ho hl hstt hini hcode hy hK hg (hsize.trans hml.symm) (argsL := As) (rest := rest) (fun sig h => hn.trans (hlen sig h)) hstack hW (by rw [hb]; exact hdg)
    (fun vm₁ hW₁ => ⟨hf.1, hf.2, hp.2 (T.setVm vm₁) hT hW₁⟩) with ⟨v, vm₁, ⟨U', l2, c2, s2⟩, hW₁, X', ⟨g', mk, t, L, e1, e2, hq, h1, hL, h2, h3⟩, st⟩ | ⟨q, vm₁, ⟨U', l2, c2, s2⟩, hW₁, X', ⟨g', mk, t, L, E, ce, e1, e2, hq, hce, hcv, hcl, h1, hL, h2, h3⟩, st⟩
  · dsimp only [Pt.U, Pt.locs, Pt.cells, Pt.slots] at X' e1 e2 h1 h2 h3 st
    subst h1; subst h2; subst h3
    exact Or.inl ⟨v, (T.setVm vm₁).calling g' mk As.toArray, t, U', L, hT, X', hL, e1, e2, hq, st⟩
  · dsimp only [Pt.U, Pt.locs, Pt.cells, Pt.slots] at X' e1 e2 h1 h2 h3 st hcl
    subst h1; subst h2; subst h3
    exact Or.inr ⟨q, (T.setVm vm₁).calling g' mk As.toArray, t, U', L, E, ce, hT, X', hL, e1, e2, hq, hce, hcv, vx_cls hW₁ hcl, st⟩
end Runs
section Rows
variable {p : Program} {l : Launch} {e : Env} {R : Room} {s : State} {m : MethodId} {args : Array Value} {below : List Frame} {meth : Method} {c : Code} {H : Heap} {locs : List Loc} {cells slots : Nat} {Q : State → Prop}
variable {mc ms : Nat} {free : Addr → Prop} {A0 A1 : Nat → Prop} {H0 : Heap} {a : Array Value} {pc : Nat} {ls : Array Slot} {st0 rest : List Value}
theorem vx_keep {st₀ t T' : State} {L : List Loc} (h0 : st₀.heap = H) (e1 : T'.heap = t.heap) (hS : va_S A0 H0 H locs) (hA : ∀ q, q < H.size → A1 q → A0 q) (hf : ∀ q, free q → A0 q) (hL : ∀ q ∈ L, free q.base) (hF : va_F A1 st₀ t) :
    H.size ≤ T'.heap.size ∧ (∀ q : Nat, q < H.size → ¬ A1 q → T'.heap[q]? = H[q]?) ∧ va_S A0 H0 T'.heap (locs ++ L) := by
  obtain ⟨hz, hk⟩ := hF
  rw [h0] at hz hk
  exact ⟨by rw [e1]; exact hz, fun q h1 h2 => by rw [e1]; exact hk q h1 h2,
    ⟨Nat.le_trans hS.1 (by rw [e1]; exact hz), fun q h1 h2 => by rw [e1, hk q (Nat.lt_of_lt_of_le h1 hS.1) (fun z => h2 (hA q (Nat.lt_of_lt_of_le h1 hS.1) z))]; exact hS.2.1 q h1 h2, fun q hq => by
      rcases List.mem_append.mp hq with h | h
      · exact hS.2.2 q h
      · exact hf _ (hL q h)⟩⟩
theorem vx_calli {S SX : Type} {post : Int32 → S → Prop} {px : SX → Prop} {B : S → State → Prop} {BX : String → SX → State → Prop} {AX : Nat → Prop} (hr : vx_Run p l e R s m args below meth c H locs cells slots mc ms (F0 m pc ls st0) rest (va_Qi post B A1 a) (vx_X px BX AX) free) (hS : va_S A0 H0 H locs) (hA : ∀ q, q < H.size → A1 q → A0 q) (hf : ∀ q, free q → A0 q) (hAX : ∀ q, q < H.size → AX q → A0 q)
    (kx : ∀ (E : String) (ce : Cell) (q9 : Addr) (u : SX) (t : State) (H1 : Heap) (locs1 : List Loc), t.heap = H1 → s.vm.Alike t.vm → px u → BX E u t → H.size ≤ H1.size → (∀ q : Nat, q < H.size → ¬ AX q → H1[q]? = H[q]?) → va_S A0 H0 H1 locs1 → H1[q9]? = some ce → ce.vm = .none → s.vm.findClass E = some ce.cls → vx_W p l e R s m args below meth c H1 locs1 (cells + mc) (slots + ms) Q (F0 m pc ls rest) q9)
    (kk : ∀ (r : Int32) (u : S) (t : State) (H1 : Heap) (locs1 : List Loc), t.heap = H1 → s.vm.Alike t.vm → post r u → B u t → H.size ≤ H1.size → (∀ q : Nat, q < H.size → ¬ A1 q → H1[q]? = H[q]?) → va_S A0 H0 H1 locs1 → W p l e R s m args below meth c H1 locs1 (cells + mc) (slots + ms) Q (F0 m (pc + 3) ls (.int r :: rest))) : W p l e R s m args below meth c H locs cells slots Q (F0 m pc ls st0) := by
  intro T hT X
  rcases hr T hT X with ⟨v, st₀, t, T', L, h0, X', hL, e1, e2, ⟨⟨r, u, hv, hp, hb⟩, hF⟩, st⟩ | ⟨q, st₀, t, T', L, E, ce, h0, X', hL, e1, e2, ⟨u, hp, hb, hF⟩, hce, hcv, hcl, st⟩
  · cases hv
    obtain ⟨k1, k2, k3⟩ := vx_keep h0 e1 hS hA hf hL hF
    obtain ⟨t2, a1, b1⟩ := kk r u t T'.heap (locs ++ L) e1.symm (by rw [← e2]; exact X'.warmed.alike) hp hb k1 k2 k3 T' rfl X'
    exact ⟨t2, st t2 a1, b1⟩
  · obtain ⟨k1, k2, k3⟩ := vx_keep h0 e1 hS hAX hf hL hF
    obtain ⟨t2, a1, b1⟩ := kx E ce q u t T'.heap (locs ++ L) e1.symm (by rw [← e2]; exact X'.warmed.alike) hp hb k1 k2 k3 (by rw [e1]; exact hce) hcv hcl T' rfl X'
    exact ⟨t2, st.trans a1, b1⟩
theorem vx_calll {S SX : Type} {post : Int64 → S → Prop} {px : SX → Prop} {B : S → State → Prop} {BX : String → SX → State → Prop} {AX : Nat → Prop} (hr : vx_Run p l e R s m args below meth c H locs cells slots mc ms (F0 m pc ls st0) rest (va_Ql post B A1 a) (vx_X px BX AX) free) (hS : va_S A0 H0 H locs) (hA : ∀ q, q < H.size → A1 q → A0 q) (hf : ∀ q, free q → A0 q) (hAX : ∀ q, q < H.size → AX q → A0 q)
    (kx : ∀ (E : String) (ce : Cell) (q9 : Addr) (u : SX) (t : State) (H1 : Heap) (locs1 : List Loc), t.heap = H1 → s.vm.Alike t.vm → px u → BX E u t → H.size ≤ H1.size → (∀ q : Nat, q < H.size → ¬ AX q → H1[q]? = H[q]?) → va_S A0 H0 H1 locs1 → H1[q9]? = some ce → ce.vm = .none → s.vm.findClass E = some ce.cls → vx_W p l e R s m args below meth c H1 locs1 (cells + mc) (slots + ms) Q (F0 m pc ls rest) q9)
    (kk : ∀ (r : Int64) (u : S) (t : State) (H1 : Heap) (locs1 : List Loc), t.heap = H1 → s.vm.Alike t.vm → post r u → B u t → H.size ≤ H1.size → (∀ q : Nat, q < H.size → ¬ A1 q → H1[q]? = H[q]?) → va_S A0 H0 H1 locs1 → W p l e R s m args below meth c H1 locs1 (cells + mc) (slots + ms) Q (F0 m (pc + 3) ls (.long r :: rest))) : W p l e R s m args below meth c H locs cells slots Q (F0 m pc ls st0) := by
  intro T hT X
  rcases hr T hT X with ⟨v, st₀, t, T', L, h0, X', hL, e1, e2, ⟨⟨r, u, hv, hp, hb⟩, hF⟩, st⟩ | ⟨q, st₀, t, T', L, E, ce, h0, X', hL, e1, e2, ⟨u, hp, hb, hF⟩, hce, hcv, hcl, st⟩
  · cases hv
    obtain ⟨k1, k2, k3⟩ := vx_keep h0 e1 hS hA hf hL hF
    obtain ⟨t2, a1, b1⟩ := kk r u t T'.heap (locs ++ L) e1.symm (by rw [← e2]; exact X'.warmed.alike) hp hb k1 k2 k3 T' rfl X'
    exact ⟨t2, st t2 a1, b1⟩
  · obtain ⟨k1, k2, k3⟩ := vx_keep h0 e1 hS hAX hf hL hF
    obtain ⟨t2, a1, b1⟩ := kx E ce q u t T'.heap (locs ++ L) e1.symm (by rw [← e2]; exact X'.warmed.alike) hp hb k1 k2 k3 (by rw [e1]; exact hce) hcv hcl T' rfl X'
    exact ⟨t2, st.trans a1, b1⟩
theorem vx_callf {S SX : Type} {post : UInt32 → S → Prop} {px : SX → Prop} {B : S → State → Prop} {BX : String → SX → State → Prop} {AX : Nat → Prop} (hr : vx_Run p l e R s m args below meth c H locs cells slots mc ms (F0 m pc ls st0) rest (va_Qf post B A1 a) (vx_X px BX AX) free) (hS : va_S A0 H0 H locs) (hA : ∀ q, q < H.size → A1 q → A0 q) (hf : ∀ q, free q → A0 q) (hAX : ∀ q, q < H.size → AX q → A0 q)
    (kx : ∀ (E : String) (ce : Cell) (q9 : Addr) (u : SX) (t : State) (H1 : Heap) (locs1 : List Loc), t.heap = H1 → s.vm.Alike t.vm → px u → BX E u t → H.size ≤ H1.size → (∀ q : Nat, q < H.size → ¬ AX q → H1[q]? = H[q]?) → va_S A0 H0 H1 locs1 → H1[q9]? = some ce → ce.vm = .none → s.vm.findClass E = some ce.cls → vx_W p l e R s m args below meth c H1 locs1 (cells + mc) (slots + ms) Q (F0 m pc ls rest) q9)
    (kk : ∀ (r : UInt32) (u : S) (t : State) (H1 : Heap) (locs1 : List Loc), t.heap = H1 → s.vm.Alike t.vm → post r u → B u t → H.size ≤ H1.size → (∀ q : Nat, q < H.size → ¬ A1 q → H1[q]? = H[q]?) → va_S A0 H0 H1 locs1 → W p l e R s m args below meth c H1 locs1 (cells + mc) (slots + ms) Q (F0 m (pc + 3) ls (.float r :: rest))) : W p l e R s m args below meth c H locs cells slots Q (F0 m pc ls st0) := by
  intro T hT X
  rcases hr T hT X with ⟨v, st₀, t, T', L, h0, X', hL, e1, e2, ⟨⟨r, u, hv, hp, hb⟩, hF⟩, st⟩ | ⟨q, st₀, t, T', L, E, ce, h0, X', hL, e1, e2, ⟨u, hp, hb, hF⟩, hce, hcv, hcl, st⟩
  · cases hv
    obtain ⟨k1, k2, k3⟩ := vx_keep h0 e1 hS hA hf hL hF
    obtain ⟨t2, a1, b1⟩ := kk r u t T'.heap (locs ++ L) e1.symm (by rw [← e2]; exact X'.warmed.alike) hp hb k1 k2 k3 T' rfl X'
    exact ⟨t2, st t2 a1, b1⟩
  · obtain ⟨k1, k2, k3⟩ := vx_keep h0 e1 hS hAX hf hL hF
    obtain ⟨t2, a1, b1⟩ := kx E ce q u t T'.heap (locs ++ L) e1.symm (by rw [← e2]; exact X'.warmed.alike) hp hb k1 k2 k3 (by rw [e1]; exact hce) hcv hcl T' rfl X'
    exact ⟨t2, st.trans a1, b1⟩
theorem vx_calld {S SX : Type} {post : UInt64 → S → Prop} {px : SX → Prop} {B : S → State → Prop} {BX : String → SX → State → Prop} {AX : Nat → Prop} (hr : vx_Run p l e R s m args below meth c H locs cells slots mc ms (F0 m pc ls st0) rest (va_Qd post B A1 a) (vx_X px BX AX) free) (hS : va_S A0 H0 H locs) (hA : ∀ q, q < H.size → A1 q → A0 q) (hf : ∀ q, free q → A0 q) (hAX : ∀ q, q < H.size → AX q → A0 q)
    (kx : ∀ (E : String) (ce : Cell) (q9 : Addr) (u : SX) (t : State) (H1 : Heap) (locs1 : List Loc), t.heap = H1 → s.vm.Alike t.vm → px u → BX E u t → H.size ≤ H1.size → (∀ q : Nat, q < H.size → ¬ AX q → H1[q]? = H[q]?) → va_S A0 H0 H1 locs1 → H1[q9]? = some ce → ce.vm = .none → s.vm.findClass E = some ce.cls → vx_W p l e R s m args below meth c H1 locs1 (cells + mc) (slots + ms) Q (F0 m pc ls rest) q9)
    (kk : ∀ (r : UInt64) (u : S) (t : State) (H1 : Heap) (locs1 : List Loc), t.heap = H1 → s.vm.Alike t.vm → post r u → B u t → H.size ≤ H1.size → (∀ q : Nat, q < H.size → ¬ A1 q → H1[q]? = H[q]?) → va_S A0 H0 H1 locs1 → W p l e R s m args below meth c H1 locs1 (cells + mc) (slots + ms) Q (F0 m (pc + 3) ls (.double r :: rest))) : W p l e R s m args below meth c H locs cells slots Q (F0 m pc ls st0) := by
  intro T hT X
  rcases hr T hT X with ⟨v, st₀, t, T', L, h0, X', hL, e1, e2, ⟨⟨r, u, hv, hp, hb⟩, hF⟩, st⟩ | ⟨q, st₀, t, T', L, E, ce, h0, X', hL, e1, e2, ⟨u, hp, hb, hF⟩, hce, hcv, hcl, st⟩
  · cases hv
    obtain ⟨k1, k2, k3⟩ := vx_keep h0 e1 hS hA hf hL hF
    obtain ⟨t2, a1, b1⟩ := kk r u t T'.heap (locs ++ L) e1.symm (by rw [← e2]; exact X'.warmed.alike) hp hb k1 k2 k3 T' rfl X'
    exact ⟨t2, st t2 a1, b1⟩
  · obtain ⟨k1, k2, k3⟩ := vx_keep h0 e1 hS hAX hf hL hF
    obtain ⟨t2, a1, b1⟩ := kx E ce q u t T'.heap (locs ++ L) e1.symm (by rw [← e2]; exact X'.warmed.alike) hp hb k1 k2 k3 (by rw [e1]; exact hce) hcv hcl T' rfl X'
    exact ⟨t2, st.trans a1, b1⟩
theorem vx_callv {S SX : Type} {post : S → Prop} {px : SX → Prop} {B : S → State → Prop} {BX : String → SX → State → Prop} {AX : Nat → Prop} (hr : vx_Run p l e R s m args below meth c H locs cells slots mc ms (F0 m pc ls st0) rest (va_Qv post B A1 a) (vx_X px BX AX) free) (hS : va_S A0 H0 H locs) (hA : ∀ q, q < H.size → A1 q → A0 q) (hf : ∀ q, free q → A0 q) (hAX : ∀ q, q < H.size → AX q → A0 q)
    (kx : ∀ (E : String) (ce : Cell) (q9 : Addr) (u : SX) (t : State) (H1 : Heap) (locs1 : List Loc), t.heap = H1 → s.vm.Alike t.vm → px u → BX E u t → H.size ≤ H1.size → (∀ q : Nat, q < H.size → ¬ AX q → H1[q]? = H[q]?) → va_S A0 H0 H1 locs1 → H1[q9]? = some ce → ce.vm = .none → s.vm.findClass E = some ce.cls → vx_W p l e R s m args below meth c H1 locs1 (cells + mc) (slots + ms) Q (F0 m pc ls rest) q9)
    (kk : ∀ (u : S) (t : State) (H1 : Heap) (locs1 : List Loc), t.heap = H1 → s.vm.Alike t.vm → post u → B u t → H.size ≤ H1.size → (∀ q : Nat, q < H.size → ¬ A1 q → H1[q]? = H[q]?) → va_S A0 H0 H1 locs1 → W p l e R s m args below meth c H1 locs1 (cells + mc) (slots + ms) Q (F0 m (pc + 3) ls (rest))) : W p l e R s m args below meth c H locs cells slots Q (F0 m pc ls st0) := by
  intro T hT X
  rcases hr T hT X with ⟨v, st₀, t, T', L, h0, X', hL, e1, e2, ⟨⟨u, hv, hp, hb⟩, hF⟩, st⟩ | ⟨q, st₀, t, T', L, E, ce, h0, X', hL, e1, e2, ⟨u, hp, hb, hF⟩, hce, hcv, hcl, st⟩
  · cases hv
    obtain ⟨k1, k2, k3⟩ := vx_keep h0 e1 hS hA hf hL hF
    obtain ⟨t2, a1, b1⟩ := kk u t T'.heap (locs ++ L) e1.symm (by rw [← e2]; exact X'.warmed.alike) hp hb k1 k2 k3 T' rfl X'
    exact ⟨t2, st t2 a1, b1⟩
  · obtain ⟨k1, k2, k3⟩ := vx_keep h0 e1 hS hAX hf hL hF
    obtain ⟨t2, a1, b1⟩ := kx E ce q u t T'.heap (locs ++ L) e1.symm (by rw [← e2]; exact X'.warmed.alike) hp hb k1 k2 k3 (by rw [e1]; exact hce) hcv hcl T' rfl X'
    exact ⟨t2, st.trans a1, b1⟩
/-- caught by the row x of this method's table; the rows ahead don't take it -/
theorem vx_catch {own name : String} {E : String} {ce : Cell} {q : Addr} (hown : s.vm.findClass own = some m.cls) (pre : List ExceptionTableEntry) (x : ExceptionTableEntry) (suf : List ExceptionTableEntry) (hsplit : c.exceptionTable.toList = pre ++ x :: suf)
    (hpass : ∀ z ∈ pre, covers z pc = false ∨ (z.catchType ≠ 0 ∧ ∃ nm : String, (Cond.classLink own z.catchType nm).before args s = true ∧ va_Nc E nm s)) (hx : covers x pc = true) (h0 : x.catchType ≠ 0)
    (hlink : (Cond.classLink own x.catchType name).before args s = true) (hcast : (Cond.castable E name).before args s = true) (hcell : H[q]? = some ce) (hv : ce.vm = .none) (hcl : s.vm.findClass E = some ce.cls)
    (kk : W p l e R s m args below meth c H locs cells slots Q (F0 m x.handlerPc ls [.ref q])) : vx_W p l e R s m args below meth c H locs cells slots Q (F0 m pc ls rest) q := by
  intro T hT X
  have hpl : e.platform.magicAccessors = ({} : Platform).magicAccessors := by rw [X.admits.platform]
  obtain ⟨c3, c4, hc3, hc4, hasg⟩ := Cond.castable_spec hcast
  cases Option.some.inj (hc3.symm.trans hcl)
  obtain ⟨c5, hc5, hcl5⟩ := Cond.classLink_spec hown hlink e.platform hpl
  cases Option.some.inj (hc4.symm.trans hc5)
  obtain ⟨vm', X', st⟩ := X.thenCaughtThrough q (g := F0 m pc ls rest) rfl (Steps.refl _) (by rw [hT]; exact hcell) (by rw [hv]; rfl) (by obtain ⟨k9, h9, -⟩ := Vm.findClass_spec hcl; exact ⟨k9, h9⟩) pre x suf hsplit
    (fun z hz => by
      rcases hpass z hz with h | ⟨hz0, nm, hl1, hn1⟩
      · exact Or.inl h
      · obtain ⟨c6, hc6, hcl6⟩ := Cond.classLink_spec hown hl1 e.platform hpl
        obtain ⟨a8, b8, h1, h2, h3⟩ := hn1
        cases Option.some.inj (h1.symm.trans hcl)
        cases Option.some.inj (h2.symm.trans hc6)
        exact Or.inr ⟨hz0, _, hcl6, h3⟩) hx (Or.inr ⟨h0, c4, hcl5, hasg⟩)
  obtain ⟨t, a1, b1⟩ := kk (T.setVm vm') hT X'
  exact ⟨t, st.trans a1, b1⟩
end Rows
section Ends
variable {p : Program} {l : Launch} {e : Env} {R : Room} {s : State} {m : MethodId} {args : Array Value} {below : List Frame} {meth : Method} {c : Code} {H : Heap} {locs : List Loc} {cells slots : Nat} {Q : State → Prop}
variable {mc ms : Nat} {free : Addr → Prop} {A0 A1 : Nat → Prop} {H0 : Heap} {a : Array Value} {ls : Array Slot} {st0 rest : List Value}
variable {Qc : Array Value → State → Outcome → State → Prop} {XC : String → State → State → Prop}
/-- what a body that may throw owes at its end -/
def vx_MQ (below : List Frame) (Qc : Array Value → State → Outcome → State → Prop) (XC : String → State → State → Prop) (a : Array Value) (s : State) (mc ms : Nat) (free : Addr → Prop) : State → Prop := fun t =>
  ∃ o, t.status = .running ∧ Ended t below o ∧ vx_Q Qc XC mc ms free a s o t
theorem vx_ret {g : JFrame} {mc ms : Nat} (k : W p l e R s m args below meth c H locs cells slots (MQ below Qc args s mc ms free) g) : W p l e R s m args below meth c H locs cells slots (vx_MQ below Qc XC args s mc ms free) g := by
  intro T hT X
  obtain ⟨t, a1, o, b1, b2, b3, b4⟩ := k T hT X
  exact ⟨t, a1, o, b1, b2, Or.inl ⟨b3, b4⟩⟩
/-- not caught here: it goes on to the caller -/
theorem vx_widen {g : JFrame} {q : Addr} {k n : Nat} (h1 : cells ≤ k) (h2 : slots ≤ n) (kk : vx_W p l e R s m args below meth c H locs k n Q g q) : vx_W p l e R s m args below meth c H locs cells slots Q g q := fun T hT X => kk T hT (stand_widen X h1 h2)
theorem vx_out {pc : Nat} {E : String} {ce : Cell} {q : Addr} {mc ms : Nat} (hout : ∀ x ∈ c.exceptionTable.toList, covers x pc = false) (hlocks : meth.locks = false) (hcell : H[q]? = some ce) (hv : ce.vm = .none) (hcl : s.vm.findClass E = some ce.cls)
    (hx : ∀ t : State, t.heap = H → s.vm.Alike t.vm → XC E s t) (hf : ∀ z ∈ locs, free z.base) (hc : cells ≤ mc) (hs : slots ≤ ms) :
    vx_W p l e R s m args below meth c H locs cells slots (vx_MQ below Qc XC args s mc ms free) (F0 m pc ls rest) q := by
  intro T hT X
  obtain ⟨st1, hrun, hend, hW, hsm⟩ := X.leaveThrown q (g := F0 m pc ls rest) rfl rfl rfl hout hlocks
  have hcell9 : (T.setFrames (.throwing q :: below)).heap[q]? = some ce := by
    show T.heap[q]? = some ce
    rw [hT]; exact hcell
  exact ⟨_, st1, .threw q, hrun, hend, Or.inr ⟨q, rfl, E, ce, locs, hx _ hT hW.alike, hcell9, hv, hcl, hW, hsm.mono hc hs, hf⟩⟩
theorem vx_frame {U : State} {k n : Nat} (h : s.sameButNew ({ U with vm := s.vm } : State) locs k n) : s.heap.size ≤ U.heap.size ∧ ∀ q : Nat, q < s.heap.size → (∀ z ∈ locs, z.base ≠ q) → U.heap[q]? = s.heap[q]? := by
  obtain ⟨-, h2, -, -, -, h6⟩ := h
  refine ⟨h2, fun q hq hz => ?_⟩
  obtain ⟨c9, e1, e2, e3, e4⟩ := h6 q _ (Array.getElem?_eq_getElem hq)
  have hs : c9.slots = (s.heap[q]).slots := Array.ext_getElem? fun i => e4 i fun hm => hz _ hm rfl
  have h9 : c9 = s.heap[q] := by
    rw [hs] at e2
    exact e2
  have e5 : U.heap[q]? = some c9 := e1
  rw [e5, h9, Array.getElem?_eq_getElem hq]
/-- the words of a throw but the four that speak of the heap -/
def vx_no (w : Cond) : Bool := decide (w ≠ .isRef (.static Bundle.tN "UNASSIGNED_STACK" Bundle.steD)) && decide (w ≠ .isRef (.static Bundle.tN "SUPPRESSED_SENTINEL" Bundle.listD)) && decide (w ≠ .laysStatic Bundle.tN "UNASSIGNED_STACK" Bundle.steD) && decide (w ≠ .laysStatic Bundle.tN "SUPPRESSED_SENTINEL" Bundle.listD)
def vx_at0 (own : String) (ic : Nat) (X : String) (names : List String) : List Cond := (Bundle.ownAtoms0 own ic X names).filter vx_no
def vx_atS (own : String) (ic : Nat) (X : String) (names : List String) : List Cond := (Bundle.ownAtoms own ic X names).filter vx_no
/-- a word that the tables alone decide, or a good one -/
def vx_ot (w : Cond) : Bool := w.onTables || goodWord w
theorem vx_ot_at {args a' : Array Value} {s U : State} {w : Cond} (hW : s.WarmedH U.vm) (hvm : s.vm = U.vm) (hg : vx_ot w = true) (h : w.before args s = true) : w.before a' U = true := by
  simp only [vx_ot, Bool.or_eq_true] at hg
  rcases hg with hg | hg
  · exact va_tabs hg hvm h
  · exact word_at hW (good_of_word hg) h
/-- a list's words: the good ones out of the method's own list, the others by premises of their own -/
theorem vx_hat {args : Array Value} {s : State} {L B : List Cond} (h1 : ∀ w ∈ L.filter goodWord, w.before args s = true) (h2 : ∀ w ∈ L.filter (fun w => !goodWord w), w ∈ B) (h3 : ∀ w ∈ B, w.before args s = true) : ∀ w ∈ L, w.before args s = true := by
  intro w hw
  by_cases g : goodWord w = true
  · exact h1 w (List.mem_filter.mpr ⟨hw, g⟩)
  · refine h3 w (h2 w (List.mem_filter.mpr ⟨hw, ?_⟩))
    show (!goodWord w) = true
    cases hgw : goodWord w
    · rfl
    · exact absurd hgw g
theorem vx_c {args : Array Value} {s : State} {w : Cond} {B : List Cond} (h : w.before args s = true) (t : ∀ w ∈ B, w.before args s = true) : ∀ w' ∈ w :: B, w'.before args s = true := fun w' h' => (List.mem_cons.mp h').elim (fun e => by rw [e]; exact h) (t w')
theorem vx_n {args : Array Value} {s : State} : ∀ w ∈ ([] : List Cond), w.before args s = true := fun _ h => nomatch h
theorem vx_own {args : Array Value} {s : State} {L : List Cond} (h1 : ∀ w ∈ L.filter vx_no, w.before args s = true)
    (hU : (Cond.isRef (.static Bundle.tN "UNASSIGNED_STACK" Bundle.steD)).before args s = true) (hN : (Cond.isRef (.static Bundle.tN "SUPPRESSED_SENTINEL" Bundle.listD)).before args s = true)
    (lU : (Cond.laysStatic Bundle.tN "UNASSIGNED_STACK" Bundle.steD).before args s = true) (lN : (Cond.laysStatic Bundle.tN "SUPPRESSED_SENTINEL" Bundle.listD).before args s = true) : ∀ w ∈ L, w.before args s = true := by
  intro w hw
  by_cases e1 : w = .isRef (.static Bundle.tN "UNASSIGNED_STACK" Bundle.steD)
  · rw [e1]; exact hU
  · by_cases e2 : w = .isRef (.static Bundle.tN "SUPPRESSED_SENTINEL" Bundle.listD)
    · rw [e2]; exact hN
    · by_cases e3 : w = .laysStatic Bundle.tN "UNASSIGNED_STACK" Bundle.steD
      · rw [e3]; exact lU
      · by_cases e4 : w = .laysStatic Bundle.tN "SUPPRESSED_SENTINEL" Bundle.listD
        · rw [e4]; exact lN
        · exact h1 w (List.mem_filter.mpr ⟨hw, by unfold vx_no; rw [decide_eq_true e1, decide_eq_true e2, decide_eq_true e3, decide_eq_true e4]; rfl⟩)
/-- where a static field lies, its class's statics cell in H -/
def vx_L (C n d : String) (A : Nat → Prop) (U : State) (H : Heap) : Prop := ∃ (c : ClassId) (k : Class) (i : Nat) (f : Field) (a : Nat) (cell : Cell), U.vm.findClass C = some c ∧ U.fieldFound? C n d = some (c, k, i, f) ∧ f.isStatic = true ∧ k.statics = some a ∧ H[a]? = some cell ∧ cell.vm.isStatics = true ∧ cell.cls = c ∧ f.slot < cell.slots.size ∧ k.staticTypes[f.slot]? = some f.type ∧ ¬ A a
theorem vx_L.moved {C n d : String} {A : Nat → Prop} {u U : State} {H : Heap} (hvm : u.vm.Alike U.vm) (h : vx_L C n d A u H) : vx_L C n d A U H := by
  obtain ⟨c, k, i, f, a, cell, h1, h2, h3, h4, h5, h6, h7, h8, h9, h10⟩ := h
  obtain ⟨k', hi', he⟩ := State.fieldFound?_setVm hvm h2
  exact ⟨c, k', i, f, a, cell, by rw [hvm.findClass]; exact h1, hi', h3, by rw [he]; exact h4, h5, h6, h7, h8, by rw [he]; exact h9, h10⟩
theorem vx_L.kept {C n d : String} {A : Nat → Prop} {U : State} {H H1 : Heap} (h : vx_L C n d A U H) (hq : ∀ a : Nat, a < H.size → ¬ A a → H1[a]? = H[a]?) : vx_L C n d A U H1 := by
  obtain ⟨c, k, i, f, a, cell, h1, h2, h3, h4, h5, h6, h7, h8, h9, h10⟩ := h
  exact ⟨c, k, i, f, a, cell, h1, h2, h3, h4, by rw [hq a (Array.getElem?_eq_some_iff.mp h5).1 h10]; exact h5, h6, h7, h8, h9, h10⟩
theorem vx_L.narrow {C n d : String} {A B : Nat → Prop} {U : State} {H : Heap} (h : vx_L C n d A U H) (hAB : ∀ q, B q → A q) : vx_L C n d B U H := by
  obtain ⟨c, k, i, f, a, cell, h1, h2, h3, h4, h5, h6, h7, h8, h9, h10⟩ := h
  exact ⟨c, k, i, f, a, cell, h1, h2, h3, h4, h5, h6, h7, h8, h9, fun z => h10 (hAB _ z)⟩
theorem vx_L.word {C n d : String} {A : Nat → Prop} {s : State} {args : Array Value} (h : vx_L C n d A s s.heap) : (Cond.laysStatic C n d).before args s = true := by
  obtain ⟨c, k, i, f, a, cell, h1, h2, h3, h4, h5, h6, h7, h8, h9, -⟩ := h
  show (Cond.laysStatic C n d).holds args s none s [] = true
  exact Cond.laysStatic_of h1 h2 h3 h4 h5 h6 h7 h8 h9
/-- .. and what it holds: null or some reference -/
def vx_Zq (C n d : String) (A : Nat → Prop) (U : State) (H : Heap) : Prop := va_Zq C n d A U H ∧ vx_L C n d A U H
theorem vx_Zq.moved {C n d : String} {A : Nat → Prop} {u U : State} {H : Heap} (hvm : u.vm.Alike U.vm) (h : vx_Zq C n d A u H) : vx_Zq C n d A U H := ⟨va_Zq.moved hvm h.1, vx_L.moved hvm h.2⟩
theorem vx_Zq.kept {C n d : String} {A : Nat → Prop} {U : State} {H H1 : Heap} (h : vx_Zq C n d A U H) (hq : ∀ a : Nat, a < H.size → ¬ A a → H1[a]? = H[a]?) : vx_Zq C n d A U H1 := ⟨va_Zq.kept h.1 hq, vx_L.kept h.2 hq⟩
theorem vx_Zq.narrow {C n d : String} {A B : Nat → Prop} {U : State} {H : Heap} (h : vx_Zq C n d A U H) (hAB : ∀ q, B q → A q) : vx_Zq C n d B U H := ⟨va_Zq.narrow h.1 hAB, vx_L.narrow h.2 hAB⟩
theorem vx_Zqof {args : Array Value} {s : State} {C n d : String} {A : Nat → Prop} (hl : (Cond.laysStatic C n d).before args s = true) (hini : (Cond.initialized C).before args s = true) (h : (Cond.isRef (.static C n d)).before args s = true) (hA : ∀ a : Nat, a < s.heap.size → ¬ A a) : vx_Zq C n d A s s.heap := by
  refine ⟨va_Zqof hl hini h hA, ?_⟩
  obtain ⟨c, k, i, f, a, cell, h1, h2, h3, h4, h5, h6, h7, h8, h9⟩ := Cond.laysStatic_spec hl
  exact ⟨c, k, i, f, a, cell, h1, h2, h3, h4, h5, h6, h7, h8, h9, hA a (Array.getElem?_eq_some_iff.mp h5).1⟩
theorem vx_isRef {C n d : String} {v : Value} {A : Nat → Prop} {s : State} {args : Array Value} (h : va_Z C n d v A s s.heap) (hv : v.isRef = true) : (Cond.isRef (.static C n d)).before args s = true := by
  obtain ⟨cf, kf, fi, f, a, cell, h1, h2, h3, h4, h5, h6, h7, -⟩ := h
  have he : (Term.static C n d).eval args s none [] s = some v := by
    simp [Term.eval, State.fieldNamed?, h1, h2, h4, h5, h6, h7]
  simp only [Cond.before, Cond.holds, Cond.value, he]
  cases v <;> simp_all [Value.isRef]
theorem vx_isRefq {C n d : String} {A : Nat → Prop} {s : State} {args : Array Value} (h : va_Zq C n d A s s.heap) : (Cond.isRef (.static C n d)).before args s = true := by
  rcases h with h | ⟨t, h⟩
  · exact vx_isRef h rfl
  · exact vx_isRef h rfl
/-- the same frame, seen from here: as if the method were called anew in this heap -/
theorem vx_rebase {T : State} (X : Stand p l e R s m args below meth c T locs cells slots) {R' : Room} (hf : R'.frames ≤ R.frames) (hl : R'.locals ≤ R.locals) (hc : cells + R'.cells ≤ R.cells) (hs : slots + R'.slots ≤ R.slots) :
    Stand p l e R' ((T.setVm s.vm).setFrames (.invoking m args :: below)) m args below meth c T [] 0 0 := by
  have htop : (T.setVm s.vm).topJava?.isSome := X.here.top
  have hF : ((T.setVm s.vm).setFrames (.invoking m args :: below)).frames = .invoking m args :: below := State.frames_setFrames _ (State.cur_lt_of_top htop)
  obtain ⟨g₀, hg0⟩ := Option.isSome_iff_exists.mp htop
  obtain ⟨r, hr⟩ := State.topJava?_eq_some.mp hg0
  have hl9 : e.platform.stackLimits (T.setVm s.vm).me = e.platform.stackLimits s.me := X.limits
  have hb9 : (T.setVm s.vm).me.stackBytes = s.me.stackBytes := X.bytes
  refine ⟨X.admits, X.cas, X.clock, hF, ?_, X.hears, X.method, X.code, X.here, X.tail, X.warmed, ?_, ?_, ?_⟩
  · have h := X.room
    have hU : ((T.setVm s.vm).setFrames (.invoking m args :: below)).localsInUse = s.localsInUse := by
      rw [State.localsInUse_invoking hF (meth := meth) (c := c) X.method X.code, State.localsInUse_invoking X.frames X.method X.code]
    simp only [State.hasRoom, Bool.and_eq_true, decide_eq_true_eq] at h ⊢
    obtain ⟨⟨⟨⟨h1, h2, h3, h4, h5, h6⟩, h7⟩, h8⟩, h9⟩ := h
    rw [X.frames, List.length_cons] at h2 h3
    have q1 := X.heapSize
    have q2 := X.used
    simp only [hF, hU, List.length_cons, State.stackLimits_setFrames, State.stackBytes_setFrames, hl9, hb9]
    refine ⟨⟨⟨⟨by omega, by omega, by omega, by omega, by omega, h6⟩, ?_⟩, ?_⟩, X.book⟩
    · show T.heap.size + R'.cells ≤ e.platform.maxCells
      omega
    · show T.slotsUsed + R'.slots ≤ e.platform.maxSlots
      omega
  · rw [State.stackLimits_setFrames]; rfl
  · rw [State.stackBytes_setFrames]; rfl
  · refine ⟨?_, Nat.le_refl _, Nat.le_refl _, ?_, ?_, fun a c9 h9 => ⟨c9, h9, rfl, rfl, fun _ _ => rfl⟩⟩
    · obtain ⟨t, ht, -⟩ := State.frames_cons hr
      show T.setVm s.vm = { ((T.setVm s.vm).setFrames (.invoking m args :: below)).setFrames (T.setVm s.vm).frames with heap := T.heap, slotsUsed := T.slotsUsed }
      rw [State.setFrames_setFrames, State.setFrames_self ht]
      rfl
    · show T.slotsUsed = T.slotsUsed + ((T.heap.toList.drop T.heap.size).map (·.slots.size)).sum
      rw [List.drop_eq_nil_of_le (Nat.le_of_eq Array.length_toList)]
      rfl
    · show ((T.heap.toList.drop T.heap.size).map (·.slots.size)).sum ≤ 0
      rw [List.drop_eq_nil_of_le (Nat.le_of_eq Array.length_toList)]
      exact Nat.le_refl _
/-- 'throw new E()': new; dup; invokespecial; athrow -/
theorem vx_throw0 {cc : ByteArray} {pc : Nat} (hexec : p.tables.exec = Jvm.exec) (hb : c.code = cc) (hl : l.stackTraces = false) {own cls : String} {names : List String} {ik ic mc ms : Nat} {A : Nat → Prop}
    (hown : s.vm.findClass own = some m.cls) (hcls : Bundle.fit cls = true) (hnames : ∀ n ∈ names, Bundle.fit n = true)
    (hk : (Cond.classLink own ik cls).before args s = true) (hini : (Cond.initialized cls).before args s = true) (hat : ∀ w ∈ vx_at0 own ic cls names, w.before args s = true)
    (hgood : ∀ w ∈ Cond.classLink own ik cls :: Cond.initialized cls :: vx_at0 own ic cls names, vx_ot w = true)
    (hU : vx_Zq Bundle.tN "UNASSIGNED_STACK" Bundle.steD A s s.heap) (hN : vx_Zq Bundle.tN "SUPPRESSED_SENTINEL" Bundle.listD A s s.heap) (hS : va_S A s.heap H locs) (hsize : ls.size = c.maxLocals)
    (d0 : decode cc pc = .ok (.new ik, 3)) (d3 : decode cc (pc + 3) = .ok (.dup, 1)) (d4 : decode cc (pc + 4) = .ok (.invokespecial ic, 3)) (d7 : decode cc (pc + 7) = .ok (.athrow, 1))
    (hout : ∀ x ∈ c.exceptionTable.toList, covers x (pc + 7) = false)
    (hRframes : names.length + 3 < R.frames) (hRlocals : (rest.map fun v => v.category).sum + (13 * (names.length + 1) + 42) ≤ R.locals) (hRcells : cells + 1 ≤ R.cells) (hRslots : slots + 6 ≤ R.slots) (hlocks : meth.locks = false)
    (hx : ∀ t : State, s.vm.Alike t.vm → H.size ≤ t.heap.size → (∀ q : Nat, q < H.size → t.heap[q]? = H[q]?) → XC cls s t)
    (hf : ∀ z ∈ locs, free z.base) (hc : cells + 1 ≤ mc) (hs : slots + 6 ≤ ms) :
    W p l e R s m args below meth c H locs cells slots (vx_MQ below Qc XC args s mc ms free) (F0 m pc ls rest) := by
  intro T hT X
  have htr : e.platform.stackTraces = false := (show e.platform.stackTraces = l.stackTraces by rw [X.admits.platform]).trans hl
  have Y := vx_rebase X (R' := { frames := R.frames, locals := R.locals, cells := 1, slots := 6 }) (Nat.le_refl _) (Nat.le_refl _) hRcells hRslots
  obtain ⟨s', hA⟩ : ∃ z, z = (T.setVm s.vm).setFrames (.invoking m args :: below) := ⟨_, rfl⟩
  rw [← hA] at Y
  have hvm : s'.vm = s.vm := by rw [hA]; rfl
  have hhp : s'.heap = H := by rw [hA]; exact hT
  have hW0 : s.WarmedH s'.vm := by rw [hvm]; exact State.WarmedH.refl s
  have hat' : ∀ w ∈ vx_at0 own ic cls names, w.before args s' = true := fun w hw => vx_ot_at hW0 hvm.symm (hgood w (List.mem_cons_of_mem _ (List.mem_cons_of_mem _ hw))) (hat w hw)
  have hk' : (Cond.classLink own ik cls).before args s' = true := vx_ot_at hW0 hvm.symm (hgood _ List.mem_cons_self) hk
  have hini' : (Cond.initialized cls).before args s' = true := vx_ot_at hW0 hvm.symm (hgood _ (List.mem_cons_of_mem _ List.mem_cons_self)) hini
  have hU' : vx_Zq Bundle.tN "UNASSIGNED_STACK" Bundle.steD A s' s'.heap := by rw [hhp]; exact vx_Zq.moved hW0.alike (hU.kept hS.2.1)
  have hN' : vx_Zq Bundle.tN "SUPPRESSED_SENTINEL" Bundle.listD A s' s'.heap := by rw [hhp]; exact vx_Zq.moved hW0.alike (hN.kept hS.2.1)
  have h : ∀ w ∈ Bundle.ownAtoms0 own ic cls names, w.before args s' = true := vx_own hat' (vx_isRefq hU'.1) (vx_isRefq hN'.1) hU'.2.word hN'.2.word
  have hown' : s'.vm.findClass own = some m.cls := by rw [hvm]; exact hown
  have hins : (Cond.instantiable cls 6).before args s' = true := h _ (by simp [Bundle.ownAtoms0])
  obtain ⟨vm₁, cX, kX, hfX, hkX, -, -, X₁, st1⟩ := Y.newCold hexec (own := own) (C := cls) (index := ik) (n := 6) hown' hk' hins hini'
    (g := F0 m pc ls rest) rfl (by rw [hb]; exact d0) (Nat.le_refl _) (Nat.le_refl _)
  generalize hT1 : (T.setVm vm₁).pushCell { cls := cX, slots := kX.instanceTypes.map defaultValue, vm := .none } = T1 at X₁ st1
  have hcat : (Value.ref T.heap.size).category = 1 := rfl
  have hcellA : T1.heap[T.heap.size]? = some (freshCell cX kX) := by rw [← hT1]; exact State.heap_pushCell_size _ _
  have d3' : decode c.code (pc + 3) = .ok (.dup, 1) := by rw [hb]; exact d3
  obtain ⟨U, hsteps, hrun, hend, hW, hsame, ce, hce, hO⟩ := X₁.ctorThrow0 hexec htr (own := own) (cls := cls) (names := names) (ic := ic) hown' hcls hnames h (fun x hx => nomatch hx) hfX hkX hcellA (by rw [hhp, hT]; exact Nat.le_refl _)
    (g := { method := m, pc := pc + 4, locals := ls, stack := .ref T.heap.size :: .ref T.heap.size :: rest, locked := none }) rfl hsize rfl rfl (rest := rest) rfl
    (by rw [hb]; exact d4) (by rw [hb]; exact d7) hout hRframes (by simp only [List.map_cons, List.sum_cons, hcat]; omega) hlocks
  obtain ⟨f1, f2⟩ := vx_frame hsame
  rw [hhp] at f1 f2
  have hWs : s.WarmedH U.vm := State.WarmedH.trans hW0 hW
  have hcl : s.vm.findClass cls = some ce.cls := by
    have h9 := hO.cls
    rw [hvm] at h9
    exact h9
  have hall : s.sameButNew ({ U with vm := s.vm } : State) locs mc ms := by
    subst hA
    obtain ⟨e1, e2⟩ := hsame
    rw [State.setFrames_setFrames] at e1
    have h2 : (T.setVm s.vm).sameButNew ({ U with vm := s.vm } : State) [] (0 + 1) (0 + 6) := ⟨e1, e2⟩
    have h3 := X.same.trans h2
    rw [List.append_nil] at h3
    exact h3.mono hc hs
  refine ⟨U, ?_, .threw T.heap.size, hrun, hend, Or.inr ⟨T.heap.size, rfl, cls, ce, locs, hx U hWs.alike f1 (fun q hq => f2 q hq (fun z hz => nomatch hz)), hce, hO.vm, hcl, hWs, hall, hf⟩⟩
  refine st1 _ ?_
  show Steps p.tables e below (T1.setTop { method := m, pc := pc + 3, locals := ls, stack := .ref T.heap.size :: rest, locked := none }) _
  jvm_step X₁.here [X₁.here.top, hexec, d3', Value.category]
  exact hsteps
/-- 'throw new E("text")': new; dup; ldc; invokespecial; athrow -/
theorem vx_throwS {cc : ByteArray} {pc : Nat} (hexec : p.tables.exec = Jvm.exec) (hb : c.code = cc) (hl : l.stackTraces = false) {own cls text : String} {names : List String} {ik is ic mc ms sa : Nat} {A : Nat → Prop}
    (hown : s.vm.findClass own = some m.cls) (hcls : Bundle.fit cls = true) (hnames : ∀ n ∈ names, Bundle.fit n = true)
    (hk : (Cond.classLink own ik cls).before args s = true) (hini : (Cond.initialized cls).before args s = true) (hstr : vk_R own is text sa s) (hat : ∀ w ∈ vx_atS own ic cls names, w.before args s = true)
    (hgood : ∀ w ∈ Cond.classLink own ik cls :: Cond.initialized cls :: vx_atS own ic cls names, vx_ot w = true)
    (hU : vx_Zq Bundle.tN "UNASSIGNED_STACK" Bundle.steD A s s.heap) (hN : vx_Zq Bundle.tN "SUPPRESSED_SENTINEL" Bundle.listD A s s.heap) (hS : va_S A s.heap H locs) (hsize : ls.size = c.maxLocals)
    (d0 : decode cc pc = .ok (.new ik, 3)) (d3 : decode cc (pc + 3) = .ok (.dup, 1)) (d4 : decode cc (pc + 4) = .ok (.ldc is, 2)) (d6 : decode cc (pc + 6) = .ok (.invokespecial ic, 3)) (d9 : decode cc (pc + 9) = .ok (.athrow, 1))
    (hout : ∀ x ∈ c.exceptionTable.toList, covers x (pc + 9) = false)
    (hRframes : names.length + 3 < R.frames) (hRlocals : (rest.map fun v => v.category).sum + (13 * (names.length + 1) + 43) ≤ R.locals) (hRcells : cells + 1 ≤ R.cells) (hRslots : slots + 6 ≤ R.slots) (hlocks : meth.locks = false)
    (hx : ∀ t : State, s.vm.Alike t.vm → H.size ≤ t.heap.size → (∀ q : Nat, q < H.size → t.heap[q]? = H[q]?) → XC cls s t)
    (hf : ∀ z ∈ locs, free z.base) (hc : cells + 1 ≤ mc) (hs : slots + 6 ≤ ms) :
    W p l e R s m args below meth c H locs cells slots (vx_MQ below Qc XC args s mc ms free) (F0 m pc ls rest) := by
  intro T hT X
  have htr : e.platform.stackTraces = false := (show e.platform.stackTraces = l.stackTraces by rw [X.admits.platform]).trans hl
  have Y := vx_rebase X (R' := { frames := R.frames, locals := R.locals, cells := 1, slots := 6 }) (Nat.le_refl _) (Nat.le_refl _) hRcells hRslots
  obtain ⟨s', hA⟩ : ∃ z, z = (T.setVm s.vm).setFrames (.invoking m args :: below) := ⟨_, rfl⟩
  rw [← hA] at Y
  have hvm : s'.vm = s.vm := by rw [hA]; rfl
  have hhp : s'.heap = H := by rw [hA]; exact hT
  have hW0 : s.WarmedH s'.vm := by rw [hvm]; exact State.WarmedH.refl s
  have hat' : ∀ w ∈ vx_atS own ic cls names, w.before args s' = true := fun w hw => vx_ot_at hW0 hvm.symm (hgood w (List.mem_cons_of_mem _ (List.mem_cons_of_mem _ hw))) (hat w hw)
  have hk' : (Cond.classLink own ik cls).before args s' = true := vx_ot_at hW0 hvm.symm (hgood _ List.mem_cons_self) hk
  have hini' : (Cond.initialized cls).before args s' = true := vx_ot_at hW0 hvm.symm (hgood _ (List.mem_cons_of_mem _ List.mem_cons_self)) hini
  have hU' : vx_Zq Bundle.tN "UNASSIGNED_STACK" Bundle.steD A s' s'.heap := by rw [hhp]; exact vx_Zq.moved hW0.alike (hU.kept hS.2.1)
  have hN' : vx_Zq Bundle.tN "SUPPRESSED_SENTINEL" Bundle.listD A s' s'.heap := by rw [hhp]; exact vx_Zq.moved hW0.alike (hN.kept hS.2.1)
  have h : ∀ w ∈ Bundle.ownAtoms own ic cls names, w.before args s' = true := vx_own hat' (vx_isRefq hU'.1) (vx_isRefq hN'.1) hU'.2.word hN'.2.word
  have hown' : s'.vm.findClass own = some m.cls := by rw [hvm]; exact hown
  have hins : (Cond.instantiable cls 6).before args s' = true := h _ (by simp [Bundle.ownAtoms])
  obtain ⟨vm₁, cX, kX, hfX, hkX, -, -, X₁, st1⟩ := Y.newCold hexec (own := own) (C := cls) (index := ik) (n := 6) hown' hk' hins hini'
    (g := F0 m pc ls rest) rfl (by rw [hb]; exact d0) (Nat.le_refl _) (Nat.le_refl _)
  generalize hT1 : (T.setVm vm₁).pushCell { cls := cX, slots := kX.instanceTypes.map defaultValue, vm := .none } = T1 at X₁ st1
  have hcat : (Value.ref T.heap.size).category = 1 := rfl
  have hcellA : T1.heap[T.heap.size]? = some (freshCell cX kX) := by rw [← hT1]; exact State.heap_pushCell_size _ _
  have d3' : decode c.code (pc + 3) = .ok (.dup, 1) := by rw [hb]; exact d3
  have d4' : decode c.code (pc + 4) = .ok (.ldc is, 2) := by rw [hb]; exact d4
  have hstr' : vk_R own is text sa s' := vk_R.warm hW0 hstr
  obtain ⟨U, hsteps, hrun, hend, hW, hsame, ce, hce, hO⟩ := X₁.ctorThrowS hexec htr (own := own) (cls := cls) (names := names) (ic := ic) hown' hcls hnames h (fun x hx => nomatch hx) hfX hkX hcellA (by rw [hhp, hT]; exact Nat.le_refl _) (msg := .ref sa) rfl
    (g := { method := m, pc := pc + 6, locals := ls, stack := .ref sa :: .ref T.heap.size :: .ref T.heap.size :: rest, locked := none }) rfl hsize rfl rfl (rest := rest) rfl
    (by rw [hb]; exact d6) (by rw [hb]; exact d9) hout hRframes (by simp only [List.map_cons, List.sum_cons, hcat]; omega) hlocks
  obtain ⟨f1, f2⟩ := vx_frame hsame
  rw [hhp] at f1 f2
  have hWs : s.WarmedH U.vm := State.WarmedH.trans hW0 hW
  have hcl : s.vm.findClass cls = some ce.cls := by
    have h9 := hO.cls
    rw [hvm] at h9
    exact h9
  have hall : s.sameButNew ({ U with vm := s.vm } : State) locs mc ms := by
    subst hA
    obtain ⟨e1, e2⟩ := hsame
    rw [State.setFrames_setFrames] at e1
    have h2 : (T.setVm s.vm).sameButNew ({ U with vm := s.vm } : State) [] (0 + 1) (0 + 6) := ⟨e1, e2⟩
    have h3 := X.same.trans h2
    rw [List.append_nil] at h3
    exact h3.mono hc hs
  refine ⟨U, ?_, .threw T.heap.size, hrun, hend, Or.inr ⟨T.heap.size, rfl, cls, ce, locs, hx U hWs.alike f1 (fun q hq => f2 q hq (fun z hz => nomatch hz)), hce, hO.vm, hcl, hWs, hall, hf⟩⟩
  refine st1 _ ?_
  show Steps p.tables e below (T1.setTop { method := m, pc := pc + 3, locals := ls, stack := .ref T.heap.size :: rest, locked := none }) _
  jvm_step X₁.here [X₁.here.top, hexec, d3', Value.category]
  exact X₁.ldcString hexec (own := own) (text := text) (index := is) (a := sa) hown' hstr'.1 hstr'.2
    (g := { method := m, pc := pc + 4, locals := ls, stack := .ref T.heap.size :: .ref T.heap.size :: rest, locked := none }) rfl d4' _ hsteps
/-- 'throw new E("text")', the text by a wide index -/
theorem vx_throwSW {cc : ByteArray} {pc : Nat} (hexec : p.tables.exec = Jvm.exec) (hb : c.code = cc) (hl : l.stackTraces = false) {own cls text : String} {names : List String} {ik is ic mc ms sa : Nat} {A : Nat → Prop}
    (hown : s.vm.findClass own = some m.cls) (hcls : Bundle.fit cls = true) (hnames : ∀ n ∈ names, Bundle.fit n = true)
    (hk : (Cond.classLink own ik cls).before args s = true) (hini : (Cond.initialized cls).before args s = true) (hstr : vk_R own is text sa s) (hat : ∀ w ∈ vx_atS own ic cls names, w.before args s = true)
    (hgood : ∀ w ∈ Cond.classLink own ik cls :: Cond.initialized cls :: vx_atS own ic cls names, vx_ot w = true)
    (hU : vx_Zq Bundle.tN "UNASSIGNED_STACK" Bundle.steD A s s.heap) (hN : vx_Zq Bundle.tN "SUPPRESSED_SENTINEL" Bundle.listD A s s.heap) (hS : va_S A s.heap H locs) (hsize : ls.size = c.maxLocals)
    (d0 : decode cc pc = .ok (.new ik, 3)) (d3 : decode cc (pc + 3) = .ok (.dup, 1)) (d4 : decode cc (pc + 4) = .ok (.ldc_w is, 3)) (d7 : decode cc (pc + 7) = .ok (.invokespecial ic, 3)) (d10 : decode cc (pc + 10) = .ok (.athrow, 1))
    (hout : ∀ x ∈ c.exceptionTable.toList, covers x (pc + 10) = false)
    (hRframes : names.length + 3 < R.frames) (hRlocals : (rest.map fun v => v.category).sum + (13 * (names.length + 1) + 43) ≤ R.locals) (hRcells : cells + 1 ≤ R.cells) (hRslots : slots + 6 ≤ R.slots) (hlocks : meth.locks = false)
    (hx : ∀ t : State, s.vm.Alike t.vm → H.size ≤ t.heap.size → (∀ q : Nat, q < H.size → t.heap[q]? = H[q]?) → XC cls s t)
    (hf : ∀ z ∈ locs, free z.base) (hc : cells + 1 ≤ mc) (hs : slots + 6 ≤ ms) :
    W p l e R s m args below meth c H locs cells slots (vx_MQ below Qc XC args s mc ms free) (F0 m pc ls rest) := by
  intro T hT X
  have htr : e.platform.stackTraces = false := (show e.platform.stackTraces = l.stackTraces by rw [X.admits.platform]).trans hl
  have Y := vx_rebase X (R' := { frames := R.frames, locals := R.locals, cells := 1, slots := 6 }) (Nat.le_refl _) (Nat.le_refl _) hRcells hRslots
  obtain ⟨s', hA⟩ : ∃ z, z = (T.setVm s.vm).setFrames (.invoking m args :: below) := ⟨_, rfl⟩
  rw [← hA] at Y
  have hvm : s'.vm = s.vm := by rw [hA]; rfl
  have hhp : s'.heap = H := by rw [hA]; exact hT
  have hW0 : s.WarmedH s'.vm := by rw [hvm]; exact State.WarmedH.refl s
  have hat' : ∀ w ∈ vx_atS own ic cls names, w.before args s' = true := fun w hw => vx_ot_at hW0 hvm.symm (hgood w (List.mem_cons_of_mem _ (List.mem_cons_of_mem _ hw))) (hat w hw)
  have hk' : (Cond.classLink own ik cls).before args s' = true := vx_ot_at hW0 hvm.symm (hgood _ List.mem_cons_self) hk
  have hini' : (Cond.initialized cls).before args s' = true := vx_ot_at hW0 hvm.symm (hgood _ (List.mem_cons_of_mem _ List.mem_cons_self)) hini
  have hU' : vx_Zq Bundle.tN "UNASSIGNED_STACK" Bundle.steD A s' s'.heap := by rw [hhp]; exact vx_Zq.moved hW0.alike (hU.kept hS.2.1)
  have hN' : vx_Zq Bundle.tN "SUPPRESSED_SENTINEL" Bundle.listD A s' s'.heap := by rw [hhp]; exact vx_Zq.moved hW0.alike (hN.kept hS.2.1)
  have h : ∀ w ∈ Bundle.ownAtoms own ic cls names, w.before args s' = true := vx_own hat' (vx_isRefq hU'.1) (vx_isRefq hN'.1) hU'.2.word hN'.2.word
  have hown' : s'.vm.findClass own = some m.cls := by rw [hvm]; exact hown
  have hins : (Cond.instantiable cls 6).before args s' = true := h _ (by simp [Bundle.ownAtoms])
  obtain ⟨vm₁, cX, kX, hfX, hkX, -, -, X₁, st1⟩ := Y.newCold hexec (own := own) (C := cls) (index := ik) (n := 6) hown' hk' hins hini'
    (g := F0 m pc ls rest) rfl (by rw [hb]; exact d0) (Nat.le_refl _) (Nat.le_refl _)
  generalize hT1 : (T.setVm vm₁).pushCell { cls := cX, slots := kX.instanceTypes.map defaultValue, vm := .none } = T1 at X₁ st1
  have hcat : (Value.ref T.heap.size).category = 1 := rfl
  have hcellA : T1.heap[T.heap.size]? = some (freshCell cX kX) := by rw [← hT1]; exact State.heap_pushCell_size _ _
  have d3' : decode c.code (pc + 3) = .ok (.dup, 1) := by rw [hb]; exact d3
  have d4' : decode c.code (pc + 4) = .ok (.ldc_w is, 3) := by rw [hb]; exact d4
  have hstr' : vk_R own is text sa s' := vk_R.warm hW0 hstr
  obtain ⟨U, hsteps, hrun, hend, hW, hsame, ce, hce, hO⟩ := X₁.ctorThrowS hexec htr (own := own) (cls := cls) (names := names) (ic := ic) hown' hcls hnames h (fun x hx => nomatch hx) hfX hkX hcellA (by rw [hhp, hT]; exact Nat.le_refl _) (msg := .ref sa) rfl
    (g := { method := m, pc := pc + 7, locals := ls, stack := .ref sa :: .ref T.heap.size :: .ref T.heap.size :: rest, locked := none }) rfl hsize rfl rfl (rest := rest) rfl
    (by rw [hb]; exact d7) (by rw [hb]; exact d10) hout hRframes (by simp only [List.map_cons, List.sum_cons, hcat]; omega) hlocks
  obtain ⟨f1, f2⟩ := vx_frame hsame
  rw [hhp] at f1 f2
  have hWs : s.WarmedH U.vm := State.WarmedH.trans hW0 hW
  have hcl : s.vm.findClass cls = some ce.cls := by
    have h9 := hO.cls
    rw [hvm] at h9
    exact h9
  have hall : s.sameButNew ({ U with vm := s.vm } : State) locs mc ms := by
    subst hA
    obtain ⟨e1, e2⟩ := hsame
    rw [State.setFrames_setFrames] at e1
    have h2 : (T.setVm s.vm).sameButNew ({ U with vm := s.vm } : State) [] (0 + 1) (0 + 6) := ⟨e1, e2⟩
    have h3 := X.same.trans h2
    rw [List.append_nil] at h3
    exact h3.mono hc hs
  refine ⟨U, ?_, .threw T.heap.size, hrun, hend, Or.inr ⟨T.heap.size, rfl, cls, ce, locs, hx U hWs.alike f1 (fun q hq => f2 q hq (fun z hz => nomatch hz)), hce, hO.vm, hcl, hWs, hall, hf⟩⟩
  refine st1 _ ?_
  show Steps p.tables e below (T1.setTop { method := m, pc := pc + 3, locals := ls, stack := .ref T.heap.size :: rest, locked := none }) _
  jvm_step X₁.here [X₁.here.top, hexec, d3', Value.category]
  exact X₁.ldcStringW hexec (own := own) (text := text) (index := is) (a := sa) hown' hstr'.1 hstr'.2
    (g := { method := m, pc := pc + 4, locals := ls, stack := .ref T.heap.size :: .ref T.heap.size :: rest, locked := none }) rfl d4' _ hsteps
end Ends
section Bodies
variable {l : Launch}
theorem vx_ofW {y : MethodName} {ws ws' : List Cond} {rm : Room} {Pc : Array Value → State → Prop} {Qc : Array Value → State → Outcome → State → Prop} {XC : String → State → State → Prop} {mc ms : Nat} {free : Addr → Prop} {cc : ByteArray} {maxL : Nat} {ret : Option FieldType}
    (hy : plainName y.cls = true) (hw : ws = Cond.code y cc maxL ret :: ws')
    (body : ∀ p e s m args below meth c s₁, BodyLoose p l y (headSpec ws rm) cc maxL ret e s m args below meth c s₁ → c.maxLocals = maxL → (∀ x ∈ c.exceptionTable.toList, False) → Pc args s →
      W p l e (headSpec ws rm).room s m args below meth c s.heap [] 0 0 (vx_MQ below Qc XC args s mc ms free) (entryFrame m args maxL)) : vx_Met l y ws rm Pc Qc XC mc ms free := by
  refine MetFree.of_bodyS (code := cc) (maxLocals := maxL) (ret := ret) hy ?_ ?_
  · intro args s m h hn
    obtain ⟨meth, c, h1, h2, h3, h4, h5, h6, -, -⟩ := Cond.code_spec hn (atoms_spec (ws := ws) h _ (by rw [hw]; exact List.mem_cons_self))
    exact ⟨meth, c, h1, h2, h3, h4, h5, h6⟩
  · intro p e s m args below meth c s₁ B hml hP _
    have hh0 : s₁.heap = s.heap := by rw [B.state]; rfl
    have ht : ∀ x ∈ c.exceptionTable.toList, False := by
      obtain ⟨meth9, c9, h1, h2, -, -, -, -, h7, -⟩ := Cond.code_spec B.named (atoms_spec (ws := ws) B.pre _ (by rw [hw]; exact List.mem_cons_self))
      cases Option.some.inj (h1.symm.trans B.method)
      cases Option.some.inj (h2.symm.trans (Stand.of_body B).code)
      intro x hx
      rw [Array.isEmpty_iff.mp h7] at hx
      cases hx
    obtain ⟨t, a1, o, b1, b2, b3⟩ := body p e s m args below meth c s₁ B hml ht hP s₁ hh0 (Stand.of_body B)
    exact ⟨t, o, a1, b1, b2, b3⟩
/-- the table of a body with handlers -/
theorem vx_table {p : Program} {x y : MethodName} {S : Spec} {cc bytes : ByteArray} {maxL maxL' : Nat} {ret ret' : Option FieldType} {e : Env} {s s₁ : State} {m : MethodId} {args : Array Value} {below : List Frame} {meth : Method} {c : Code} {hh : List (Nat × Nat × Nat × Nat)}
    (B : BodyLoose p l y S cc maxL ret e s m args below meth c s₁) (h : (Cond.codeWith y bytes maxL' ret' hh).before args s = true) : c.exceptionTable.toList = tableOf hh := by
  obtain ⟨m9, meth9, c9, hn9, h1, h2, -, -, h6, -⟩ := Cond.codeWith_spec h
  cases Option.some.inj (hn9.symm.trans B.named)
  cases Option.some.inj (h1.symm.trans B.method)
  cases Option.some.inj (h2.symm.trans (Stand.of_body B).code)
  rw [← h6, table_eq]
end Bodies
end VXA
/-! ===== END ===== -/
/-! ===== BEGIN a static call of a method with an exception table ===== -/
section VXS
variable {p : Program} {l : Launch} {e : Env} {R : Room} {s : State} {m : MethodId} {args : Array Value} {below : List Frame} {meth : Method} {c : Code} {T : State} {H : Heap} {locs : List Loc} {cells slots : Nat}
abbrev vx_CSW (R : Room) (s : State) (args : Array Value) (own : String) (index : Nat) (y : MethodName) (bytes : ByteArray) (maxL : Nat) (ret : Option FieldType) (hh : List (Nat × Nat × Nat × Nat)) (ws : List Cond) (rm : Room) (mc ms n : Nat) : Prop :=
  (rm.cells = mc ∧ rm.slots = ms ∧ rm.frames + 1 ≤ R.frames ∧ 8 + (maxL + 11) + rm.locals ≤ R.locals ∧ (∀ w ∈ ws, ∀ (a' : Array Value) (U : State), s.WarmedH U.vm → w.before a' U = true) ∧ Cond.codeWith y bytes maxL ret hh ∈ ws) ∧
  (Cond.codeWith y bytes maxL ret hh).before args s = true ∧ (Cond.initialized y.cls).before args s = true ∧ (y.cls ≠ "java/lang/invoke/MethodHandle" ∧ y.cls ≠ "java/lang/invoke/VarHandle") ∧
  (∀ sig, parseMethodDescriptor y.desc = some sig → n = sig.parameters.length) ∧ (Cond.methodLink own index y).before args s = true ∧ (Cond.static y).before args s = true
theorem vx_cwSW {own : String} {index maxL mc ms : Nat} {y : MethodName} {bytes : ByteArray} {ret : Option FieldType} {hh : List (Nat × Nat × Nat × Nat)} {Ts ws ws' : List Cond} {rm : Room} (n : Nat) (ht : ∀ w ∈ Ts, w.before args s = true) (hT : GoodIn Ts (va_wsS own index y ws)) (hw : ws = Cond.codeWith y bytes maxL ret hh :: ws') (hrc : rm.cells = mc) (hrs : rm.slots = ms)
    (hd : y.cls ≠ "java/lang/invoke/MethodHandle" ∧ y.cls ≠ "java/lang/invoke/VarHandle" ∧ (parseMethodDescriptor y.desc).map (fun d => d.parameters.length) = some n) (hR : rm.frames + 1 ≤ R.frames ∧ 8 + (maxL + 11) + rm.locals ≤ R.locals) :
    vx_CSW R s args own index y bytes maxL ret hh ws rm mc ms n := by
  have ok : ∀ w ∈ va_wsS own index y ws, w.before args s = true := fun w h => ht w (hT w h).1
  have hG : GoodIn Ts ws := fun w h => hT w (by unfold va_wsS; exact List.mem_append_right _ h)
  have hc : Cond.codeWith y bytes maxL ret hh ∈ ws := by rw [hw]; exact List.mem_cons_self
  refine ⟨⟨hrc, hrs, hR.1, hR.2, pay_in ht hG, hc⟩, ht _ (hG _ hc).1, ok _ (by simp [va_wsS]), ⟨hd.1, hd.2.1⟩, fun sig h => ?_, ok _ (by simp [va_wsS]), ok _ (by simp [va_wsS])⟩
  have h2 := hd.2.2
  rw [h] at h2
  exact (Option.some.inj h2).symm
theorem vx_callSW (X : Stand p l e R s m args below meth c T locs cells slots) (hexec : p.tables.exec = Jvm.exec) {own : String} {index : Nat} {y : MethodName} {bytes : ByteArray} {maxL : Nat} {ret : Option FieldType} {hh : List (Nat × Nat × Nat × Nat)}
    (hown : s.vm.findClass own = some m.cls) (hlink : (Cond.methodLink own index y).before args s = true) (hstat : (Cond.static y).before args s = true) (hinit : (Cond.initialized y.cls).before args s = true)
    (hcode : (Cond.codeWith y bytes maxL ret hh).before args s = true) (hy : y.cls ≠ "java/lang/invoke/MethodHandle" ∧ y.cls ≠ "java/lang/invoke/VarHandle")
    {W9 : Nat} {Pre : Pt → Array Value → Prop} {Post : Pt → Array Value → Option Value → Pt → Prop} (hK : Back l R p e below s args y 3 W9 Pre Post)
    {g : JFrame} (hg : g.method = m) (hsize : g.locals.size = c.maxLocals) {argsL rest : List Value} (hlen : ∀ sig, parseMethodDescriptor y.desc = some sig → argsL.length = sig.parameters.length)
    (hstack : g.stack = argsL.reverse ++ rest) (hW : 2 * g.monitorRoom + (rest.map fun v => v.category).sum ≤ W9) (hdg : decode c.code g.pc = .ok (.invokestatic index, 3))
    (hpre : ∀ vm₁, s.WarmedH vm₁ → Pre ⟨T.setVm vm₁, locs, cells, slots⟩ argsL.toArray) :
    ∃ (v : Option Value) (vm₁ : Vm) (B : Pt), s.WarmedH vm₁ ∧ Stand p l e R s m args below meth c B.U B.locs B.cells B.slots ∧ Post ⟨T.setVm vm₁, locs, cells, slots⟩ argsL.toArray v B ∧
      ∀ target, Steps p.tables e below (B.U.setTop { g with pc := g.pc + 3, stack := v.toList ++ rest }) target → Steps p.tables e below (T.setTop g) target := by
  obtain ⟨mk, methM, cM, hnamed, hmethM, -, -, -, -, -, -, hsigM⟩ := Cond.codeWith_spec hcode
  have hstatic : methM.isStatic = true := Cond.static_spec hnamed hmethM hstat
  obtain ⟨kP, hkP, -⟩ := className_of_methodNamed hnamed
  have hinitP : kP.init = .initialized := Cond.initialized_spec (findClass_of_methodNamed hnamed) hkP hinit
  obtain ⟨vm₁, X₁, hstep₁⟩ := X.invokestatic hexec hown hlink hnamed hmethM hstatic hkP hinitP hy (g := g) hg (argsL := argsL) (rest := rest) (hlen _ hsigM) hstack hdg
  obtain ⟨v, B, X', hpost, hsteps⟩ := hK m meth c ⟨T.setVm vm₁, locs, cells, slots⟩ { g with stack := rest } (.invokestatic index) mk argsL.toArray X₁ hg hsize hdg hW (X₁.named hnamed) (hpre vm₁ X₁.warmed)
  exact ⟨v, vm₁, B, X₁.warmed, X', hpost, fun target h => hstep₁ _ fun acts => by rw [doInvoke_state]; exact hsteps.trans h⟩
theorem vx_runSW {y : MethodName} {bytes cc : ByteArray} {maxL nL mc ms n index : Nat} {ret : Option FieldType} {hh : List (Nat × Nat × Nat × Nat)} {ws : List Cond} {rm : Room} {Pc : Array Value → State → Prop} {Qc : Array Value → State → Outcome → State → Prop} {free : Addr → Prop} {Ts : List Cond} {own : String} {As rest : List Value} {g : JFrame}
    (S : CallFix p m c cc nL s args Ts own) (hM : Met l y ws rm Pc Qc mc ms free) (cw : vx_CSW R s args own index y bytes maxL ret hh ws rm mc ms n) (hp : PreS s H Pc As)
    (hg : g.method = m) (hn : As.length = n) (hsize : g.locals.size = nL) (hstack : g.stack = As.reverse ++ rest) (hW : 2 * g.monitorRoom + (rest.map fun v => v.category).sum ≤ 8) (hdg : decode cc g.pc = .ok (.invokestatic index, 3)) (hf : cells + mc ≤ R.cells ∧ slots + ms ≤ R.slots) :
    va_Run p l e R s m args below meth c H locs cells slots mc ms g rest (Qc As.toArray) (free) := by
  obtain ⟨⟨hrc, hrs, hfr, hlo, hws, hcw⟩, hcode, hini, hy, hlen, hl, hstt⟩ := cw
  have hK : Back l R p e below s args y 3 8 (PreOf R mc ms Pc) (PostOf Qc mc ms free) := va_backW (hh := hh) (bytes := bytes) (maxL := maxL) (ret := ret) hM hp.1 hrc hrs hfr hlo hws hcw (fun a' U hW => word_at hW (Or.inl (by first | rfl | simp [Cond.onTables, Cond.keeps, Cond.steady])) hini)
  obtain ⟨hx, hb, hml, ho, -⟩ := S
  intro T hT X
  obtain ⟨v, vm₁, ⟨U', l2, c2, s2⟩, hW₁, X', ⟨g', mk, t, L, e1, e2, hq, h1, hL, h2, h3⟩, st⟩ := vx_callSW X hx (hh := hh) (bytes := bytes) (maxL := maxL) (ret := ret) ho hl hstt hini hcode hy hK hg (hsize.trans hml.symm) (argsL := As) (rest := rest) (fun sig h => hn.trans (hlen sig h)) hstack hW (by rw [hb]; exact hdg)
    (fun vm₁ hW₁ => ⟨hf.1, hf.2, hp.2 (T.setVm vm₁) hT hW₁⟩)
  dsimp only [Pt.U, Pt.locs, Pt.cells, Pt.slots] at X' e1 e2 h1 h2 h3 st
  subst h1; subst h2; subst h3
  exact ⟨v, (T.setVm vm₁).calling g' mk As.toArray, t, U', L, hT, X', hL, e1, e2, hq, st⟩
/-- not caught here, past rows that name other classes: it goes on to the caller -/
theorem vx_outP {p : Program} {l : Launch} {e : Env} {R : Room} {s : State} {m : MethodId} {args : Array Value} {below : List Frame} {meth : Method} {c : Code} {H : Heap} {locs : List Loc} {cells slots : Nat} {free : Addr → Prop} {ls : Array Slot} {rest : List Value} {Qc : Array Value → State → Outcome → State → Prop} {XC : String → State → State → Prop}
    {pc : Nat} {own E : String} {ce : Cell} {q : Addr} {mc ms : Nat} (hown : s.vm.findClass own = some m.cls) (hlocks : meth.locks = false)
    (hpass : ∀ z ∈ c.exceptionTable.toList, covers z pc = false ∨ (z.catchType ≠ 0 ∧ ∃ nm : String, (Cond.classLink own z.catchType nm).before args s = true ∧ va_Nc E nm s)) (hcell : H[q]? = some ce) (hv : ce.vm = .none) (hcl : s.vm.findClass E = some ce.cls)
    (hx : ∀ t : State, t.heap = H → s.vm.Alike t.vm → XC E s t) (hf : ∀ z ∈ locs, free z.base) (hc : cells ≤ mc) (hs : slots ≤ ms) :
    vx_W p l e R s m args below meth c H locs cells slots (vx_MQ below Qc XC args s mc ms free) (F0 m pc ls rest) q := by
  intro T hT X
  have hpl : e.platform.magicAccessors = ({} : Platform).magicAccessors := by rw [X.admits.platform]
  obtain ⟨vm', hW', X', st⟩ := X.outThrough hlocks q (g := F0 m pc ls rest) rfl rfl rfl (cell := ce) (by rw [hT]; exact hcell) (by rw [hv]; rfl)
    (by obtain ⟨k9, h9, -⟩ := Vm.findClass_spec hcl; exact ⟨k9, h9⟩) (fun z hz => by
      rcases hpass z hz with h | ⟨hz0, nm, hl1, hn1⟩
      · exact Or.inl h
      · obtain ⟨c6, hc6, hcl6⟩ := Cond.classLink_spec hown hl1 e.platform hpl
        obtain ⟨a8, b8, h1, h2, h3⟩ := hn1
        cases Option.some.inj (h1.symm.trans hcl)
        cases Option.some.inj (h2.symm.trans hc6)
        exact Or.inr ⟨hz0, _, hcl6, h3⟩)
  obtain ⟨g₀, hfr⟩ := X'.frames_eq
  have hcell9 : ((T.setVm vm').setFrames (.throwing q :: below)).heap[q]? = some ce := by
    show T.heap[q]? = some ce
    rw [hT]; exact hcell
  have hend : Ended ((T.setVm vm').setFrames (.throwing q :: below)) below (.threw q) := State.frames_setFrames _ (State.cur_lt_of_frames hfr)
  refine ⟨(T.setVm vm').setFrames (.throwing q :: below), ?_, .threw q, X'.here.running, hend, Or.inr ⟨q, rfl, E, ce, locs, hx _ hT (X'.ends _).1.alike, hcell9, hv, hcl, (X'.ends _).1, (X'.ends _).2.mono hc hs, hf⟩⟩
  rw [X.pushThrowing_eq]
  exact st
/-- a thing of a world lies in the heap -/
theorem vx_lt {D : va_G} {cl : List vw_C} {ws : va_W} {H1 : Heap} (h : va_P D cl ws H1) {k : Nat} {q : Nat × va_E} (hk : ws[k]? = some q) : q.1 < H1.size := (h k q hk).lt
end VXS
/-! ===== END ===== -/
/-! ===== BEGIN methods with a table of their own: called by a name, returning or throwing ===== -/
section VXH
/-! vx_backW, vx_callVX, vx_callSX, vx_callVW, vx_runVW, vx_runVX, vx_runSX, vx_ofWH follow the same proofs as their sisters above (Free/Laws.lean, Shelf42/LK1.lean); vx_outP calls Shelf42/NT130.lean (outThrough). -/
section
variable {l : Launch} {R : Room} {p : Program} {e : Env} {below : List Frame} {s : State} {sargs : Array Value} {y : MethodName} {len W9 : Nat}
theorem vx_backW {ws : List Cond} {rm : Room} {Pc : Array Value → State → Prop} {Qc : Array Value → State → Outcome → State → Prop} {XC : String → State → State → Prop} {mc ms : Nat} {free : Addr → Prop} {bytes : ByteArray} {maxL : Nat} {ret : Option FieldType} {hh : List (Nat × Nat × Nat × Nat)}
    (hM : vx_Met l y ws rm Pc Qc XC mc ms free) (hblind : FrameBlind Pc) (hrc : rm.cells = mc) (hrs : rm.slots = ms)
    (hframes : rm.frames + 1 ≤ R.frames) (hlocals : W9 + (maxL + 11) + rm.locals ≤ R.locals)
    (hws : ∀ w ∈ ws, ∀ a' U, s.WarmedH U.vm → w.before a' U = true) (hcode : Cond.codeWith y bytes maxL ret hh ∈ ws) (hinit : ∀ a' U, s.WarmedH U.vm → (Cond.initialized y.cls).before a' U = true) :
    vx_Back l R p e below s sargs y len W9 (PreOf R mc ms Pc) (PostOf Qc mc ms free) (vx_Post XC mc ms free) := by
  intro m meth c A g ig mk a X hg hsize hdg hW hn hp
  have h1 : (headSpec ws rm).pre.before a A.U = true := atoms_intro fun w hw => hws w hw _ _ X.warmed
  have h2 : (Cond.codeWith y bytes maxL ret hh).before a A.U = true := hws _ hcode _ _ X.warmed
  have h3 : (Cond.initialized y.cls).before a A.U = true := hinit _ _ X.warmed
  have h4 : A.cells + (headSpec ws rm).room.cells ≤ R.cells := by rw [show (headSpec ws rm).room.cells = mc from hrc]; exact hp.1
  have h5 : A.slots + (headSpec ws rm).room.slots ≤ R.slots := by rw [show (headSpec ws rm).room.slots = ms from hrs]; exact hp.2.1
  have hPc : Pc a (A.U.calling g mk a) := hblind _ _ _ _ hp.2.2
  obtain ⟨U, Ls, c0, s0⟩ := A
  dsimp only [Pt.U, Pt.locs, Pt.cells, Pt.slots] at h1 h2 h3 h4 h5 X hn hPc ⊢
  obtain ⟨m9, methY, cY, hn9, hmY, hcY, -, hlY, -⟩ := Cond.codeWith_spec h2
  cases Option.some.inj (hn9.symm.trans hn)
  obtain ⟨kY, hkY, -⟩ := className_of_methodNamed hn
  have hinitY : kY.init = .initialized := Cond.initialized_spec (findClass_of_methodNamed hn) hkY h3
  have h : At U g.method c below := by rw [hg]; exact X.here
  have hlocals9 : W9 + (maxL + 11) + (headSpec ws rm).room.locals ≤ R.locals := hlocals
  have happ : (headSpec ws rm).appliesLoose y e.platform (U.calling g mk a) = true :=
    Spec.appliesLoose_calling (g := g) h hdg hn hkY hinitY
      (X.room_calling (g := g) (R' := (headSpec ws rm).room) hsize hmY hcY hframes (by rw [hlY]; omega) h4 h5) h1
  obtain ⟨mid, hmid⟩ := h.above
  have hfr : (U.setTop g).frames = (.java g :: mid) ++ below := by rw [State.frames_setTop' g h.top, hmid]; rfl
  obtain ⟨o, s₂, hsteps, -, hend, hq⟩ := Steps.callFree hM p X.admits X.cas X.clock (acts := []) hfr happ hPc trivial
  have hq' : vx_Q Qc XC mc ms free a (U.calling g mk a) o s₂ := hq
  rw [State.frames_setTop' g h.top] at hend
  obtain ⟨g₀, hg0⟩ := Option.isSome_iff_exists.mp h.top
  obtain ⟨r, hr⟩ := State.topJava?_eq_some.mp hg0
  have hr' : (({ U with heap := s₂.heap, slotsUsed := s₂.slotsUsed } : State).setVm s₂.vm).frames = .java g₀ :: r := hr
  rcases hq' with ⟨hqc, L, hfe, hL⟩ | ⟨q, rfl, E, ce, L, hx, hce, hcv, hcl, hW₂, hsm, hL⟩
  · obtain ⟨⟨v, rfl⟩, hW₂, e2, q2, q3, q4, q5, q6⟩ := id hfe
    have e3 : s₂ = ({ (U.calling g mk a).setFrames s₂.frames with heap := s₂.heap, slotsUsed := s₂.slotsUsed } : State).setVm s₂.vm := by
      have : s₂ = ({ s₂ with vm := (U.calling g mk a).vm } : State).setVm s₂.vm := rfl
      rw [e2] at this
      exact this
    obtain ⟨c₂, i₂, len₂, hc₂, hd₂, hf₂⟩ := hend
    have hW' : U.WarmedH s₂.vm := hW₂
    have hcc : c₂ = c := by
      have h1 : s₂.code? g.method = U.code? g.method := by
        rw [State.code?_eq, State.code?_eq, hW'.alike.method?]
      exact Option.some.inj (hc₂.symm.trans (h1.trans h.code))
    subst hcc
    have hlen : len₂ = len := by rw [hdg] at hd₂; cases hd₂; rfl
    subst hlen
    have hs₂ : s₂ = (({ U with heap := s₂.heap, slotsUsed := s₂.slotsUsed } : State).setVm s₂.vm).setTop { g with pc := g.pc + len₂, stack := v.toList ++ g.stack } := by
      refine e3.trans ?_
      rw [hf₂, State.calling_eq h.top, State.setFrames_setFrames, State.setTop_of_frames _ hr', hr]
      rfl
    have hsame : U.sameButNew ({ U with heap := s₂.heap, slotsUsed := s₂.slotsUsed } : State) L mc ms := by
      refine ⟨?_, q2, q3, q4, q5, q6⟩
      obtain ⟨t, ht, -⟩ := State.frames_cons hr
      show ({ U with heap := s₂.heap, slotsUsed := s₂.slotsUsed } : State) = { U.setFrames U.frames with heap := s₂.heap, slotsUsed := s₂.slotsUsed }
      rw [State.setFrames_self ht]
    subst hg
    refine Or.inl ⟨v, ⟨(({ U with heap := s₂.heap, slotsUsed := s₂.slotsUsed } : State).setVm s₂.vm), Ls ++ L, c0 + mc, s0 + ms⟩,
      ⟨X.admits, X.cas, X.clock, X.frames, X.room, X.hears, X.method, X.code, (X.here.setHeapUsed s₂.heap s₂.slotsUsed).setVm hW'.alike, X.tail, State.WarmedH.trans X.warmed hW', X.limits, X.bytes, X.same.trans (hsame.setVm s.vm)⟩,
      ⟨g, mk, s₂, L, rfl, rfl, hqc, rfl, hL, rfl, rfl⟩, ?_⟩
    show Steps p.tables e below _ ((({ U with heap := s₂.heap, slotsUsed := s₂.slotsUsed } : State).setVm s₂.vm).setTop { g with pc := g.pc + len₂, stack := v.toList ++ g.stack })
    rw [← hs₂]
    exact hsteps
  · obtain ⟨e2, q2, q3, q4, q5, q6⟩ := id hsm
    have e3 : s₂ = ({ (U.calling g mk a).setFrames s₂.frames with heap := s₂.heap, slotsUsed := s₂.slotsUsed } : State).setVm s₂.vm := by
      have : s₂ = ({ s₂ with vm := (U.calling g mk a).vm } : State).setVm s₂.vm := rfl
      rw [e2] at this
      exact this
    have hf₂ : s₂.frames = .throwing q :: .java g :: U.frames.tail := hend
    have hW' : U.WarmedH s₂.vm := hW₂
    have hs₂ : s₂ = ((({ U with heap := s₂.heap, slotsUsed := s₂.slotsUsed } : State).setVm s₂.vm).setTop g).pushFrame (.throwing q) := by
      refine e3.trans ?_
      rw [hf₂, State.calling_eq h.top, State.setFrames_setFrames, State.pushFrame, State.frames_setTop _ hr', State.setTop_of_frames _ hr', State.setFrames_setFrames, hr]
      rfl
    have hsame : U.sameButNew ({ U with heap := s₂.heap, slotsUsed := s₂.slotsUsed } : State) L mc ms := by
      refine ⟨?_, q2, q3, q4, q5, q6⟩
      obtain ⟨t, ht, -⟩ := State.frames_cons hr
      show ({ U with heap := s₂.heap, slotsUsed := s₂.slotsUsed } : State) = { U.setFrames U.frames with heap := s₂.heap, slotsUsed := s₂.slotsUsed }
      rw [State.setFrames_self ht]
    subst hg
    refine Or.inr ⟨q, ⟨(({ U with heap := s₂.heap, slotsUsed := s₂.slotsUsed } : State).setVm s₂.vm), Ls ++ L, c0 + mc, s0 + ms⟩,
      ⟨X.admits, X.cas, X.clock, X.frames, X.room, X.hears, X.method, X.code, (X.here.setHeapUsed s₂.heap s₂.slotsUsed).setVm hW'.alike, X.tail, State.WarmedH.trans X.warmed hW', X.limits, X.bytes, X.same.trans (hsame.setVm s.vm)⟩,
      ⟨g, mk, s₂, L, E, ce, rfl, rfl, hx, hce, hcv, hcl, rfl, hL, rfl, rfl⟩, ?_⟩
    show Steps p.tables e below _ (((({ U with heap := s₂.heap, slotsUsed := s₂.slotsUsed } : State).setVm s₂.vm).setTop g).pushFrame (.throwing q))
    rw [← hs₂]
    exact hsteps
end
variable {p : Program} {l : Launch} {e : Env} {R : Room} {s : State} {m : MethodId} {args : Array Value} {below : List Frame} {meth : Method} {c : Code} {T : State} {H : Heap} {locs : List Loc} {cells slots : Nat}
theorem vx_callVX (X : Stand p l e R s m args below meth c T locs cells slots) (hexec : p.tables.exec = Jvm.exec) {own C : String} {index : Nat} {y : MethodName} {bytes : ByteArray} {maxL : Nat} {ret : Option FieldType} {hh : List (Nat × Nat × Nat × Nat)}
    (hown : s.vm.findClass own = some m.cls) (hlink : (Cond.methodLink own index y).before args s = true) (hinst : (Cond.instanceMethod y).before args s = true) (hsel : (Cond.selects C y y).before args s = true)
    (hcode : (Cond.codeWith y bytes maxL ret hh).before args s = true) (hy : y.cls ≠ "java/lang/invoke/MethodHandle" ∧ y.cls ≠ "java/lang/invoke/VarHandle")
    {W9 : Nat} {Pre : Pt → Array Value → Prop} {Post : Pt → Array Value → Option Value → Pt → Prop} {PostX : Pt → Array Value → Addr → Pt → Prop} (hK : vx_Back l R p e below s args y 3 W9 Pre Post PostX)
    {b : Addr} {cellB : Cell} (hcell : T.heap[b]? = some cellB) (hobj : cellB.vm.isStatics = false) (hcls : s.vm.findClass C = some cellB.cls)
    {g : JFrame} (hg : g.method = m) (hsize : g.locals.size = c.maxLocals) {argsL rest : List Value} (hlen : ∀ sig, parseMethodDescriptor y.desc = some sig → argsL.length = sig.parameters.length)
    (hstack : g.stack = argsL.reverse ++ .ref b :: rest) (hW : 2 * g.monitorRoom + (rest.map fun v => v.category).sum ≤ W9) (hdg : decode c.code g.pc = .ok (.invokevirtual index, 3))
    (hpre : ∀ vm₁, s.WarmedH vm₁ → Pre ⟨T.setVm vm₁, locs, cells, slots⟩ (Value.ref b :: argsL).toArray) :
    (∃ (v : Option Value) (vm₁ : Vm) (B : Pt), s.WarmedH vm₁ ∧ Stand p l e R s m args below meth c B.U B.locs B.cells B.slots ∧ Post ⟨T.setVm vm₁, locs, cells, slots⟩ (Value.ref b :: argsL).toArray v B ∧
      ∀ target, Steps p.tables e below (B.U.setTop { g with pc := g.pc + 3, stack := v.toList ++ rest }) target → Steps p.tables e below (T.setTop g) target) ∨
    (∃ (q : Addr) (vm₁ : Vm) (B : Pt), s.WarmedH vm₁ ∧ Stand p l e R s m args below meth c B.U B.locs B.cells B.slots ∧ PostX ⟨T.setVm vm₁, locs, cells, slots⟩ (Value.ref b :: argsL).toArray q B ∧
      Steps p.tables e below (T.setTop g) ((B.U.setTop { g with stack := rest }).pushFrame (.throwing q))) := by
  obtain ⟨mk, methM, hnamed, hmethM, hstM, habM⟩ := Cond.instanceMethod_spec hinst
  obtain ⟨m8, methM', cM, hn8, hmethM', -, -, -, -, -, -, hsigM⟩ := Cond.codeWith_spec hcode
  cases Option.some.inj (hn8.symm.trans hnamed)
  cases hmethM.symm.trans hmethM'
  obtain ⟨c2, r2, m2, q1, q2, q3, q4, kP, hkP, hkPi⟩ := Cond.selects_spec hsel
  cases hcls.symm.trans q1
  cases (State.methodFound?_of_named hnamed hy).symm.trans q2
  cases hnamed.symm.trans q3
  have hselP : selectMethod e.platform s.vm cellB.cls mk = .method mk := by rw [Launch.admits_selectMethod X.admits]; exact q4
  obtain ⟨vm₁, X₁, hstep₁⟩ := X.invokevirtual hexec hown hlink hnamed hmethM hstM hkP hkPi hy (a := b) (cell := cellB) hcell
    (fun z h => by rw [h] at hobj; cases hobj) hselP hmethM habM hkP hkPi (g := g) hg (argsL := argsL) (rest := rest) (hlen _ hsigM) hstack hdg
  rcases hK m meth c ⟨T.setVm vm₁, locs, cells, slots⟩ { g with stack := rest } (.invokevirtual index) mk (Value.ref b :: argsL).toArray X₁ hg hsize hdg hW (X₁.named hnamed) (hpre vm₁ X₁.warmed) with ⟨v, B, X', hpost, hsteps⟩ | ⟨q, B, X', hpost, hsteps⟩
  · exact Or.inl ⟨v, vm₁, B, X₁.warmed, X', hpost, fun target h => hstep₁ _ fun acts => by rw [doInvoke_state]; exact hsteps.trans h⟩
  · exact Or.inr ⟨q, vm₁, B, X₁.warmed, X', hpost, hstep₁ _ fun acts => by rw [doInvoke_state]; exact hsteps⟩
theorem vx_callSX (X : Stand p l e R s m args below meth c T locs cells slots) (hexec : p.tables.exec = Jvm.exec) {own : String} {index : Nat} {y : MethodName} {bytes : ByteArray} {maxL : Nat} {ret : Option FieldType} {hh : List (Nat × Nat × Nat × Nat)}
    (hown : s.vm.findClass own = some m.cls) (hlink : (Cond.methodLink own index y).before args s = true) (hstat : (Cond.static y).before args s = true) (hinit : (Cond.initialized y.cls).before args s = true)
    (hcode : (Cond.codeWith y bytes maxL ret hh).before args s = true) (hy : y.cls ≠ "java/lang/invoke/MethodHandle" ∧ y.cls ≠ "java/lang/invoke/VarHandle")
    {W9 : Nat} {Pre : Pt → Array Value → Prop} {Post : Pt → Array Value → Option Value → Pt → Prop} {PostX : Pt → Array Value → Addr → Pt → Prop} (hK : vx_Back l R p e below s args y 3 W9 Pre Post PostX)
    {g : JFrame} (hg : g.method = m) (hsize : g.locals.size = c.maxLocals) {argsL rest : List Value} (hlen : ∀ sig, parseMethodDescriptor y.desc = some sig → argsL.length = sig.parameters.length)
    (hstack : g.stack = argsL.reverse ++ rest) (hW : 2 * g.monitorRoom + (rest.map fun v => v.category).sum ≤ W9) (hdg : decode c.code g.pc = .ok (.invokestatic index, 3))
    (hpre : ∀ vm₁, s.WarmedH vm₁ → Pre ⟨T.setVm vm₁, locs, cells, slots⟩ argsL.toArray) :
    (∃ (v : Option Value) (vm₁ : Vm) (B : Pt), s.WarmedH vm₁ ∧ Stand p l e R s m args below meth c B.U B.locs B.cells B.slots ∧ Post ⟨T.setVm vm₁, locs, cells, slots⟩ argsL.toArray v B ∧
      ∀ target, Steps p.tables e below (B.U.setTop { g with pc := g.pc + 3, stack := v.toList ++ rest }) target → Steps p.tables e below (T.setTop g) target) ∨
    (∃ (q : Addr) (vm₁ : Vm) (B : Pt), s.WarmedH vm₁ ∧ Stand p l e R s m args below meth c B.U B.locs B.cells B.slots ∧ PostX ⟨T.setVm vm₁, locs, cells, slots⟩ argsL.toArray q B ∧
      Steps p.tables e below (T.setTop g) ((B.U.setTop { g with stack := rest }).pushFrame (.throwing q))) := by
  obtain ⟨mk, methM, cM, hnamed, hmethM, -, -, -, -, -, -, hsigM⟩ := Cond.codeWith_spec hcode
  have hstatic : methM.isStatic = true := Cond.static_spec hnamed hmethM hstat
  obtain ⟨kP, hkP, -⟩ := className_of_methodNamed hnamed
  have hinitP : kP.init = .initialized := Cond.initialized_spec (findClass_of_methodNamed hnamed) hkP hinit
  obtain ⟨vm₁, X₁, hstep₁⟩ := X.invokestatic hexec hown hlink hnamed hmethM hstatic hkP hinitP hy (g := g) hg (argsL := argsL) (rest := rest) (hlen _ hsigM) hstack hdg
  rcases hK m meth c ⟨T.setVm vm₁, locs, cells, slots⟩ { g with stack := rest } (.invokestatic index) mk argsL.toArray X₁ hg hsize hdg hW (X₁.named hnamed) (hpre vm₁ X₁.warmed) with ⟨v, B, X', hpost, hsteps⟩ | ⟨q, B, X', hpost, hsteps⟩
  · exact Or.inl ⟨v, vm₁, B, X₁.warmed, X', hpost, fun target h => hstep₁ _ fun acts => by rw [doInvoke_state]; exact hsteps.trans h⟩
  · exact Or.inr ⟨q, vm₁, B, X₁.warmed, X', hpost, hstep₁ _ fun acts => by rw [doInvoke_state]; exact hsteps⟩
theorem vx_callVW (X : Stand p l e R s m args below meth c T locs cells slots) (hexec : p.tables.exec = Jvm.exec) {own C : String} {index : Nat} {y : MethodName} {bytes : ByteArray} {maxL : Nat} {ret : Option FieldType} {hh : List (Nat × Nat × Nat × Nat)}
    (hown : s.vm.findClass own = some m.cls) (hlink : (Cond.methodLink own index y).before args s = true) (hinst : (Cond.instanceMethod y).before args s = true) (hsel : (Cond.selects C y y).before args s = true)
    (hcode : (Cond.codeWith y bytes maxL ret hh).before args s = true) (hy : y.cls ≠ "java/lang/invoke/MethodHandle" ∧ y.cls ≠ "java/lang/invoke/VarHandle")
    {W9 : Nat} {Pre : Pt → Array Value → Prop} {Post : Pt → Array Value → Option Value → Pt → Prop} (hK : Back l R p e below s args y 3 W9 Pre Post)
    {b : Addr} {cellB : Cell} (hcell : T.heap[b]? = some cellB) (hobj : cellB.vm.isStatics = false) (hcls : s.vm.findClass C = some cellB.cls)
    {g : JFrame} (hg : g.method = m) (hsize : g.locals.size = c.maxLocals) {argsL rest : List Value} (hlen : ∀ sig, parseMethodDescriptor y.desc = some sig → argsL.length = sig.parameters.length)
    (hstack : g.stack = argsL.reverse ++ .ref b :: rest) (hW : 2 * g.monitorRoom + (rest.map fun v => v.category).sum ≤ W9) (hdg : decode c.code g.pc = .ok (.invokevirtual index, 3))
    (hpre : ∀ vm₁, s.WarmedH vm₁ → Pre ⟨T.setVm vm₁, locs, cells, slots⟩ (Value.ref b :: argsL).toArray) :
    ∃ (v : Option Value) (vm₁ : Vm) (B : Pt), s.WarmedH vm₁ ∧ Stand p l e R s m args below meth c B.U B.locs B.cells B.slots ∧ Post ⟨T.setVm vm₁, locs, cells, slots⟩ (Value.ref b :: argsL).toArray v B ∧
      ∀ target, Steps p.tables e below (B.U.setTop { g with pc := g.pc + 3, stack := v.toList ++ rest }) target → Steps p.tables e below (T.setTop g) target := by
  obtain ⟨mk, methM, hnamed, hmethM, hstM, habM⟩ := Cond.instanceMethod_spec hinst
  obtain ⟨m8, methM', cM, hn8, hmethM', -, -, -, -, -, -, hsigM⟩ := Cond.codeWith_spec hcode
  cases Option.some.inj (hn8.symm.trans hnamed)
  cases hmethM.symm.trans hmethM'
  obtain ⟨c2, r2, m2, q1, q2, q3, q4, kP, hkP, hkPi⟩ := Cond.selects_spec hsel
  cases hcls.symm.trans q1
  cases (State.methodFound?_of_named hnamed hy).symm.trans q2
  cases hnamed.symm.trans q3
  have hselP : selectMethod e.platform s.vm cellB.cls mk = .method mk := by rw [Launch.admits_selectMethod X.admits]; exact q4
  obtain ⟨vm₁, X₁, hstep₁⟩ := X.invokevirtual hexec hown hlink hnamed hmethM hstM hkP hkPi hy (a := b) (cell := cellB) hcell
    (fun z h => by rw [h] at hobj; cases hobj) hselP hmethM habM hkP hkPi (g := g) hg (argsL := argsL) (rest := rest) (hlen _ hsigM) hstack hdg
  obtain ⟨v, B, X', hpost, hsteps⟩ := hK m meth c ⟨T.setVm vm₁, locs, cells, slots⟩ { g with stack := rest } (.invokevirtual index) mk (Value.ref b :: argsL).toArray X₁ hg hsize hdg hW (X₁.named hnamed) (hpre vm₁ X₁.warmed)
  exact ⟨v, vm₁, B, X₁.warmed, X', hpost, fun target h => hstep₁ _ fun acts => by rw [doInvoke_state]; exact hsteps.trans h⟩
abbrev vx_CVW (R : Room) (s : State) (args : Array Value) (own C : String) (index : Nat) (y : MethodName) (bytes : ByteArray) (maxL : Nat) (ret : Option FieldType) (hh : List (Nat × Nat × Nat × Nat)) (ws : List Cond) (rm : Room) (mc ms n : Nat) : Prop :=
  (rm.cells = mc ∧ rm.slots = ms ∧ rm.frames + 1 ≤ R.frames ∧ 8 + (maxL + 11) + rm.locals ≤ R.locals ∧ (∀ w ∈ ws, ∀ (a' : Array Value) (U : State), s.WarmedH U.vm → w.before a' U = true) ∧ Cond.codeWith y bytes maxL ret hh ∈ ws) ∧
  (Cond.codeWith y bytes maxL ret hh).before args s = true ∧ (Cond.initialized y.cls).before args s = true ∧ (y.cls ≠ "java/lang/invoke/MethodHandle" ∧ y.cls ≠ "java/lang/invoke/VarHandle") ∧
  (∀ sig, parseMethodDescriptor y.desc = some sig → n = sig.parameters.length) ∧ (Cond.methodLink own index y).before args s = true ∧ (Cond.instanceMethod y).before args s = true ∧ (Cond.selects C y y).before args s = true
theorem vx_cwVW {own C : String} {index maxL mc ms : Nat} {y : MethodName} {bytes : ByteArray} {ret : Option FieldType} {hh : List (Nat × Nat × Nat × Nat)} {Ts ws ws' : List Cond} {rm : Room} (n : Nat) (ht : ∀ w ∈ Ts, w.before args s = true) (hT : GoodIn Ts (wsV own index C y ws)) (hw : ws = Cond.codeWith y bytes maxL ret hh :: ws') (hrc : rm.cells = mc) (hrs : rm.slots = ms)
    (hd : y.cls = C ∧ y.cls ≠ "java/lang/invoke/MethodHandle" ∧ y.cls ≠ "java/lang/invoke/VarHandle" ∧ (parseMethodDescriptor y.desc).map (fun d => d.parameters.length) = some n) (hR : rm.frames + 1 ≤ R.frames ∧ 8 + (maxL + 11) + rm.locals ≤ R.locals) :
    vx_CVW R s args own C index y bytes maxL ret hh ws rm mc ms n := by
  obtain ⟨hC, hd⟩ := hd
  subst hC
  have ok : ∀ w ∈ wsV own index y.cls y ws, w.before args s = true := fun w h => ht w (hT w h).1
  have hG : GoodIn Ts ws := fun w h => hT w (by unfold wsV; exact List.mem_append_right _ h)
  have hc : Cond.codeWith y bytes maxL ret hh ∈ ws := by rw [hw]; exact List.mem_cons_self
  refine ⟨⟨hrc, hrs, hR.1, hR.2, pay_in ht hG, hc⟩, ht _ (hG _ hc).1, ok _ (by simp [wsV]), ⟨hd.1, hd.2.1⟩, fun sig h => ?_, ok _ (by simp [wsV]), ok _ (by simp [wsV]), ok _ (by simp [wsV])⟩
  have h2 := hd.2.2
  rw [h] at h2
  exact (Option.some.inj h2).symm
theorem vx_runVW {y : MethodName} {bytes cc : ByteArray} {maxL nL mc ms n index : Nat} {ret : Option FieldType} {hh : List (Nat × Nat × Nat × Nat)} {ws : List Cond} {rm : Room} {Pc : Array Value → State → Prop} {Qc : Array Value → State → Outcome → State → Prop} {free : Addr → Prop} {Ts : List Cond} {own C : String} {b : Addr} {As rest : List Value} {g : JFrame}
    (S : CallFix p m c cc nL s args Ts own) (hM : Met l y ws rm Pc Qc mc ms free) (cw : vx_CVW R s args own C index y bytes maxL ret hh ws rm mc ms n) (hp : PreV s H C b Pc As)
    (hg : g.method = m) (hn : As.length = n) (hsize : g.locals.size = nL) (hstack : g.stack = As.reverse ++ .ref b :: rest) (hW : 2 * g.monitorRoom + (rest.map fun v => v.category).sum ≤ 8) (hdg : decode cc g.pc = .ok (.invokevirtual index, 3)) (hf : cells + mc ≤ R.cells ∧ slots + ms ≤ R.slots) :
    va_Run p l e R s m args below meth c H locs cells slots mc ms g rest (Qc (Value.ref b :: As).toArray) free := by
  obtain ⟨⟨hrc, hrs, hfr, hlo, hws, hcw⟩, hcode, hini, hy, hlen, hl, hin, hse⟩ := cw
  have hK : Back l R p e below s args y 3 8 (PreOf R mc ms Pc) (PostOf Qc mc ms free) := va_backW (hh := hh) (bytes := bytes) (maxL := maxL) (ret := ret) hM hp.1 hrc hrs hfr hlo hws hcw (fun a' U hW => word_at hW (Or.inl (by first | rfl | simp [Cond.onTables, Cond.keeps, Cond.steady])) hini)
  obtain ⟨hx, hb, hml, ho, -⟩ := S
  obtain ⟨-, ⟨cellB, hcB, hoB, hclB⟩, hPc⟩ := hp
  intro T hT X
  obtain ⟨v, vm₁, ⟨U', l2, c2, s2⟩, hW₁, X', ⟨g', mk, t, L, e1, e2, hq, h1, hL, h2, h3⟩, st⟩ := vx_callVW X hx (C := C) (hh := hh) (bytes := bytes) (maxL := maxL) (ret := ret) ho hl hin hse hcode hy hK (by rw [hT]; exact hcB) hoB hclB hg (hsize.trans hml.symm) (argsL := As) (rest := rest) (fun sig h => hn.trans (hlen sig h)) hstack hW (by rw [hb]; exact hdg)
    (fun vm₁ hW₁ => ⟨hf.1, hf.2, hPc (T.setVm vm₁) hT hW₁⟩)
  dsimp only [Pt.U, Pt.locs, Pt.cells, Pt.slots] at X' e1 e2 h1 h2 h3 st
  subst h1; subst h2; subst h3
  exact ⟨v, (T.setVm vm₁).calling g' mk (Value.ref b :: As).toArray, t, U', L, hT, X', hL, e1, e2, hq, st⟩
section
variable {y : MethodName} {bytes cc : ByteArray} {maxL nL mc ms n index : Nat} {ret : Option FieldType} {ws : List Cond} {rm : Room} {Pc : Array Value → State → Prop} {Qc : Array Value → State → Outcome → State → Prop} {XC : String → State → State → Prop} {free : Addr → Prop} {Ts : List Cond} {own C : String} {b : Addr} {As rest : List Value} {g : JFrame}
theorem vx_runVX {hh : List (Nat × Nat × Nat × Nat)} (S : CallFix p m c cc nL s args Ts own) (hM : vx_Met l y ws rm Pc Qc XC mc ms free) (cw : vx_CVW R s args own C index y bytes maxL ret hh ws rm mc ms n) (hp : PreV s H C b Pc As)
    (hg : g.method = m) (hn : As.length = n) (hsize : g.locals.size = nL) (hstack : g.stack = As.reverse ++ .ref b :: rest) (hW : 2 * g.monitorRoom + (rest.map fun v => v.category).sum ≤ 8) (hdg : decode cc g.pc = .ok (.invokevirtual index, 3)) (hf : cells + mc ≤ R.cells ∧ slots + ms ≤ R.slots) :
    vx_Run p l e R s m args below meth c H locs cells slots mc ms g rest (Qc (Value.ref b :: As).toArray) XC free := by
  obtain ⟨⟨hrc, hrs, hfr, hlo, hws, hcw⟩, hcode, hini, hy, hlen, hl, hin, hse⟩ := cw
  have hK : vx_Back l R p e below s args y 3 8 (PreOf R mc ms Pc) (PostOf Qc mc ms free) (vx_Post XC mc ms free) := vx_backW (hh := hh) (bytes := bytes) (maxL := maxL) (ret := ret) hM hp.1 hrc hrs hfr hlo hws hcw (fun a' U hW => word_at hW (Or.inl (by first | rfl | simp [Cond.onTables, Cond.keeps, Cond.steady])) hini)
  obtain ⟨hx, hb, hml, ho, -⟩ := S
  obtain ⟨-, ⟨cellB, hcB, hoB, hclB⟩, hPc⟩ := hp
  intro T hT X
  rcases vx_callVX X hx (C := C) (hh := hh) (bytes := bytes) (maxL := maxL) (ret := ret) ho hl hin hse hcode hy hK (by rw [hT]; exact hcB) hoB hclB hg (hsize.trans hml.symm) (argsL := As) (rest := rest) (fun sig h => hn.trans (hlen sig h)) hstack hW (by rw [hb]; exact hdg)
    (fun vm₁ hW₁ => ⟨hf.1, hf.2, hPc (T.setVm vm₁) hT hW₁⟩) with ⟨v, vm₁, ⟨U', l2, c2, s2⟩, hW₁, X', ⟨g', mk, t, L, e1, e2, hq, h1, hL, h2, h3⟩, st⟩ | ⟨q, vm₁, ⟨U', l2, c2, s2⟩, hW₁, X', ⟨g', mk, t, L, E, ce, e1, e2, hq, hce, hcv, hcl, h1, hL, h2, h3⟩, st⟩
  · dsimp only [Pt.U, Pt.locs, Pt.cells, Pt.slots] at X' e1 e2 h1 h2 h3 st
    subst h1; subst h2; subst h3
    exact Or.inl ⟨v, (T.setVm vm₁).calling g' mk (Value.ref b :: As).toArray, t, U', L, hT, X', hL, e1, e2, hq, st⟩
  · dsimp only [Pt.U, Pt.locs, Pt.cells, Pt.slots] at X' e1 e2 h1 h2 h3 st hcl
    subst h1; subst h2; subst h3
    exact Or.inr ⟨q, (T.setVm vm₁).calling g' mk (Value.ref b :: As).toArray, t, U', L, E, ce, hT, X', hL, e1, e2, hq, hce, hcv, vx_cls hW₁ hcl, st⟩
theorem vx_runSX {hh : List (Nat × Nat × Nat × Nat)} (S : CallFix p m c cc nL s args Ts own) (hM : vx_Met l y ws rm Pc Qc XC mc ms free) (cw : vx_CSW R s args own index y bytes maxL ret hh ws rm mc ms n) (hp : PreS s H Pc As)
    (hg : g.method = m) (hn : As.length = n) (hsize : g.locals.size = nL) (hstack : g.stack = As.reverse ++ rest) (hW : 2 * g.monitorRoom + (rest.map fun v => v.category).sum ≤ 8) (hdg : decode cc g.pc = .ok (.invokestatic index, 3)) (hf : cells + mc ≤ R.cells ∧ slots + ms ≤ R.slots) :
    vx_Run p l e R s m args below meth c H locs cells slots mc ms g rest (Qc As.toArray) XC free := by
  obtain ⟨⟨hrc, hrs, hfr, hlo, hws, hcw⟩, hcode, hini, hy, hlen, hl, hstt⟩ := cw
  have hK : vx_Back l R p e below s args y 3 8 (PreOf R mc ms Pc) (PostOf Qc mc ms free) (vx_Post XC mc ms free) := vx_backW (hh := hh) (bytes := bytes) (maxL := maxL) (ret := ret) hM hp.1 hrc hrs hfr hlo hws hcw (fun a' U hW => word_at hW (Or.inl (by first | rfl | simp [Cond.onTables, Cond.keeps, Cond.steady])) hini)
  obtain ⟨hx, hb, hml, ho, -⟩ := S
  intro T hT X
  rcases vx_callSX X hx (hh := hh) (bytes := bytes) (maxL := maxL) (ret := ret) ho hl hstt hini hcode hy hK hg (hsize.trans hml.symm) (argsL := As) (rest := rest) (fun sig h => hn.trans (hlen sig h)) hstack hW (by rw [hb]; exact hdg)
    (fun vm₁ hW₁ => ⟨hf.1, hf.2, hp.2 (T.setVm vm₁) hT hW₁⟩) with ⟨v, vm₁, ⟨U', l2, c2, s2⟩, hW₁, X', ⟨g', mk, t, L, e1, e2, hq, h1, hL, h2, h3⟩, st⟩ | ⟨q, vm₁, ⟨U', l2, c2, s2⟩, hW₁, X', ⟨g', mk, t, L, E, ce, e1, e2, hq, hce, hcv, hcl, h1, hL, h2, h3⟩, st⟩
  · dsimp only [Pt.U, Pt.locs, Pt.cells, Pt.slots] at X' e1 e2 h1 h2 h3 st
    subst h1; subst h2; subst h3
    exact Or.inl ⟨v, (T.setVm vm₁).calling g' mk As.toArray, t, U', L, hT, X', hL, e1, e2, hq, st⟩
  · dsimp only [Pt.U, Pt.locs, Pt.cells, Pt.slots] at X' e1 e2 h1 h2 h3 st hcl
    subst h1; subst h2; subst h3
    exact Or.inr ⟨q, (T.setVm vm₁).calling g' mk As.toArray, t, U', L, E, ce, hT, X', hL, e1, e2, hq, hce, hcv, vx_cls hW₁ hcl, st⟩
end
end VXH
theorem vx_ofWH {l : Launch} {y : MethodName} {ws ws' : List Cond} {rm : Room} {Pc : Array Value → State → Prop} {Qc : Array Value → State → Outcome → State → Prop} {XC : String → State → State → Prop} {mc ms : Nat} {free : Addr → Prop} {cc : ByteArray} {maxL : Nat} {ret : Option FieldType} {hh : List (Nat × Nat × Nat × Nat)}
    (hy : plainName y.cls = true) (hw : ws = Cond.codeWith y cc maxL ret hh :: ws')
    (body : ∀ p e s m args below meth c s₁, BodyLoose p l y (headSpec ws rm) cc maxL ret e s m args below meth c s₁ → c.maxLocals = maxL → Pc args s →
      W p l e (headSpec ws rm).room s m args below meth c s.heap [] 0 0 (vx_MQ below Qc XC args s mc ms free) (entryFrame m args maxL)) : vx_Met l y ws rm Pc Qc XC mc ms free := by
  refine MetFree.of_bodyS (code := cc) (maxLocals := maxL) (ret := ret) hy ?_ ?_
  · intro args s m h hn
    obtain ⟨m9, meth, c, hn9, h1, h2, h3, h4, -, h5, h6, -⟩ := Cond.codeWith_spec (atoms_spec (ws := ws) h _ (by rw [hw]; exact List.mem_cons_self))
    cases hn.symm.trans hn9
    exact ⟨meth, c, h1, h2, h3, h4, h5, h6⟩
  · intro p e s m args below meth c s₁ B hml hP _
    have hh0 : s₁.heap = s.heap := by rw [B.state]; rfl
    obtain ⟨t, a1, o, b1, b2, b3⟩ := body p e s m args below meth c s₁ B hml hP s₁ hh0 (Stand.of_body B)
    exact ⟨t, o, a1, b1, b2, b3⟩
/-! ===== END ===== -/
end
section
/-! ===== BEGIN printed: names, fields, word lists, decode rows ===== -/
def RX0 : String := "LatticePaths$Board"
def TX0 : u_T := fun k => match k with
  | 0 => ("LatticePaths$Board", "trails", "[LLatticePaths$Trail;", true)
  | 1 => ("LatticePaths$Board", "pathCount", "I", false)
  | 2 => ("LatticePaths$Board", "stepsMade", "I", false)
  | 3 => ("LatticePaths$Board", "refusals", "I", false)
  | 4 => ("LatticePaths$Board", "turnsMade", "I", false)
  | 5 => ("LatticePaths$Board", "pathAt", "[I", true)
  | 6 => ("LatticePaths$Board", "placeAt", "[I", true)
  | _ => ("LatticePaths$Board", "takenSites", "I", false)
def tyX0 : Nat → FieldType := fun k => match k with
  | 0 => .array (.object "LatticePaths$Trail")
  | 1 => .int
  | 2 => .int
  | 3 => .int
  | 4 => .int
  | 5 => .array .int
  | 6 => .array .int
  | _ => .int
abbrev wsX00 : List Cond := u_ws RX0 TX0 8
theorem nmX0 : ∀ a, a < 8 → ∀ b, b < 8 → a ≠ b → (TX0 a).2.1 ≠ (TX0 b).2.1 := by decide +kernel
theorem tyX0_ok : ∀ k, k < 8 → parseFieldDescriptor (TX0 k).2.2.1 = some (tyX0 k) := by decide +kernel
abbrev cX0_init : ByteArray := prog_2_method_1_code
def yX0_init : MethodName := ⟨RX0, "<init>", "()V"⟩
abbrev cX0_markSites : ByteArray := prog_2_method_2_code
def yX0_markSites : MethodName := ⟨RX0, "markSites", "()V"⟩
abbrev cX0_mark : ByteArray := prog_2_method_3_code
def yX0_mark : MethodName := ⟨RX0, "mark", "(III)V"⟩
abbrev cX0_pathCount : ByteArray := prog_2_method_4_code
def yX0_pathCount : MethodName := ⟨RX0, "pathCount", "()I"⟩
abbrev cX0_isFull : ByteArray := prog_2_method_5_code
def yX0_isFull : MethodName := ⟨RX0, "isFull", "()Z"⟩
abbrev cX0_trail : ByteArray := prog_2_method_6_code
def yX0_trail : MethodName := ⟨RX0, "trail", "(I)LLatticePaths$Trail;"⟩
abbrev cX0_pathAt : ByteArray := prog_2_method_7_code
def yX0_pathAt : MethodName := ⟨RX0, "pathAt", "(I)I"⟩
abbrev cX0_placeAt : ByteArray := prog_2_method_8_code
def yX0_placeAt : MethodName := ⟨RX0, "placeAt", "(I)I"⟩
abbrev cX0_isFree : ByteArray := prog_2_method_9_code
def yX0_isFree : MethodName := ⟨RX0, "isFree", "(I)Z"⟩
abbrev cX0_takenSites : ByteArray := prog_2_method_10_code
def yX0_takenSites : MethodName := ⟨RX0, "takenSites", "()I"⟩
abbrev cX0_stepsMade : ByteArray := prog_2_method_11_code
def yX0_stepsMade : MethodName := ⟨RX0, "stepsMade", "()I"⟩
abbrev cX0_refusals : ByteArray := prog_2_method_12_code
def yX0_refusals : MethodName := ⟨RX0, "refusals", "()I"⟩
abbrev cX0_turnsMade : ByteArray := prog_2_method_13_code
def yX0_turnsMade : MethodName := ⟨RX0, "turnsMade", "()I"⟩
abbrev cX0_add : ByteArray := prog_2_method_14_code
def yX0_add : MethodName := ⟨RX0, "add", "(LLatticePaths$Trail;)I"⟩
abbrev cX0_lengthen : ByteArray := prog_2_method_15_code
def yX0_lengthen : MethodName := ⟨RX0, "lengthen", "(II)I"⟩
abbrev cX0_creep : ByteArray := prog_2_method_16_code
def yX0_creep : MethodName := ⟨RX0, "creep", "(II)I"⟩
abbrev cX0_refusalAt : ByteArray := prog_2_method_17_code
def yX0_refusalAt : MethodName := ⟨RX0, "refusalAt", "(II)I"⟩
abbrev cX0_noteStep : ByteArray := prog_2_method_18_code
def yX0_noteStep : MethodName := ⟨RX0, "noteStep", "(I)V"⟩
abbrev cX0_noteTurn : ByteArray := prog_2_method_19_code
def yX0_noteTurn : MethodName := ⟨RX0, "noteTurn", "(I)V"⟩
abbrev cX0_shorten : ByteArray := prog_2_method_20_code
def yX0_shorten : MethodName := ⟨RX0, "shorten", "(I)I"⟩
abbrev cX0_flip : ByteArray := prog_2_method_21_code
def yX0_flip : MethodName := ⟨RX0, "flip", "(I)I"⟩
abbrev cX0_weld : ByteArray := prog_2_method_22_code
def yX0_weld : MethodName := ⟨RX0, "weld", "(II)I"⟩
abbrev cX0_cut : ByteArray := prog_2_method_23_code
def yX0_cut : MethodName := ⟨RX0, "cut", "(II)I"⟩
abbrev cX0_drop : ByteArray := prog_2_method_24_code
def yX0_drop : MethodName := ⟨RX0, "drop", "(I)V"⟩
abbrev cX0_freeDirections : ByteArray := prog_2_method_25_code
def yX0_freeDirections : MethodName := ⟨RX0, "freeDirections", "(I)I"⟩
abbrev cX0_contacts : ByteArray := prog_2_method_26_code
def yX0_contacts : MethodName := ⟨RX0, "contacts", "(I)I"⟩
abbrev cX0_touchingPairs : ByteArray := prog_2_method_27_code
def yX0_touchingPairs : MethodName := ⟨RX0, "touchingPairs", "(II)I"⟩
abbrev cX0_freeBorder : ByteArray := prog_2_method_28_code
def yX0_freeBorder : MethodName := ⟨RX0, "freeBorder", "(I)I"⟩
abbrev cX0_neighboursIn : ByteArray := prog_2_method_29_code
def yX0_neighboursIn : MethodName := ⟨RX0, "neighboursIn", "(II)I"⟩
def RX1 : String := "LatticePaths$History"
def TX1 : u_T := fun k => match k with
  | 0 => ("LatticePaths$History", "ring", "[LLatticePaths$SavedState;", true)
  | 1 => ("LatticePaths$History", "oldest", "I", false)
  | _ => ("LatticePaths$History", "size", "I", false)
def tyX1 : Nat → FieldType := fun k => match k with
  | 0 => .array (.object "LatticePaths$SavedState")
  | 1 => .int
  | _ => .int
abbrev wsX10 : List Cond := u_ws RX1 TX1 3
theorem nmX1 : ∀ a, a < 3 → ∀ b, b < 3 → a ≠ b → (TX1 a).2.1 ≠ (TX1 b).2.1 := by decide +kernel
theorem tyX1_ok : ∀ k, k < 3 → parseFieldDescriptor (TX1 k).2.2.1 = some (tyX1 k) := by decide +kernel
abbrev cX1_init : ByteArray := prog_3_method_1_code
def yX1_init : MethodName := ⟨RX1, "<init>", "()V"⟩
abbrev cX1_size : ByteArray := prog_3_method_2_code
def yX1_size : MethodName := ⟨RX1, "size", "()I"⟩
abbrev cX1_save : ByteArray := prog_3_method_3_code
def yX1_save : MethodName := ⟨RX1, "save", "(LLatticePaths$Board;)V"⟩
abbrev cX1_restoreLast : ByteArray := prog_3_method_4_code
def yX1_restoreLast : MethodName := ⟨RX1, "restoreLast", "(LLatticePaths$Board;)V"⟩
def RX2 : String := "LatticePaths$Lattice"
def TX2 : u_T := fun k => match k with
  | _ => ("", "", "", false)
def tyX2 : Nat → FieldType := fun k => match k with
  | _ => .int
abbrev wsX20 : List Cond := u_ws RX2 TX2 0
theorem nmX2 : ∀ a, a < 0 → ∀ b, b < 0 → a ≠ b → (TX2 a).2.1 ≠ (TX2 b).2.1 := by decide +kernel
theorem tyX2_ok : ∀ k, k < 0 → parseFieldDescriptor (TX2 k).2.2.1 = some (tyX2 k) := by decide +kernel
abbrev cX2_number : ByteArray := prog_4_method_2_code
def yX2_number : MethodName := ⟨RX2, "number", "(II)I"⟩
abbrev cX2_isSite : ByteArray := prog_4_method_3_code
def yX2_isSite : MethodName := ⟨RX2, "isSite", "(I)Z"⟩
abbrev cX2_column : ByteArray := prog_4_method_4_code
def yX2_column : MethodName := ⟨RX2, "column", "(I)I"⟩
abbrev cX2_row : ByteArray := prog_4_method_5_code
def yX2_row : MethodName := ⟨RX2, "row", "(I)I"⟩
abbrev cX2_neighbour : ByteArray := prog_4_method_6_code
def yX2_neighbour : MethodName := ⟨RX2, "neighbour", "(II)I"⟩
abbrev cX2_direction : ByteArray := prog_4_method_7_code
def yX2_direction : MethodName := ⟨RX2, "direction", "(II)I"⟩
abbrev cX2_squaredDistance : ByteArray := prog_4_method_8_code
def yX2_squaredDistance : MethodName := ⟨RX2, "squaredDistance", "(II)I"⟩
abbrev cX2_areNeighbours : ByteArray := prog_4_method_9_code
def yX2_areNeighbours : MethodName := ⟨RX2, "areNeighbours", "(II)Z"⟩
def RX3 : String := "LatticePaths$PathText"
def TX3 : u_T := fun k => match k with
  | 0 => ("LatticePaths$PathText", "characters", "[C", true)
  | _ => ("LatticePaths$PathText", "length", "I", false)
def tyX3 : Nat → FieldType := fun k => match k with
  | 0 => .array .char
  | _ => .int
abbrev wsX30 : List Cond := u_ws RX3 TX3 2
theorem nmX3 : ∀ a, a < 2 → ∀ b, b < 2 → a ≠ b → (TX3 a).2.1 ≠ (TX3 b).2.1 := by decide +kernel
theorem tyX3_ok : ∀ k, k < 2 → parseFieldDescriptor (TX3 k).2.2.1 = some (tyX3 k) := by decide +kernel
abbrev cX3_init : ByteArray := prog_5_method_1_code
def yX3_init : MethodName := ⟨RX3, "<init>", "()V"⟩
abbrev cX3_length : ByteArray := prog_5_method_2_code
def yX3_length : MethodName := ⟨RX3, "length", "()I"⟩
def RX4 : String := "LatticePaths$Regions"
def TX4 : u_T := fun k => match k with
  | 0 => ("LatticePaths$Regions", "regionAt", "[I", true)
  | 1 => ("LatticePaths$Regions", "siteCounts", "[I", true)
  | 2 => ("LatticePaths$Regions", "chosen", "[Z", true)
  | 3 => ("LatticePaths$Regions", "found", "[I", true)
  | _ => ("LatticePaths$Regions", "size", "I", false)
def tyX4 : Nat → FieldType := fun k => match k with
  | 0 => .array .int
  | 1 => .array .int
  | 2 => .array .boolean
  | 3 => .array .int
  | _ => .int
abbrev wsX40 : List Cond := u_ws RX4 TX4 5
theorem nmX4 : ∀ a, a < 5 → ∀ b, b < 5 → a ≠ b → (TX4 a).2.1 ≠ (TX4 b).2.1 := by decide +kernel
theorem tyX4_ok : ∀ k, k < 5 → parseFieldDescriptor (TX4 k).2.2.1 = some (tyX4 k) := by decide +kernel
abbrev cX4_init : ByteArray := prog_6_method_1_code
def yX4_init : MethodName := ⟨RX4, "<init>", "()V"⟩
def RX5 : String := "LatticePaths$SavedState"
def TX5 : u_T := fun k => match k with
  | 0 => ("LatticePaths$SavedState", "sites", "[I", true)
  | 1 => ("LatticePaths$SavedState", "lengths", "[I", true)
  | 2 => ("LatticePaths$SavedState", "pathCount", "I", false)
  | 3 => ("LatticePaths$SavedState", "stepsMade", "I", false)
  | 4 => ("LatticePaths$SavedState", "refusals", "I", false)
  | _ => ("LatticePaths$SavedState", "turnsMade", "I", false)
def tyX5 : Nat → FieldType := fun k => match k with
  | 0 => .array .int
  | 1 => .array .int
  | 2 => .int
  | 3 => .int
  | 4 => .int
  | _ => .int
abbrev wsX50 : List Cond := u_ws RX5 TX5 6
theorem nmX5 : ∀ a, a < 6 → ∀ b, b < 6 → a ≠ b → (TX5 a).2.1 ≠ (TX5 b).2.1 := by decide +kernel
theorem tyX5_ok : ∀ k, k < 6 → parseFieldDescriptor (TX5 k).2.2.1 = some (tyX5 k) := by decide +kernel
abbrev cX5_init : ByteArray := prog_7_method_1_code
def yX5_init : MethodName := ⟨RX5, "<init>", "()V"⟩
abbrev cX5_take : ByteArray := prog_7_method_2_code
def yX5_take : MethodName := ⟨RX5, "take", "(LLatticePaths$Board;)V"⟩
abbrev cX5_putInto : ByteArray := prog_7_method_3_code
def yX5_putInto : MethodName := ⟨RX5, "putInto", "(LLatticePaths$Board;)V"⟩
def RX6 : String := "LatticePaths$Scout"
def TX6 : u_T := fun k => match k with
  | _ => ("LatticePaths$Scout", "taken", "[Z", true)
def tyX6 : Nat → FieldType := fun k => match k with
  | _ => .array .boolean
abbrev wsX60 : List Cond := u_ws RX6 TX6 1
theorem nmX6 : ∀ a, a < 1 → ∀ b, b < 1 → a ≠ b → (TX6 a).2.1 ≠ (TX6 b).2.1 := by decide +kernel
theorem tyX6_ok : ∀ k, k < 1 → parseFieldDescriptor (TX6 k).2.2.1 = some (tyX6 k) := by decide +kernel
abbrev cX6_init : ByteArray := prog_8_method_1_code
def yX6_init : MethodName := ⟨RX6, "<init>", "()V"⟩
def RX7 : String := "LatticePaths$Shape"
def TX7 : u_T := fun k => match k with
  | 0 => ("LatticePaths$Shape", "fromTail", "[I", true)
  | 1 => ("LatticePaths$Shape", "fromHead", "[I", true)
  | 2 => ("LatticePaths$Shape", "view", "[I", true)
  | 3 => ("LatticePaths$Shape", "least", "[I", true)
  | _ => ("LatticePaths$Shape", "steps", "I", false)
def tyX7 : Nat → FieldType := fun k => match k with
  | 0 => .array .int
  | 1 => .array .int
  | 2 => .array .int
  | 3 => .array .int
  | _ => .int
abbrev wsX70 : List Cond := u_ws RX7 TX7 5
theorem nmX7 : ∀ a, a < 5 → ∀ b, b < 5 → a ≠ b → (TX7 a).2.1 ≠ (TX7 b).2.1 := by decide +kernel
theorem tyX7_ok : ∀ k, k < 5 → parseFieldDescriptor (TX7 k).2.2.1 = some (tyX7 k) := by decide +kernel
abbrev cX7_init : ByteArray := prog_9_method_1_code
def yX7_init : MethodName := ⟨RX7, "<init>", "()V"⟩
def RX8 : String := "LatticePaths$Snapshots"
def TX8 : u_T := fun k => match k with
  | 0 => ("LatticePaths$Snapshots", "slots", "[LLatticePaths$SavedState;", true)
  | _ => ("LatticePaths$Snapshots", "taken", "[Z", true)
def tyX8 : Nat → FieldType := fun k => match k with
  | 0 => .array (.object "LatticePaths$SavedState")
  | _ => .array .boolean
abbrev wsX80 : List Cond := u_ws RX8 TX8 2
theorem nmX8 : ∀ a, a < 2 → ∀ b, b < 2 → a ≠ b → (TX8 a).2.1 ≠ (TX8 b).2.1 := by decide +kernel
theorem tyX8_ok : ∀ k, k < 2 → parseFieldDescriptor (TX8 k).2.2.1 = some (tyX8 k) := by decide +kernel
abbrev cX8_init : ByteArray := prog_10_method_1_code
def yX8_init : MethodName := ⟨RX8, "<init>", "()V"⟩
def RX9 : String := "LatticePaths$Trail"
def TX9 : u_T := fun k => match k with
  | 0 => ("LatticePaths$Trail", "sites", "[I", true)
  | _ => ("LatticePaths$Trail", "length", "I", false)
def tyX9 : Nat → FieldType := fun k => match k with
  | 0 => .array .int
  | _ => .int
abbrev wsX90 : List Cond := u_ws RX9 TX9 2
theorem nmX9 : ∀ a, a < 2 → ∀ b, b < 2 → a ≠ b → (TX9 a).2.1 ≠ (TX9 b).2.1 := by decide +kernel
theorem tyX9_ok : ∀ k, k < 2 → parseFieldDescriptor (TX9 k).2.2.1 = some (tyX9 k) := by decide +kernel
abbrev cX9_init : ByteArray := prog_11_method_1_code
def yX9_init : MethodName := ⟨RX9, "<init>", "()V"⟩
abbrev cX9_length : ByteArray := prog_11_method_2_code
def yX9_length : MethodName := ⟨RX9, "length", "()I"⟩
abbrev cX9_isFull : ByteArray := prog_11_method_3_code
def yX9_isFull : MethodName := ⟨RX9, "isFull", "()Z"⟩
abbrev cX9_has : ByteArray := prog_11_method_4_code
def yX9_has : MethodName := ⟨RX9, "has", "(I)Z"⟩
abbrev cX9_at : ByteArray := prog_11_method_5_code
def yX9_at : MethodName := ⟨RX9, "at", "(I)I"⟩
abbrev cX9_tail : ByteArray := prog_11_method_6_code
def yX9_tail : MethodName := ⟨RX9, "tail", "()I"⟩
abbrev cX9_head : ByteArray := prog_11_method_7_code
def yX9_head : MethodName := ⟨RX9, "head", "()I"⟩
abbrev cX9_clear : ByteArray := prog_11_method_9_code
def yX9_clear : MethodName := ⟨RX9, "clear", "()V"⟩
abbrev cX9_begin : ByteArray := prog_11_method_10_code
def yX9_begin : MethodName := ⟨RX9, "begin", "(I)V"⟩
abbrev cX9_push : ByteArray := prog_11_method_11_code
def yX9_push : MethodName := ⟨RX9, "push", "(I)V"⟩
abbrev cX9_put : ByteArray := prog_11_method_12_code
def yX9_put : MethodName := ⟨RX9, "put", "(II)V"⟩
abbrev cX9_endAt : ByteArray := prog_11_method_13_code
def yX9_endAt : MethodName := ⟨RX9, "endAt", "(I)V"⟩
abbrev cX9_advanceTo : ByteArray := prog_11_method_14_code
def yX9_advanceTo : MethodName := ⟨RX9, "advanceTo", "(I)V"⟩
abbrev cX9_copyFrom : ByteArray := prog_11_method_15_code
def yX9_copyFrom : MethodName := ⟨RX9, "copyFrom", "(LLatticePaths$Trail;I)V"⟩
abbrev cX9_flip : ByteArray := prog_11_method_16_code
def yX9_flip : MethodName := ⟨RX9, "flip", "()V"⟩
abbrev cX9_steps : ByteArray := prog_11_method_17_code
def yX9_steps : MethodName := ⟨RX9, "steps", "()I"⟩
abbrev cX9_stepAt : ByteArray := prog_11_method_18_code
def yX9_stepAt : MethodName := ⟨RX9, "stepAt", "(I)I"⟩
abbrev cX9_corners : ByteArray := prog_11_method_19_code
def yX9_corners : MethodName := ⟨RX9, "corners", "()I"⟩
abbrev cX9_width : ByteArray := prog_11_method_20_code
def yX9_width : MethodName := ⟨RX9, "width", "()I"⟩
abbrev cX9_height : ByteArray := prog_11_method_21_code
def yX9_height : MethodName := ⟨RX9, "height", "()I"⟩
abbrev cX9_moment : ByteArray := prog_11_method_22_code
def yX9_moment : MethodName := ⟨RX9, "moment", "()I"⟩
def RX10 : String := "LatticePaths$Turning"
def TX10 : u_T := fun k => match k with
  | _ => ("LatticePaths$Turning", "landings", "[I", true)
def tyX10 : Nat → FieldType := fun k => match k with
  | _ => .array .int
abbrev wsX100 : List Cond := u_ws RX10 TX10 1
theorem nmX10 : ∀ a, a < 1 → ∀ b, b < 1 → a ≠ b → (TX10 a).2.1 ≠ (TX10 b).2.1 := by decide +kernel
theorem tyX10_ok : ∀ k, k < 1 → parseFieldDescriptor (TX10 k).2.2.1 = some (tyX10 k) := by decide +kernel
abbrev cX10_init : ByteArray := prog_12_method_1_code
def yX10_init : MethodName := ⟨RX10, "<init>", "()V"⟩
abbrev cX10_refusal : ByteArray := prog_12_method_2_code
def yX10_refusal : MethodName := ⟨RX10, "refusal", "(LLatticePaths$Board;III)I"⟩
abbrev cX10_land : ByteArray := prog_12_method_3_code
def yX10_land : MethodName := ⟨RX10, "land", "(LLatticePaths$Trail;II)Z"⟩
abbrev cX10_swung : ByteArray := prog_12_method_4_code
def yX10_swung : MethodName := ⟨RX10, "swung", "(III)I"⟩
abbrev cX10_moveSites : ByteArray := prog_12_method_5_code
def yX10_moveSites : MethodName := ⟨RX10, "moveSites", "(LLatticePaths$Board;II)V"⟩
def RX11 : String := "LatticePaths"
def TX11 : u_T := fun k => match k with
  | 0 => ("LatticePaths", "board", "LLatticePaths$Board;", true)
  | 1 => ("LatticePaths", "history", "LLatticePaths$History;", true)
  | 2 => ("LatticePaths", "snapshots", "LLatticePaths$Snapshots;", true)
  | 3 => ("LatticePaths", "text", "LLatticePaths$PathText;", true)
  | 4 => ("LatticePaths", "sketch", "LLatticePaths$Trail;", true)
  | 5 => ("LatticePaths", "turning", "LLatticePaths$Turning;", true)
  | 6 => ("LatticePaths", "scout", "LLatticePaths$Scout;", true)
  | 7 => ("LatticePaths", "regions", "LLatticePaths$Regions;", true)
  | 8 => ("LatticePaths", "foundShape", "LLatticePaths$Shape;", true)
  | _ => ("LatticePaths", "otherShape", "LLatticePaths$Shape;", true)
def tyX11 : Nat → FieldType := fun k => match k with
  | 0 => .object "LatticePaths$Board"
  | 1 => .object "LatticePaths$History"
  | 2 => .object "LatticePaths$Snapshots"
  | 3 => .object "LatticePaths$PathText"
  | 4 => .object "LatticePaths$Trail"
  | 5 => .object "LatticePaths$Turning"
  | 6 => .object "LatticePaths$Scout"
  | 7 => .object "LatticePaths$Regions"
  | 8 => .object "LatticePaths$Shape"
  | _ => .object "LatticePaths$Shape"
abbrev wsX110 : List Cond := u_ws RX11 TX11 10
theorem nmX11 : ∀ a, a < 10 → ∀ b, b < 10 → a ≠ b → (TX11 a).2.1 ≠ (TX11 b).2.1 := by decide +kernel
theorem tyX11_ok : ∀ k, k < 10 → parseFieldDescriptor (TX11 k).2.2.1 = some (tyX11 k) := by decide +kernel
abbrev cX11_init : ByteArray := prog_1_method_1_code
def yX11_init : MethodName := ⟨RX11, "<init>", "()V"⟩
abbrev cX11_start : ByteArray := prog_1_method_2_code
def yX11_start : MethodName := ⟨RX11, "start", "(II)I"⟩
abbrev cX11_step : ByteArray := prog_1_method_3_code
def yX11_step : MethodName := ⟨RX11, "step", "(II)I"⟩
abbrev cX11_back : ByteArray := prog_1_method_4_code
def yX11_back : MethodName := ⟨RX11, "back", "(I)I"⟩
abbrev cX11_slither : ByteArray := prog_1_method_5_code
def yX11_slither : MethodName := ⟨RX11, "slither", "(II)I"⟩
abbrev cX11_turn : ByteArray := prog_1_method_6_code
def yX11_turn : MethodName := ⟨RX11, "turn", "(III)I"⟩
abbrev cX11_reverse : ByteArray := prog_1_method_7_code
def yX11_reverse : MethodName := ⟨RX11, "reverse", "(I)I"⟩
abbrev cX11_join : ByteArray := prog_1_method_8_code
def yX11_join : MethodName := ⟨RX11, "join", "(II)I"⟩
abbrev cX11_split : ByteArray := prog_1_method_9_code
def yX11_split : MethodName := ⟨RX11, "split", "(II)I"⟩
abbrev cX11_remove : ByteArray := prog_1_method_10_code
def yX11_remove : MethodName := ⟨RX11, "remove", "(I)I"⟩
abbrev cX11_undo : ByteArray := prog_1_method_16_code
def yX11_undo : MethodName := ⟨RX11, "undo", "()I"⟩
abbrev cX11_site : ByteArray := prog_1_method_19_code
def yX11_site : MethodName := ⟨RX11, "site", "(III)I"⟩
abbrev cX11_place : ByteArray := prog_1_method_20_code
def yX11_place : MethodName := ⟨RX11, "place", "(II)I"⟩
abbrev cX11_path : ByteArray := prog_1_method_21_code
def yX11_path : MethodName := ⟨RX11, "path", "(II)I"⟩
abbrev cX11_trapped : ByteArray := prog_1_method_22_code
def yX11_trapped : MethodName := ⟨RX11, "trapped", "()I"⟩
abbrev cX11_touching : ByteArray := prog_1_method_23_code
def yX11_touching : MethodName := ⟨RX11, "touching", "(II)I"⟩
abbrev cX11_ifTurned : ByteArray := prog_1_method_30_code
def yX11_ifTurned : MethodName := ⟨RX11, "ifTurned", "(III)I"⟩
abbrev cX11_count : ByteArray := prog_1_method_32_code
def yX11_count : MethodName := ⟨RX11, "count", "(I)I"⟩
abbrev cX11_spread : ByteArray := prog_1_method_33_code
def yX11_spread : MethodName := ⟨RX11, "spread", "(I)D"⟩
abbrev cX11_share : ByteArray := prog_1_method_34_code
def yX11_share : MethodName := ⟨RX11, "share", "()F"⟩
abbrev cX11_checkedSite : ByteArray := prog_1_method_36_code
def yX11_checkedSite : MethodName := ⟨RX11, "checkedSite", "(II)I"⟩
abbrev cX11_checkPath : ByteArray := prog_1_method_37_code
def yX11_checkPath : MethodName := ⟨RX11, "checkPath", "(I)V"⟩
abbrev cX11_checkPlace : ByteArray := prog_1_method_38_code
def yX11_checkPlace : MethodName := ⟨RX11, "checkPlace", "(II)V"⟩
abbrev cX11_checkTwoPaths : ByteArray := prog_1_method_39_code
def yX11_checkTwoPaths : MethodName := ⟨RX11, "checkTwoPaths", "(II)V"⟩
abbrev cX11_checkDirection : ByteArray := prog_1_method_40_code
def yX11_checkDirection : MethodName := ⟨RX11, "checkDirection", "(I)V"⟩
abbrev cX11_checkQuarters : ByteArray := prog_1_method_41_code
def yX11_checkQuarters : MethodName := ⟨RX11, "checkQuarters", "(I)V"⟩
abbrev cX11_checkRange : ByteArray := prog_1_method_42_code
def yX11_checkRange : MethodName := ⟨RX11, "checkRange", "(III)V"⟩
def RX12 : String := "LatticePathsModel"
def TX12 : u_T := fun k => match k with
  | _ => ("", "", "", false)
def tyX12 : Nat → FieldType := fun k => match k with
  | _ => .int
abbrev wsX120 : List Cond := u_ws RX12 TX12 0
theorem nmX12 : ∀ a, a < 0 → ∀ b, b < 0 → a ≠ b → (TX12 a).2.1 ≠ (TX12 b).2.1 := by decide +kernel
theorem tyX12_ok : ∀ k, k < 0 → parseFieldDescriptor (TX12 k).2.2.1 = some (tyX12 k) := by decide +kernel
def RJx145de : String := "java/io/Serializable"
def TJx145de : u_T := fun k => match k with
  | _ => ("", "", "", false)
def tyJx145de : Nat → FieldType := fun k => match k with
  | _ => .int
abbrev wsJx145de0 : List Cond := u_ws RJx145de TJx145de 0
theorem nmJx145de : ∀ a, a < 0 → ∀ b, b < 0 → a ≠ b → (TJx145de a).2.1 ≠ (TJx145de b).2.1 := by decide +kernel
theorem tyJx145de_ok : ∀ k, k < 0 → parseFieldDescriptor (TJx145de k).2.2.1 = some (tyJx145de k) := by decide +kernel
def RJ9 : String := "java/lang/Math"
def TJ9 : u_T := fun k => match k with
  | _ => ("", "", "", false)
def tyJ9 : Nat → FieldType := fun k => match k with
  | _ => .int
abbrev wsJ90 : List Cond := u_ws RJ9 TJ9 0
theorem nmJ9 : ∀ a, a < 0 → ∀ b, b < 0 → a ≠ b → (TJ9 a).2.1 ≠ (TJ9 b).2.1 := by decide +kernel
theorem tyJ9_ok : ∀ k, k < 0 → parseFieldDescriptor (TJ9 k).2.2.1 = some (tyJ9 k) := by decide +kernel
abbrev cJ9_abs_0f7a4 : ByteArray := prog_19_method_59_code
def yJ9_abs_0f7a4 : MethodName := ⟨RJ9, "abs", "(I)I"⟩
abbrev cJ9_max_7cf53 : ByteArray := prog_19_method_65_code
def yJ9_max_7cf53 : MethodName := ⟨RJ9, "max", "(II)I"⟩
abbrev cJ9_min_7cf53 : ByteArray := prog_19_method_69_code
def yJ9_min_7cf53 : MethodName := ⟨RJ9, "min", "(II)I"⟩
def RJ0 : String := "java/lang/String"
def TJ0 : u_T := fun k => match k with
  | _ => ("", "", "", false)
def tyJ0 : Nat → FieldType := fun k => match k with
  | _ => .int
abbrev wsJ00 : List Cond := u_ws RJ0 TJ0 0
theorem nmJ0 : ∀ a, a < 0 → ∀ b, b < 0 → a ≠ b → (TJ0 a).2.1 ≠ (TJ0 b).2.1 := by decide +kernel
theorem tyJ0_ok : ∀ k, k < 0 → parseFieldDescriptor (TJ0 k).2.2.1 = some (tyJ0 k) := by decide +kernel
def RJ7 : String := "java/util/Arrays"
def TJ7 : u_T := fun k => match k with
  | _ => ("", "", "", false)
def tyJ7 : Nat → FieldType := fun k => match k with
  | _ => .int
abbrev wsJ70 : List Cond := u_ws RJ7 TJ7 0
theorem nmJ7 : ∀ a, a < 0 → ∀ b, b < 0 → a ≠ b → (TJ7 a).2.1 ≠ (TJ7 b).2.1 := by decide +kernel
theorem tyJ7_ok : ∀ k, k < 0 → parseFieldDescriptor (TJ7 k).2.2.1 = some (tyJ7 k) := by decide +kernel
abbrev cJ7_fill_53178 : ByteArray := prog_23_method_103_code
def yJ7_fill_53178 : MethodName := ⟨RJ7, "fill", "([II)V"⟩
def RL : String := "LatticePathsLaw"
abbrev cL_cell : ByteArray := method_2_code
def yL_cell : MethodName := ⟨RL, "cell", "([II)I"⟩
abbrev cL_low : ByteArray := method_3_code
def yL_low : MethodName := ⟨RL, "low", "(II)I"⟩
abbrev cL_start : ByteArray := method_4_code
def yL_start : MethodName := ⟨RL, "start", "(LLatticePaths;II)I"⟩
abbrev cL_step : ByteArray := method_5_code
def yL_step : MethodName := ⟨RL, "step", "(LLatticePaths;II)I"⟩
abbrev cL_back : ByteArray := method_6_code
def yL_back : MethodName := ⟨RL, "back", "(LLatticePaths;I)I"⟩
abbrev cL_slither : ByteArray := method_7_code
def yL_slither : MethodName := ⟨RL, "slither", "(LLatticePaths;II)I"⟩
abbrev cL_turn : ByteArray := method_8_code
def yL_turn : MethodName := ⟨RL, "turn", "(LLatticePaths;III)I"⟩
abbrev cL_reverse : ByteArray := method_9_code
def yL_reverse : MethodName := ⟨RL, "reverse", "(LLatticePaths;I)I"⟩
abbrev cL_join : ByteArray := method_10_code
def yL_join : MethodName := ⟨RL, "join", "(LLatticePaths;II)I"⟩
abbrev cL_split : ByteArray := method_11_code
def yL_split : MethodName := ⟨RL, "split", "(LLatticePaths;II)I"⟩
abbrev cL_remove : ByteArray := method_12_code
def yL_remove : MethodName := ⟨RL, "remove", "(LLatticePaths;I)I"⟩
abbrev cL_undo : ByteArray := method_13_code
def yL_undo : MethodName := ⟨RL, "undo", "(LLatticePaths;)I"⟩
abbrev cL_site : ByteArray := method_14_code
def yL_site : MethodName := ⟨RL, "site", "(LLatticePaths;III)I"⟩
abbrev cL_place : ByteArray := method_15_code
def yL_place : MethodName := ⟨RL, "place", "(LLatticePaths;II)I"⟩
abbrev cL_path : ByteArray := method_16_code
def yL_path : MethodName := ⟨RL, "path", "(LLatticePaths;II)I"⟩
abbrev cL_touching : ByteArray := method_17_code
def yL_touching : MethodName := ⟨RL, "touching", "(LLatticePaths;II)I"⟩
abbrev cL_count : ByteArray := method_18_code
def yL_count : MethodName := ⟨RL, "count", "(LLatticePaths;I)I"⟩
abbrev cL_ifTurned : ByteArray := method_19_code
def yL_ifTurned : MethodName := ⟨RL, "ifTurned", "(LLatticePaths;III)I"⟩
abbrev cL_at : ByteArray := method_20_code
def yL_at : MethodName := ⟨RL, "at", "(II[I)I"⟩
abbrev cL_puts : ByteArray := method_21_code
def yL_puts : MethodName := ⟨RL, "puts", "(III[I)V"⟩
abbrev cL_go : ByteArray := method_22_code
def yL_go : MethodName := ⟨RL, "go", "(II)I"⟩
abbrev cL_whose : ByteArray := method_23_code
def yL_whose : MethodName := ⟨RL, "whose", "(I[I[I)I"⟩
abbrev cL_why : ByteArray := method_24_code
def yL_why : MethodName := ⟨RL, "why", "(III[I[I)I"⟩
abbrev cL_turned : ByteArray := method_25_code
def yL_turned : MethodName := ⟨RL, "turned", "(III)I"⟩
abbrev cL_whyNotTurned : ByteArray := method_26_code
def yL_whyNotTurned : MethodName := ⟨RL, "whyNotTurned", "(III[I[I)I"⟩
abbrev cL_drops : ByteArray := method_27_code
def yL_drops : MethodName := ⟨RL, "drops", "(I[I[I)V"⟩
abbrev cL_told : ByteArray := method_28_code
def yL_told : MethodName := ⟨RL, "told", "(LLatticePaths;)J"⟩
abbrev cL_call : ByteArray := method_29_code
def yL_call : MethodName := ⟨RL, "call", "(LLatticePaths;IIII)I"⟩
abbrev cL_stepped : ByteArray := method_30_code
def yL_stepped : MethodName := ⟨RL, "stepped", "(IIZ[I[I)I"⟩
abbrev cL_turns : ByteArray := method_31_code
def yL_turns : MethodName := ⟨RL, "turns", "(III[I[I)I"⟩
abbrev cL_joined : ByteArray := method_32_code
def yL_joined : MethodName := ⟨RL, "joined", "(II[I[I)I"⟩
abbrev cL_due : ByteArray := method_33_code
def yL_due : MethodName := ⟨RL, "due", "(IIII[I[I)I"⟩
abbrev cL_isPath : ByteArray := method_34_code
def yL_isPath : MethodName := ⟨RL, "isPath", "(LLatticePaths;I[I[I)Z"⟩
abbrev cL_isSo : ByteArray := method_35_code
def yL_isSo : MethodName := ⟨RL, "isSo", "(LLatticePaths;I[I[I)Z"⟩
abbrev cL_law : ByteArray := code
def yL_law : MethodName := ⟨RL, "law", "([I)Z"⟩
abbrev vwCl : List vw_C := [(RX0, TX0, 8), (RX1, TX1, 3), (RX3, TX3, 2), (RX4, TX4, 5), (RX5, TX5, 6), (RX6, TX6, 1), (RX7, TX7, 5), (RX8, TX8, 2), (RX9, TX9, 2), (RX10, TX10, 1), (RX11, TX11, 10)]
end
section
theorem dX0_init_0 : decode cX0_init 0 = .ok (.aload_n 0, 1) := by decide +kernel
theorem dX0_init_1 : decode cX0_init 1 = .ok (.invokespecial 3, 3) := by decide +kernel
theorem dX0_init_4 : decode cX0_init 4 = .ok (.aload_n 0, 1) := by decide +kernel
theorem dX0_init_5 : decode cX0_init 5 = .ok (.iconst 5, 1) := by decide +kernel
theorem dX0_init_6 : decode cX0_init 6 = .ok (.anewarray 9, 3) := by decide +kernel
theorem dX0_init_9 : decode cX0_init 9 = .ok (.putfield 11, 3) := by decide +kernel
theorem dX0_init_12 : decode cX0_init 12 = .ok (.aload_n 0, 1) := by decide +kernel
theorem dX0_init_13 : decode cX0_init 13 = .ok (.bipush 100, 2) := by decide +kernel
theorem dX0_init_15 : decode cX0_init 15 = .ok (.newarray .int, 2) := by decide +kernel
theorem dX0_init_17 : decode cX0_init 17 = .ok (.putfield 17, 3) := by decide +kernel
theorem dX0_init_20 : decode cX0_init 20 = .ok (.aload_n 0, 1) := by decide +kernel
theorem dX0_init_21 : decode cX0_init 21 = .ok (.bipush 100, 2) := by decide +kernel
theorem dX0_init_23 : decode cX0_init 23 = .ok (.newarray .int, 2) := by decide +kernel
theorem dX0_init_25 : decode cX0_init 25 = .ok (.putfield 21, 3) := by decide +kernel
theorem dX0_init_28 : decode cX0_init 28 = .ok (.iconst 0, 1) := by decide +kernel
theorem dX0_init_29 : decode cX0_init 29 = .ok (.istore_n 1, 1) := by decide +kernel
theorem dX0_init_30 : decode cX0_init 30 = .ok (.iload_n 1, 1) := by decide +kernel
theorem dX0_init_31 : decode cX0_init 31 = .ok (.iconst 5, 1) := by decide +kernel
theorem dX0_init_32 : decode cX0_init 32 = .ok (.if_icmp .ge 22, 3) := by decide +kernel
theorem dX0_init_35 : decode cX0_init 35 = .ok (.aload_n 0, 1) := by decide +kernel
theorem dX0_init_36 : decode cX0_init 36 = .ok (.getfield 11, 3) := by decide +kernel
theorem dX0_init_39 : decode cX0_init 39 = .ok (.iload_n 1, 1) := by decide +kernel
theorem dX0_init_40 : decode cX0_init 40 = .ok (.new 9, 3) := by decide +kernel
theorem dX0_init_43 : decode cX0_init 43 = .ok (.dup, 1) := by decide +kernel
theorem dX0_init_44 : decode cX0_init 44 = .ok (.invokespecial 24, 3) := by decide +kernel
theorem dX0_init_47 : decode cX0_init 47 = .ok (.aastore, 1) := by decide +kernel
theorem dX0_init_48 : decode cX0_init 48 = .ok (.iinc 1 1, 3) := by decide +kernel
theorem dX0_init_51 : decode cX0_init 51 = .ok (.goto (-21), 3) := by decide +kernel
theorem dX0_init_54 : decode cX0_init 54 = .ok (.aload_n 0, 1) := by decide +kernel
theorem dX0_init_55 : decode cX0_init 55 = .ok (.getfield 17, 3) := by decide +kernel
theorem dX0_init_58 : decode cX0_init 58 = .ok (.iconst (-1), 1) := by decide +kernel
theorem dX0_init_59 : decode cX0_init 59 = .ok (.invokestatic 25, 3) := by decide +kernel
theorem dX0_init_62 : decode cX0_init 62 = .ok (.aload_n 0, 1) := by decide +kernel
theorem dX0_init_63 : decode cX0_init 63 = .ok (.getfield 21, 3) := by decide +kernel
theorem dX0_init_66 : decode cX0_init 66 = .ok (.iconst (-1), 1) := by decide +kernel
theorem dX0_init_67 : decode cX0_init 67 = .ok (.invokestatic 25, 3) := by decide +kernel
theorem dX0_init_70 : decode cX0_init 70 = .ok (.return_, 1) := by decide +kernel
theorem dX0_markSites_0 : decode cX0_markSites 0 = .ok (.aload_n 0, 1) := by decide +kernel
theorem dX0_markSites_1 : decode cX0_markSites 1 = .ok (.getfield 17, 3) := by decide +kernel
theorem dX0_markSites_4 : decode cX0_markSites 4 = .ok (.iconst (-1), 1) := by decide +kernel
theorem dX0_markSites_5 : decode cX0_markSites 5 = .ok (.invokestatic 25, 3) := by decide +kernel
theorem dX0_markSites_8 : decode cX0_markSites 8 = .ok (.aload_n 0, 1) := by decide +kernel
theorem dX0_markSites_9 : decode cX0_markSites 9 = .ok (.getfield 21, 3) := by decide +kernel
theorem dX0_markSites_12 : decode cX0_markSites 12 = .ok (.iconst (-1), 1) := by decide +kernel
theorem dX0_markSites_13 : decode cX0_markSites 13 = .ok (.invokestatic 25, 3) := by decide +kernel
theorem dX0_markSites_16 : decode cX0_markSites 16 = .ok (.aload_n 0, 1) := by decide +kernel
theorem dX0_markSites_17 : decode cX0_markSites 17 = .ok (.iconst 0, 1) := by decide +kernel
theorem dX0_markSites_18 : decode cX0_markSites 18 = .ok (.putfield 31, 3) := by decide +kernel
theorem dX0_markSites_21 : decode cX0_markSites 21 = .ok (.iconst 0, 1) := by decide +kernel
theorem dX0_markSites_22 : decode cX0_markSites 22 = .ok (.istore_n 1, 1) := by decide +kernel
theorem dX0_markSites_23 : decode cX0_markSites 23 = .ok (.iload_n 1, 1) := by decide +kernel
theorem dX0_markSites_24 : decode cX0_markSites 24 = .ok (.aload_n 0, 1) := by decide +kernel
theorem dX0_markSites_25 : decode cX0_markSites 25 = .ok (.getfield 35, 3) := by decide +kernel
theorem dX0_markSites_28 : decode cX0_markSites 28 = .ok (.if_icmp .ge 56, 3) := by decide +kernel
theorem dX0_markSites_31 : decode cX0_markSites 31 = .ok (.aload_n 0, 1) := by decide +kernel
theorem dX0_markSites_32 : decode cX0_markSites 32 = .ok (.getfield 11, 3) := by decide +kernel
theorem dX0_markSites_35 : decode cX0_markSites 35 = .ok (.iload_n 1, 1) := by decide +kernel
theorem dX0_markSites_36 : decode cX0_markSites 36 = .ok (.aaload, 1) := by decide +kernel
theorem dX0_markSites_37 : decode cX0_markSites 37 = .ok (.astore_n 2, 1) := by decide +kernel
theorem dX0_markSites_38 : decode cX0_markSites 38 = .ok (.iconst 0, 1) := by decide +kernel
theorem dX0_markSites_39 : decode cX0_markSites 39 = .ok (.istore_n 3, 1) := by decide +kernel
theorem dX0_markSites_40 : decode cX0_markSites 40 = .ok (.iload_n 3, 1) := by decide +kernel
theorem dX0_markSites_41 : decode cX0_markSites 41 = .ok (.aload_n 2, 1) := by decide +kernel
theorem dX0_markSites_42 : decode cX0_markSites 42 = .ok (.invokevirtual 38, 3) := by decide +kernel
theorem dX0_markSites_45 : decode cX0_markSites 45 = .ok (.if_icmp .ge 20, 3) := by decide +kernel
theorem dX0_markSites_48 : decode cX0_markSites 48 = .ok (.aload_n 0, 1) := by decide +kernel
theorem dX0_markSites_49 : decode cX0_markSites 49 = .ok (.aload_n 2, 1) := by decide +kernel
theorem dX0_markSites_50 : decode cX0_markSites 50 = .ok (.iload_n 3, 1) := by decide +kernel
theorem dX0_markSites_51 : decode cX0_markSites 51 = .ok (.invokevirtual 42, 3) := by decide +kernel
theorem dX0_markSites_54 : decode cX0_markSites 54 = .ok (.iload_n 1, 1) := by decide +kernel
theorem dX0_markSites_55 : decode cX0_markSites 55 = .ok (.iload_n 3, 1) := by decide +kernel
theorem dX0_markSites_56 : decode cX0_markSites 56 = .ok (.invokevirtual 46, 3) := by decide +kernel
theorem dX0_markSites_59 : decode cX0_markSites 59 = .ok (.iinc 3 1, 3) := by decide +kernel
theorem dX0_markSites_62 : decode cX0_markSites 62 = .ok (.goto (-22), 3) := by decide +kernel
theorem dX0_markSites_65 : decode cX0_markSites 65 = .ok (.aload_n 0, 1) := by decide +kernel
theorem dX0_markSites_66 : decode cX0_markSites 66 = .ok (.dup, 1) := by decide +kernel
theorem dX0_markSites_67 : decode cX0_markSites 67 = .ok (.getfield 31, 3) := by decide +kernel
theorem dX0_markSites_70 : decode cX0_markSites 70 = .ok (.aload_n 2, 1) := by decide +kernel
theorem dX0_markSites_71 : decode cX0_markSites 71 = .ok (.invokevirtual 38, 3) := by decide +kernel
theorem dX0_markSites_74 : decode cX0_markSites 74 = .ok (.iadd, 1) := by decide +kernel
theorem dX0_markSites_75 : decode cX0_markSites 75 = .ok (.putfield 31, 3) := by decide +kernel
theorem dX0_markSites_78 : decode cX0_markSites 78 = .ok (.iinc 1 1, 3) := by decide +kernel
theorem dX0_markSites_81 : decode cX0_markSites 81 = .ok (.goto (-58), 3) := by decide +kernel
theorem dX0_markSites_84 : decode cX0_markSites 84 = .ok (.return_, 1) := by decide +kernel
theorem dX0_mark_0 : decode cX0_mark 0 = .ok (.iload_n 1, 1) := by decide +kernel
theorem dX0_mark_1 : decode cX0_mark 1 = .ok (.invokestatic 50, 3) := by decide +kernel
theorem dX0_mark_4 : decode cX0_mark 4 = .ok (.ifCond .eq 17, 3) := by decide +kernel
theorem dX0_mark_7 : decode cX0_mark 7 = .ok (.aload_n 0, 1) := by decide +kernel
theorem dX0_mark_8 : decode cX0_mark 8 = .ok (.getfield 17, 3) := by decide +kernel
theorem dX0_mark_11 : decode cX0_mark 11 = .ok (.iload_n 1, 1) := by decide +kernel
theorem dX0_mark_12 : decode cX0_mark 12 = .ok (.iload_n 2, 1) := by decide +kernel
theorem dX0_mark_13 : decode cX0_mark 13 = .ok (.iastore, 1) := by decide +kernel
theorem dX0_mark_14 : decode cX0_mark 14 = .ok (.aload_n 0, 1) := by decide +kernel
theorem dX0_mark_15 : decode cX0_mark 15 = .ok (.getfield 21, 3) := by decide +kernel
theorem dX0_mark_18 : decode cX0_mark 18 = .ok (.iload_n 1, 1) := by decide +kernel
theorem dX0_mark_19 : decode cX0_mark 19 = .ok (.iload_n 3, 1) := by decide +kernel
theorem dX0_mark_20 : decode cX0_mark 20 = .ok (.iastore, 1) := by decide +kernel
theorem dX0_mark_21 : decode cX0_mark 21 = .ok (.return_, 1) := by decide +kernel
theorem dX0_pathCount_0 : decode cX0_pathCount 0 = .ok (.aload_n 0, 1) := by decide +kernel
theorem dX0_pathCount_1 : decode cX0_pathCount 1 = .ok (.getfield 35, 3) := by decide +kernel
theorem dX0_pathCount_4 : decode cX0_pathCount 4 = .ok (.ireturn, 1) := by decide +kernel
theorem dX0_isFull_0 : decode cX0_isFull 0 = .ok (.aload_n 0, 1) := by decide +kernel
theorem dX0_isFull_1 : decode cX0_isFull 1 = .ok (.getfield 35, 3) := by decide +kernel
theorem dX0_isFull_4 : decode cX0_isFull 4 = .ok (.iconst 5, 1) := by decide +kernel
theorem dX0_isFull_5 : decode cX0_isFull 5 = .ok (.if_icmp .lt 7, 3) := by decide +kernel
theorem dX0_isFull_8 : decode cX0_isFull 8 = .ok (.iconst 1, 1) := by decide +kernel
theorem dX0_isFull_9 : decode cX0_isFull 9 = .ok (.goto 4, 3) := by decide +kernel
theorem dX0_isFull_12 : decode cX0_isFull 12 = .ok (.iconst 0, 1) := by decide +kernel
theorem dX0_isFull_13 : decode cX0_isFull 13 = .ok (.ireturn, 1) := by decide +kernel
theorem dX0_trail_0 : decode cX0_trail 0 = .ok (.aload_n 0, 1) := by decide +kernel
theorem dX0_trail_1 : decode cX0_trail 1 = .ok (.getfield 11, 3) := by decide +kernel
theorem dX0_trail_4 : decode cX0_trail 4 = .ok (.iload_n 1, 1) := by decide +kernel
theorem dX0_trail_5 : decode cX0_trail 5 = .ok (.aaload, 1) := by decide +kernel
theorem dX0_trail_6 : decode cX0_trail 6 = .ok (.areturn, 1) := by decide +kernel
theorem dX0_pathAt_0 : decode cX0_pathAt 0 = .ok (.iload_n 1, 1) := by decide +kernel
theorem dX0_pathAt_1 : decode cX0_pathAt 1 = .ok (.invokestatic 50, 3) := by decide +kernel
theorem dX0_pathAt_4 : decode cX0_pathAt 4 = .ok (.ifCond .eq 12, 3) := by decide +kernel
theorem dX0_pathAt_7 : decode cX0_pathAt 7 = .ok (.aload_n 0, 1) := by decide +kernel
theorem dX0_pathAt_8 : decode cX0_pathAt 8 = .ok (.getfield 17, 3) := by decide +kernel
theorem dX0_pathAt_11 : decode cX0_pathAt 11 = .ok (.iload_n 1, 1) := by decide +kernel
theorem dX0_pathAt_12 : decode cX0_pathAt 12 = .ok (.iaload, 1) := by decide +kernel
theorem dX0_pathAt_13 : decode cX0_pathAt 13 = .ok (.goto 4, 3) := by decide +kernel
theorem dX0_pathAt_16 : decode cX0_pathAt 16 = .ok (.iconst (-1), 1) := by decide +kernel
theorem dX0_pathAt_17 : decode cX0_pathAt 17 = .ok (.ireturn, 1) := by decide +kernel
theorem dX0_placeAt_0 : decode cX0_placeAt 0 = .ok (.iload_n 1, 1) := by decide +kernel
theorem dX0_placeAt_1 : decode cX0_placeAt 1 = .ok (.invokestatic 50, 3) := by decide +kernel
theorem dX0_placeAt_4 : decode cX0_placeAt 4 = .ok (.ifCond .eq 12, 3) := by decide +kernel
theorem dX0_placeAt_7 : decode cX0_placeAt 7 = .ok (.aload_n 0, 1) := by decide +kernel
theorem dX0_placeAt_8 : decode cX0_placeAt 8 = .ok (.getfield 21, 3) := by decide +kernel
theorem dX0_placeAt_11 : decode cX0_placeAt 11 = .ok (.iload_n 1, 1) := by decide +kernel
theorem dX0_placeAt_12 : decode cX0_placeAt 12 = .ok (.iaload, 1) := by decide +kernel
theorem dX0_placeAt_13 : decode cX0_placeAt 13 = .ok (.goto 4, 3) := by decide +kernel
theorem dX0_placeAt_16 : decode cX0_placeAt 16 = .ok (.iconst (-1), 1) := by decide +kernel
theorem dX0_placeAt_17 : decode cX0_placeAt 17 = .ok (.ireturn, 1) := by decide +kernel
theorem dX0_isFree_0 : decode cX0_isFree 0 = .ok (.iload_n 1, 1) := by decide +kernel
theorem dX0_isFree_1 : decode cX0_isFree 1 = .ok (.invokestatic 50, 3) := by decide +kernel
theorem dX0_isFree_4 : decode cX0_isFree 4 = .ok (.ifCond .eq 17, 3) := by decide +kernel
theorem dX0_isFree_7 : decode cX0_isFree 7 = .ok (.aload_n 0, 1) := by decide +kernel
theorem dX0_isFree_8 : decode cX0_isFree 8 = .ok (.getfield 17, 3) := by decide +kernel
theorem dX0_isFree_11 : decode cX0_isFree 11 = .ok (.iload_n 1, 1) := by decide +kernel
theorem dX0_isFree_12 : decode cX0_isFree 12 = .ok (.iaload, 1) := by decide +kernel
theorem dX0_isFree_13 : decode cX0_isFree 13 = .ok (.iconst (-1), 1) := by decide +kernel
theorem dX0_isFree_14 : decode cX0_isFree 14 = .ok (.if_icmp .ne 7, 3) := by decide +kernel
theorem dX0_isFree_17 : decode cX0_isFree 17 = .ok (.iconst 1, 1) := by decide +kernel
theorem dX0_isFree_18 : decode cX0_isFree 18 = .ok (.goto 4, 3) := by decide +kernel
theorem dX0_isFree_21 : decode cX0_isFree 21 = .ok (.iconst 0, 1) := by decide +kernel
theorem dX0_isFree_22 : decode cX0_isFree 22 = .ok (.ireturn, 1) := by decide +kernel
theorem dX0_takenSites_0 : decode cX0_takenSites 0 = .ok (.aload_n 0, 1) := by decide +kernel
theorem dX0_takenSites_1 : decode cX0_takenSites 1 = .ok (.getfield 31, 3) := by decide +kernel
theorem dX0_takenSites_4 : decode cX0_takenSites 4 = .ok (.ireturn, 1) := by decide +kernel
theorem dX0_stepsMade_0 : decode cX0_stepsMade 0 = .ok (.aload_n 0, 1) := by decide +kernel
theorem dX0_stepsMade_1 : decode cX0_stepsMade 1 = .ok (.getfield 56, 3) := by decide +kernel
theorem dX0_stepsMade_4 : decode cX0_stepsMade 4 = .ok (.ireturn, 1) := by decide +kernel
theorem dX0_refusals_0 : decode cX0_refusals 0 = .ok (.aload_n 0, 1) := by decide +kernel
theorem dX0_refusals_1 : decode cX0_refusals 1 = .ok (.getfield 59, 3) := by decide +kernel
theorem dX0_refusals_4 : decode cX0_refusals 4 = .ok (.ireturn, 1) := by decide +kernel
theorem dX0_turnsMade_0 : decode cX0_turnsMade 0 = .ok (.aload_n 0, 1) := by decide +kernel
theorem dX0_turnsMade_1 : decode cX0_turnsMade 1 = .ok (.getfield 62, 3) := by decide +kernel
theorem dX0_turnsMade_4 : decode cX0_turnsMade 4 = .ok (.ireturn, 1) := by decide +kernel
theorem dX0_add_0 : decode cX0_add 0 = .ok (.aload_n 0, 1) := by decide +kernel
theorem dX0_add_1 : decode cX0_add 1 = .ok (.getfield 35, 3) := by decide +kernel
theorem dX0_add_4 : decode cX0_add 4 = .ok (.istore_n 2, 1) := by decide +kernel
theorem dX0_add_5 : decode cX0_add 5 = .ok (.aload_n 0, 1) := by decide +kernel
theorem dX0_add_6 : decode cX0_add 6 = .ok (.getfield 11, 3) := by decide +kernel
theorem dX0_add_9 : decode cX0_add 9 = .ok (.iload_n 2, 1) := by decide +kernel
theorem dX0_add_10 : decode cX0_add 10 = .ok (.aaload, 1) := by decide +kernel
theorem dX0_add_11 : decode cX0_add 11 = .ok (.aload_n 1, 1) := by decide +kernel
theorem dX0_add_12 : decode cX0_add 12 = .ok (.iconst 0, 1) := by decide +kernel
theorem dX0_add_13 : decode cX0_add 13 = .ok (.invokevirtual 65, 3) := by decide +kernel
theorem dX0_add_16 : decode cX0_add 16 = .ok (.aload_n 0, 1) := by decide +kernel
theorem dX0_add_17 : decode cX0_add 17 = .ok (.dup, 1) := by decide +kernel
theorem dX0_add_18 : decode cX0_add 18 = .ok (.getfield 35, 3) := by decide +kernel
theorem dX0_add_21 : decode cX0_add 21 = .ok (.iconst 1, 1) := by decide +kernel
theorem dX0_add_22 : decode cX0_add 22 = .ok (.iadd, 1) := by decide +kernel
theorem dX0_add_23 : decode cX0_add 23 = .ok (.putfield 35, 3) := by decide +kernel
theorem dX0_add_26 : decode cX0_add 26 = .ok (.aload_n 0, 1) := by decide +kernel
theorem dX0_add_27 : decode cX0_add 27 = .ok (.invokevirtual 69, 3) := by decide +kernel
theorem dX0_add_30 : decode cX0_add 30 = .ok (.iload_n 2, 1) := by decide +kernel
theorem dX0_add_31 : decode cX0_add 31 = .ok (.ireturn, 1) := by decide +kernel
theorem dX0_lengthen_0 : decode cX0_lengthen 0 = .ok (.aload_n 0, 1) := by decide +kernel
theorem dX0_lengthen_1 : decode cX0_lengthen 1 = .ok (.getfield 11, 3) := by decide +kernel
theorem dX0_lengthen_4 : decode cX0_lengthen 4 = .ok (.iload_n 1, 1) := by decide +kernel
theorem dX0_lengthen_5 : decode cX0_lengthen 5 = .ok (.aaload, 1) := by decide +kernel
theorem dX0_lengthen_6 : decode cX0_lengthen 6 = .ok (.astore_n 3, 1) := by decide +kernel
theorem dX0_lengthen_7 : decode cX0_lengthen 7 = .ok (.aload_n 3, 1) := by decide +kernel
theorem dX0_lengthen_8 : decode cX0_lengthen 8 = .ok (.invokevirtual 72, 3) := by decide +kernel
theorem dX0_lengthen_11 : decode cX0_lengthen 11 = .ok (.iload_n 2, 1) := by decide +kernel
theorem dX0_lengthen_12 : decode cX0_lengthen 12 = .ok (.invokestatic 75, 3) := by decide +kernel
theorem dX0_lengthen_15 : decode cX0_lengthen 15 = .ok (.istore 4, 2) := by decide +kernel
theorem dX0_lengthen_17 : decode cX0_lengthen 17 = .ok (.aload_n 0, 1) := by decide +kernel
theorem dX0_lengthen_18 : decode cX0_lengthen 18 = .ok (.iload 4, 2) := by decide +kernel
theorem dX0_lengthen_20 : decode cX0_lengthen 20 = .ok (.iload_n 1, 1) := by decide +kernel
theorem dX0_lengthen_21 : decode cX0_lengthen 21 = .ok (.invokevirtual 79, 3) := by decide +kernel
theorem dX0_lengthen_24 : decode cX0_lengthen 24 = .ok (.istore 5, 2) := by decide +kernel
theorem dX0_lengthen_26 : decode cX0_lengthen 26 = .ok (.iload 5, 2) := by decide +kernel
theorem dX0_lengthen_28 : decode cX0_lengthen 28 = .ok (.ifCond .ne 13, 3) := by decide +kernel
theorem dX0_lengthen_31 : decode cX0_lengthen 31 = .ok (.aload_n 3, 1) := by decide +kernel
theorem dX0_lengthen_32 : decode cX0_lengthen 32 = .ok (.invokevirtual 82, 3) := by decide +kernel
theorem dX0_lengthen_35 : decode cX0_lengthen 35 = .ok (.ifCond .eq 6, 3) := by decide +kernel
theorem dX0_lengthen_38 : decode cX0_lengthen 38 = .ok (.iconst 4, 1) := by decide +kernel
theorem dX0_lengthen_39 : decode cX0_lengthen 39 = .ok (.istore 5, 2) := by decide +kernel
theorem dX0_lengthen_41 : decode cX0_lengthen 41 = .ok (.iload 5, 2) := by decide +kernel
theorem dX0_lengthen_43 : decode cX0_lengthen 43 = .ok (.ifCond .ne 13, 3) := by decide +kernel
theorem dX0_lengthen_46 : decode cX0_lengthen 46 = .ok (.aload_n 3, 1) := by decide +kernel
theorem dX0_lengthen_47 : decode cX0_lengthen 47 = .ok (.iload 4, 2) := by decide +kernel
theorem dX0_lengthen_49 : decode cX0_lengthen 49 = .ok (.invokevirtual 86, 3) := by decide +kernel
theorem dX0_lengthen_52 : decode cX0_lengthen 52 = .ok (.aload_n 0, 1) := by decide +kernel
theorem dX0_lengthen_53 : decode cX0_lengthen 53 = .ok (.invokevirtual 69, 3) := by decide +kernel
theorem dX0_lengthen_56 : decode cX0_lengthen 56 = .ok (.aload_n 0, 1) := by decide +kernel
theorem dX0_lengthen_57 : decode cX0_lengthen 57 = .ok (.iload 5, 2) := by decide +kernel
theorem dX0_lengthen_59 : decode cX0_lengthen 59 = .ok (.invokevirtual 90, 3) := by decide +kernel
theorem dX0_lengthen_62 : decode cX0_lengthen 62 = .ok (.iload 5, 2) := by decide +kernel
theorem dX0_lengthen_64 : decode cX0_lengthen 64 = .ok (.ireturn, 1) := by decide +kernel
theorem dX0_creep_0 : decode cX0_creep 0 = .ok (.aload_n 0, 1) := by decide +kernel
theorem dX0_creep_1 : decode cX0_creep 1 = .ok (.getfield 11, 3) := by decide +kernel
theorem dX0_creep_4 : decode cX0_creep 4 = .ok (.iload_n 1, 1) := by decide +kernel
theorem dX0_creep_5 : decode cX0_creep 5 = .ok (.aaload, 1) := by decide +kernel
theorem dX0_creep_6 : decode cX0_creep 6 = .ok (.astore_n 3, 1) := by decide +kernel
theorem dX0_creep_7 : decode cX0_creep 7 = .ok (.aload_n 3, 1) := by decide +kernel
theorem dX0_creep_8 : decode cX0_creep 8 = .ok (.invokevirtual 72, 3) := by decide +kernel
theorem dX0_creep_11 : decode cX0_creep 11 = .ok (.iload_n 2, 1) := by decide +kernel
theorem dX0_creep_12 : decode cX0_creep 12 = .ok (.invokestatic 75, 3) := by decide +kernel
theorem dX0_creep_15 : decode cX0_creep 15 = .ok (.istore 4, 2) := by decide +kernel
theorem dX0_creep_17 : decode cX0_creep 17 = .ok (.iload 4, 2) := by decide +kernel
theorem dX0_creep_19 : decode cX0_creep 19 = .ok (.aload_n 3, 1) := by decide +kernel
theorem dX0_creep_20 : decode cX0_creep 20 = .ok (.invokevirtual 93, 3) := by decide +kernel
theorem dX0_creep_23 : decode cX0_creep 23 = .ok (.if_icmp .ne 7, 3) := by decide +kernel
theorem dX0_creep_26 : decode cX0_creep 26 = .ok (.iconst 0, 1) := by decide +kernel
theorem dX0_creep_27 : decode cX0_creep 27 = .ok (.goto 10, 3) := by decide +kernel
theorem dX0_creep_30 : decode cX0_creep 30 = .ok (.aload_n 0, 1) := by decide +kernel
theorem dX0_creep_31 : decode cX0_creep 31 = .ok (.iload 4, 2) := by decide +kernel
theorem dX0_creep_33 : decode cX0_creep 33 = .ok (.iload_n 1, 1) := by decide +kernel
theorem dX0_creep_34 : decode cX0_creep 34 = .ok (.invokevirtual 79, 3) := by decide +kernel
theorem dX0_creep_37 : decode cX0_creep 37 = .ok (.istore 5, 2) := by decide +kernel
theorem dX0_creep_39 : decode cX0_creep 39 = .ok (.iload 5, 2) := by decide +kernel
theorem dX0_creep_41 : decode cX0_creep 41 = .ok (.ifCond .ne 13, 3) := by decide +kernel
theorem dX0_creep_44 : decode cX0_creep 44 = .ok (.aload_n 3, 1) := by decide +kernel
theorem dX0_creep_45 : decode cX0_creep 45 = .ok (.iload 4, 2) := by decide +kernel
theorem dX0_creep_47 : decode cX0_creep 47 = .ok (.invokevirtual 96, 3) := by decide +kernel
theorem dX0_creep_50 : decode cX0_creep 50 = .ok (.aload_n 0, 1) := by decide +kernel
theorem dX0_creep_51 : decode cX0_creep 51 = .ok (.invokevirtual 69, 3) := by decide +kernel
theorem dX0_creep_54 : decode cX0_creep 54 = .ok (.aload_n 0, 1) := by decide +kernel
theorem dX0_creep_55 : decode cX0_creep 55 = .ok (.iload 5, 2) := by decide +kernel
theorem dX0_creep_57 : decode cX0_creep 57 = .ok (.invokevirtual 90, 3) := by decide +kernel
theorem dX0_creep_60 : decode cX0_creep 60 = .ok (.iload 5, 2) := by decide +kernel
theorem dX0_creep_62 : decode cX0_creep 62 = .ok (.ireturn, 1) := by decide +kernel
theorem dX0_refusalAt_0 : decode cX0_refusalAt 0 = .ok (.iload_n 1, 1) := by decide +kernel
theorem dX0_refusalAt_1 : decode cX0_refusalAt 1 = .ok (.iconst (-1), 1) := by decide +kernel
theorem dX0_refusalAt_2 : decode cX0_refusalAt 2 = .ok (.if_icmp .ne 5, 3) := by decide +kernel
theorem dX0_refusalAt_5 : decode cX0_refusalAt 5 = .ok (.iconst 1, 1) := by decide +kernel
theorem dX0_refusalAt_6 : decode cX0_refusalAt 6 = .ok (.ireturn, 1) := by decide +kernel
theorem dX0_refusalAt_7 : decode cX0_refusalAt 7 = .ok (.aload_n 0, 1) := by decide +kernel
theorem dX0_refusalAt_8 : decode cX0_refusalAt 8 = .ok (.iload_n 1, 1) := by decide +kernel
theorem dX0_refusalAt_9 : decode cX0_refusalAt 9 = .ok (.invokevirtual 99, 3) := by decide +kernel
theorem dX0_refusalAt_12 : decode cX0_refusalAt 12 = .ok (.iload_n 2, 1) := by decide +kernel
theorem dX0_refusalAt_13 : decode cX0_refusalAt 13 = .ok (.if_icmp .ne 5, 3) := by decide +kernel
theorem dX0_refusalAt_16 : decode cX0_refusalAt 16 = .ok (.iconst 2, 1) := by decide +kernel
theorem dX0_refusalAt_17 : decode cX0_refusalAt 17 = .ok (.ireturn, 1) := by decide +kernel
theorem dX0_refusalAt_18 : decode cX0_refusalAt 18 = .ok (.aload_n 0, 1) := by decide +kernel
theorem dX0_refusalAt_19 : decode cX0_refusalAt 19 = .ok (.iload_n 1, 1) := by decide +kernel
theorem dX0_refusalAt_20 : decode cX0_refusalAt 20 = .ok (.invokevirtual 101, 3) := by decide +kernel
theorem dX0_refusalAt_23 : decode cX0_refusalAt 23 = .ok (.ifCond .eq 7, 3) := by decide +kernel
theorem dX0_refusalAt_26 : decode cX0_refusalAt 26 = .ok (.iconst 0, 1) := by decide +kernel
theorem dX0_refusalAt_27 : decode cX0_refusalAt 27 = .ok (.goto 4, 3) := by decide +kernel
theorem dX0_refusalAt_30 : decode cX0_refusalAt 30 = .ok (.iconst 3, 1) := by decide +kernel
theorem dX0_refusalAt_31 : decode cX0_refusalAt 31 = .ok (.ireturn, 1) := by decide +kernel
theorem dX0_noteStep_0 : decode cX0_noteStep 0 = .ok (.iload_n 1, 1) := by decide +kernel
theorem dX0_noteStep_1 : decode cX0_noteStep 1 = .ok (.ifCond .ne 16, 3) := by decide +kernel
theorem dX0_noteStep_4 : decode cX0_noteStep 4 = .ok (.aload_n 0, 1) := by decide +kernel
theorem dX0_noteStep_5 : decode cX0_noteStep 5 = .ok (.dup, 1) := by decide +kernel
theorem dX0_noteStep_6 : decode cX0_noteStep 6 = .ok (.getfield 56, 3) := by decide +kernel
theorem dX0_noteStep_9 : decode cX0_noteStep 9 = .ok (.iconst 1, 1) := by decide +kernel
theorem dX0_noteStep_10 : decode cX0_noteStep 10 = .ok (.iadd, 1) := by decide +kernel
theorem dX0_noteStep_11 : decode cX0_noteStep 11 = .ok (.putfield 56, 3) := by decide +kernel
theorem dX0_noteStep_14 : decode cX0_noteStep 14 = .ok (.goto 13, 3) := by decide +kernel
theorem dX0_noteStep_17 : decode cX0_noteStep 17 = .ok (.aload_n 0, 1) := by decide +kernel
theorem dX0_noteStep_18 : decode cX0_noteStep 18 = .ok (.dup, 1) := by decide +kernel
theorem dX0_noteStep_19 : decode cX0_noteStep 19 = .ok (.getfield 59, 3) := by decide +kernel
theorem dX0_noteStep_22 : decode cX0_noteStep 22 = .ok (.iconst 1, 1) := by decide +kernel
theorem dX0_noteStep_23 : decode cX0_noteStep 23 = .ok (.iadd, 1) := by decide +kernel
theorem dX0_noteStep_24 : decode cX0_noteStep 24 = .ok (.putfield 59, 3) := by decide +kernel
theorem dX0_noteStep_27 : decode cX0_noteStep 27 = .ok (.return_, 1) := by decide +kernel
theorem dX0_noteTurn_0 : decode cX0_noteTurn 0 = .ok (.iload_n 1, 1) := by decide +kernel
theorem dX0_noteTurn_1 : decode cX0_noteTurn 1 = .ok (.ifCond .ne 16, 3) := by decide +kernel
theorem dX0_noteTurn_4 : decode cX0_noteTurn 4 = .ok (.aload_n 0, 1) := by decide +kernel
theorem dX0_noteTurn_5 : decode cX0_noteTurn 5 = .ok (.dup, 1) := by decide +kernel
theorem dX0_noteTurn_6 : decode cX0_noteTurn 6 = .ok (.getfield 62, 3) := by decide +kernel
theorem dX0_noteTurn_9 : decode cX0_noteTurn 9 = .ok (.iconst 1, 1) := by decide +kernel
theorem dX0_noteTurn_10 : decode cX0_noteTurn 10 = .ok (.iadd, 1) := by decide +kernel
theorem dX0_noteTurn_11 : decode cX0_noteTurn 11 = .ok (.putfield 62, 3) := by decide +kernel
theorem dX0_noteTurn_14 : decode cX0_noteTurn 14 = .ok (.goto 13, 3) := by decide +kernel
theorem dX0_noteTurn_17 : decode cX0_noteTurn 17 = .ok (.aload_n 0, 1) := by decide +kernel
theorem dX0_noteTurn_18 : decode cX0_noteTurn 18 = .ok (.dup, 1) := by decide +kernel
theorem dX0_noteTurn_19 : decode cX0_noteTurn 19 = .ok (.getfield 59, 3) := by decide +kernel
theorem dX0_noteTurn_22 : decode cX0_noteTurn 22 = .ok (.iconst 1, 1) := by decide +kernel
theorem dX0_noteTurn_23 : decode cX0_noteTurn 23 = .ok (.iadd, 1) := by decide +kernel
theorem dX0_noteTurn_24 : decode cX0_noteTurn 24 = .ok (.putfield 59, 3) := by decide +kernel
theorem dX0_noteTurn_27 : decode cX0_noteTurn 27 = .ok (.return_, 1) := by decide +kernel
theorem dX0_shorten_0 : decode cX0_shorten 0 = .ok (.aload_n 0, 1) := by decide +kernel
theorem dX0_shorten_1 : decode cX0_shorten 1 = .ok (.getfield 11, 3) := by decide +kernel
theorem dX0_shorten_4 : decode cX0_shorten 4 = .ok (.iload_n 1, 1) := by decide +kernel
theorem dX0_shorten_5 : decode cX0_shorten 5 = .ok (.aaload, 1) := by decide +kernel
theorem dX0_shorten_6 : decode cX0_shorten 6 = .ok (.astore_n 2, 1) := by decide +kernel
theorem dX0_shorten_7 : decode cX0_shorten 7 = .ok (.aload_n 2, 1) := by decide +kernel
theorem dX0_shorten_8 : decode cX0_shorten 8 = .ok (.aload_n 2, 1) := by decide +kernel
theorem dX0_shorten_9 : decode cX0_shorten 9 = .ok (.invokevirtual 38, 3) := by decide +kernel
theorem dX0_shorten_12 : decode cX0_shorten 12 = .ok (.iconst 2, 1) := by decide +kernel
theorem dX0_shorten_13 : decode cX0_shorten 13 = .ok (.isub, 1) := by decide +kernel
theorem dX0_shorten_14 : decode cX0_shorten 14 = .ok (.invokevirtual 104, 3) := by decide +kernel
theorem dX0_shorten_17 : decode cX0_shorten 17 = .ok (.aload_n 0, 1) := by decide +kernel
theorem dX0_shorten_18 : decode cX0_shorten 18 = .ok (.invokevirtual 69, 3) := by decide +kernel
theorem dX0_shorten_21 : decode cX0_shorten 21 = .ok (.aload_n 2, 1) := by decide +kernel
theorem dX0_shorten_22 : decode cX0_shorten 22 = .ok (.invokevirtual 38, 3) := by decide +kernel
theorem dX0_shorten_25 : decode cX0_shorten 25 = .ok (.ireturn, 1) := by decide +kernel
theorem dX0_flip_0 : decode cX0_flip 0 = .ok (.aload_n 0, 1) := by decide +kernel
theorem dX0_flip_1 : decode cX0_flip 1 = .ok (.getfield 11, 3) := by decide +kernel
theorem dX0_flip_4 : decode cX0_flip 4 = .ok (.iload_n 1, 1) := by decide +kernel
theorem dX0_flip_5 : decode cX0_flip 5 = .ok (.aaload, 1) := by decide +kernel
theorem dX0_flip_6 : decode cX0_flip 6 = .ok (.invokevirtual 107, 3) := by decide +kernel
theorem dX0_flip_9 : decode cX0_flip 9 = .ok (.aload_n 0, 1) := by decide +kernel
theorem dX0_flip_10 : decode cX0_flip 10 = .ok (.invokevirtual 69, 3) := by decide +kernel
theorem dX0_flip_13 : decode cX0_flip 13 = .ok (.aload_n 0, 1) := by decide +kernel
theorem dX0_flip_14 : decode cX0_flip 14 = .ok (.getfield 11, 3) := by decide +kernel
theorem dX0_flip_17 : decode cX0_flip 17 = .ok (.iload_n 1, 1) := by decide +kernel
theorem dX0_flip_18 : decode cX0_flip 18 = .ok (.aaload, 1) := by decide +kernel
theorem dX0_flip_19 : decode cX0_flip 19 = .ok (.invokevirtual 72, 3) := by decide +kernel
theorem dX0_flip_22 : decode cX0_flip 22 = .ok (.ireturn, 1) := by decide +kernel
theorem dX0_weld_0 : decode cX0_weld 0 = .ok (.aload_n 0, 1) := by decide +kernel
theorem dX0_weld_1 : decode cX0_weld 1 = .ok (.getfield 11, 3) := by decide +kernel
theorem dX0_weld_4 : decode cX0_weld 4 = .ok (.iload_n 1, 1) := by decide +kernel
theorem dX0_weld_5 : decode cX0_weld 5 = .ok (.aaload, 1) := by decide +kernel
theorem dX0_weld_6 : decode cX0_weld 6 = .ok (.astore_n 3, 1) := by decide +kernel
theorem dX0_weld_7 : decode cX0_weld 7 = .ok (.aload_n 0, 1) := by decide +kernel
theorem dX0_weld_8 : decode cX0_weld 8 = .ok (.getfield 11, 3) := by decide +kernel
theorem dX0_weld_11 : decode cX0_weld 11 = .ok (.iload_n 2, 1) := by decide +kernel
theorem dX0_weld_12 : decode cX0_weld 12 = .ok (.aaload, 1) := by decide +kernel
theorem dX0_weld_13 : decode cX0_weld 13 = .ok (.astore 4, 2) := by decide +kernel
theorem dX0_weld_15 : decode cX0_weld 15 = .ok (.aload 4, 2) := by decide +kernel
theorem dX0_weld_17 : decode cX0_weld 17 = .ok (.invokevirtual 38, 3) := by decide +kernel
theorem dX0_weld_20 : decode cX0_weld 20 = .ok (.iconst 1, 1) := by decide +kernel
theorem dX0_weld_21 : decode cX0_weld 21 = .ok (.isub, 1) := by decide +kernel
theorem dX0_weld_22 : decode cX0_weld 22 = .ok (.istore 5, 2) := by decide +kernel
theorem dX0_weld_24 : decode cX0_weld 24 = .ok (.iload 5, 2) := by decide +kernel
theorem dX0_weld_26 : decode cX0_weld 26 = .ok (.ifCond .lt 20, 3) := by decide +kernel
theorem dX0_weld_29 : decode cX0_weld 29 = .ok (.aload_n 3, 1) := by decide +kernel
theorem dX0_weld_30 : decode cX0_weld 30 = .ok (.aload 4, 2) := by decide +kernel
theorem dX0_weld_32 : decode cX0_weld 32 = .ok (.iload 5, 2) := by decide +kernel
theorem dX0_weld_34 : decode cX0_weld 34 = .ok (.invokevirtual 42, 3) := by decide +kernel
theorem dX0_weld_37 : decode cX0_weld 37 = .ok (.invokevirtual 86, 3) := by decide +kernel
theorem dX0_weld_40 : decode cX0_weld 40 = .ok (.iinc 5 (-1), 3) := by decide +kernel
theorem dX0_weld_43 : decode cX0_weld 43 = .ok (.goto (-19), 3) := by decide +kernel
theorem dX0_weld_46 : decode cX0_weld 46 = .ok (.aload_n 0, 1) := by decide +kernel
theorem dX0_weld_47 : decode cX0_weld 47 = .ok (.iload_n 2, 1) := by decide +kernel
theorem dX0_weld_48 : decode cX0_weld 48 = .ok (.invokevirtual 110, 3) := by decide +kernel
theorem dX0_weld_51 : decode cX0_weld 51 = .ok (.aload_n 3, 1) := by decide +kernel
theorem dX0_weld_52 : decode cX0_weld 52 = .ok (.invokevirtual 38, 3) := by decide +kernel
theorem dX0_weld_55 : decode cX0_weld 55 = .ok (.ireturn, 1) := by decide +kernel
theorem dX0_cut_0 : decode cX0_cut 0 = .ok (.aload_n 0, 1) := by decide +kernel
theorem dX0_cut_1 : decode cX0_cut 1 = .ok (.getfield 35, 3) := by decide +kernel
theorem dX0_cut_4 : decode cX0_cut 4 = .ok (.istore_n 3, 1) := by decide +kernel
theorem dX0_cut_5 : decode cX0_cut 5 = .ok (.aload_n 0, 1) := by decide +kernel
theorem dX0_cut_6 : decode cX0_cut 6 = .ok (.getfield 11, 3) := by decide +kernel
theorem dX0_cut_9 : decode cX0_cut 9 = .ok (.iload_n 3, 1) := by decide +kernel
theorem dX0_cut_10 : decode cX0_cut 10 = .ok (.aaload, 1) := by decide +kernel
theorem dX0_cut_11 : decode cX0_cut 11 = .ok (.aload_n 0, 1) := by decide +kernel
theorem dX0_cut_12 : decode cX0_cut 12 = .ok (.getfield 11, 3) := by decide +kernel
theorem dX0_cut_15 : decode cX0_cut 15 = .ok (.iload_n 1, 1) := by decide +kernel
theorem dX0_cut_16 : decode cX0_cut 16 = .ok (.aaload, 1) := by decide +kernel
theorem dX0_cut_17 : decode cX0_cut 17 = .ok (.iload_n 2, 1) := by decide +kernel
theorem dX0_cut_18 : decode cX0_cut 18 = .ok (.iconst 1, 1) := by decide +kernel
theorem dX0_cut_19 : decode cX0_cut 19 = .ok (.iadd, 1) := by decide +kernel
theorem dX0_cut_20 : decode cX0_cut 20 = .ok (.invokevirtual 65, 3) := by decide +kernel
theorem dX0_cut_23 : decode cX0_cut 23 = .ok (.aload_n 0, 1) := by decide +kernel
theorem dX0_cut_24 : decode cX0_cut 24 = .ok (.getfield 11, 3) := by decide +kernel
theorem dX0_cut_27 : decode cX0_cut 27 = .ok (.iload_n 1, 1) := by decide +kernel
theorem dX0_cut_28 : decode cX0_cut 28 = .ok (.aaload, 1) := by decide +kernel
theorem dX0_cut_29 : decode cX0_cut 29 = .ok (.iload_n 2, 1) := by decide +kernel
theorem dX0_cut_30 : decode cX0_cut 30 = .ok (.invokevirtual 104, 3) := by decide +kernel
theorem dX0_cut_33 : decode cX0_cut 33 = .ok (.aload_n 0, 1) := by decide +kernel
theorem dX0_cut_34 : decode cX0_cut 34 = .ok (.dup, 1) := by decide +kernel
theorem dX0_cut_35 : decode cX0_cut 35 = .ok (.getfield 35, 3) := by decide +kernel
theorem dX0_cut_38 : decode cX0_cut 38 = .ok (.iconst 1, 1) := by decide +kernel
theorem dX0_cut_39 : decode cX0_cut 39 = .ok (.iadd, 1) := by decide +kernel
theorem dX0_cut_40 : decode cX0_cut 40 = .ok (.putfield 35, 3) := by decide +kernel
theorem dX0_cut_43 : decode cX0_cut 43 = .ok (.aload_n 0, 1) := by decide +kernel
theorem dX0_cut_44 : decode cX0_cut 44 = .ok (.invokevirtual 69, 3) := by decide +kernel
theorem dX0_cut_47 : decode cX0_cut 47 = .ok (.iload_n 3, 1) := by decide +kernel
theorem dX0_cut_48 : decode cX0_cut 48 = .ok (.ireturn, 1) := by decide +kernel
theorem dX0_drop_0 : decode cX0_drop 0 = .ok (.aload_n 0, 1) := by decide +kernel
theorem dX0_drop_1 : decode cX0_drop 1 = .ok (.getfield 11, 3) := by decide +kernel
theorem dX0_drop_4 : decode cX0_drop 4 = .ok (.iload_n 1, 1) := by decide +kernel
theorem dX0_drop_5 : decode cX0_drop 5 = .ok (.aaload, 1) := by decide +kernel
theorem dX0_drop_6 : decode cX0_drop 6 = .ok (.astore_n 2, 1) := by decide +kernel
theorem dX0_drop_7 : decode cX0_drop 7 = .ok (.iload_n 1, 1) := by decide +kernel
theorem dX0_drop_8 : decode cX0_drop 8 = .ok (.iconst 1, 1) := by decide +kernel
theorem dX0_drop_9 : decode cX0_drop 9 = .ok (.iadd, 1) := by decide +kernel
theorem dX0_drop_10 : decode cX0_drop 10 = .ok (.istore_n 3, 1) := by decide +kernel
theorem dX0_drop_11 : decode cX0_drop 11 = .ok (.iload_n 3, 1) := by decide +kernel
theorem dX0_drop_12 : decode cX0_drop 12 = .ok (.aload_n 0, 1) := by decide +kernel
theorem dX0_drop_13 : decode cX0_drop 13 = .ok (.getfield 35, 3) := by decide +kernel
theorem dX0_drop_16 : decode cX0_drop 16 = .ok (.if_icmp .ge 23, 3) := by decide +kernel
theorem dX0_drop_19 : decode cX0_drop 19 = .ok (.aload_n 0, 1) := by decide +kernel
theorem dX0_drop_20 : decode cX0_drop 20 = .ok (.getfield 11, 3) := by decide +kernel
theorem dX0_drop_23 : decode cX0_drop 23 = .ok (.iload_n 3, 1) := by decide +kernel
theorem dX0_drop_24 : decode cX0_drop 24 = .ok (.iconst 1, 1) := by decide +kernel
theorem dX0_drop_25 : decode cX0_drop 25 = .ok (.isub, 1) := by decide +kernel
theorem dX0_drop_26 : decode cX0_drop 26 = .ok (.aload_n 0, 1) := by decide +kernel
theorem dX0_drop_27 : decode cX0_drop 27 = .ok (.getfield 11, 3) := by decide +kernel
theorem dX0_drop_30 : decode cX0_drop 30 = .ok (.iload_n 3, 1) := by decide +kernel
theorem dX0_drop_31 : decode cX0_drop 31 = .ok (.aaload, 1) := by decide +kernel
theorem dX0_drop_32 : decode cX0_drop 32 = .ok (.aastore, 1) := by decide +kernel
theorem dX0_drop_33 : decode cX0_drop 33 = .ok (.iinc 3 1, 3) := by decide +kernel
theorem dX0_drop_36 : decode cX0_drop 36 = .ok (.goto (-25), 3) := by decide +kernel
theorem dX0_drop_39 : decode cX0_drop 39 = .ok (.aload_n 0, 1) := by decide +kernel
theorem dX0_drop_40 : decode cX0_drop 40 = .ok (.dup, 1) := by decide +kernel
theorem dX0_drop_41 : decode cX0_drop 41 = .ok (.getfield 35, 3) := by decide +kernel
theorem dX0_drop_44 : decode cX0_drop 44 = .ok (.iconst 1, 1) := by decide +kernel
theorem dX0_drop_45 : decode cX0_drop 45 = .ok (.isub, 1) := by decide +kernel
theorem dX0_drop_46 : decode cX0_drop 46 = .ok (.putfield 35, 3) := by decide +kernel
theorem dX0_drop_49 : decode cX0_drop 49 = .ok (.aload_n 0, 1) := by decide +kernel
theorem dX0_drop_50 : decode cX0_drop 50 = .ok (.getfield 11, 3) := by decide +kernel
theorem dX0_drop_53 : decode cX0_drop 53 = .ok (.aload_n 0, 1) := by decide +kernel
theorem dX0_drop_54 : decode cX0_drop 54 = .ok (.getfield 35, 3) := by decide +kernel
theorem dX0_drop_57 : decode cX0_drop 57 = .ok (.aload_n 2, 1) := by decide +kernel
theorem dX0_drop_58 : decode cX0_drop 58 = .ok (.aastore, 1) := by decide +kernel
theorem dX0_drop_59 : decode cX0_drop 59 = .ok (.aload_n 0, 1) := by decide +kernel
theorem dX0_drop_60 : decode cX0_drop 60 = .ok (.invokevirtual 69, 3) := by decide +kernel
theorem dX0_drop_63 : decode cX0_drop 63 = .ok (.return_, 1) := by decide +kernel
theorem dX0_freeDirections_0 : decode cX0_freeDirections 0 = .ok (.iconst 0, 1) := by decide +kernel
theorem dX0_freeDirections_1 : decode cX0_freeDirections 1 = .ok (.istore_n 2, 1) := by decide +kernel
theorem dX0_freeDirections_2 : decode cX0_freeDirections 2 = .ok (.iconst 0, 1) := by decide +kernel
theorem dX0_freeDirections_3 : decode cX0_freeDirections 3 = .ok (.istore_n 3, 1) := by decide +kernel
theorem dX0_freeDirections_4 : decode cX0_freeDirections 4 = .ok (.iload_n 3, 1) := by decide +kernel
theorem dX0_freeDirections_5 : decode cX0_freeDirections 5 = .ok (.iconst 4, 1) := by decide +kernel
theorem dX0_freeDirections_6 : decode cX0_freeDirections 6 = .ok (.if_icmp .ge 27, 3) := by decide +kernel
theorem dX0_freeDirections_9 : decode cX0_freeDirections 9 = .ok (.aload_n 0, 1) := by decide +kernel
theorem dX0_freeDirections_10 : decode cX0_freeDirections 10 = .ok (.iload_n 1, 1) := by decide +kernel
theorem dX0_freeDirections_11 : decode cX0_freeDirections 11 = .ok (.iload_n 3, 1) := by decide +kernel
theorem dX0_freeDirections_12 : decode cX0_freeDirections 12 = .ok (.invokestatic 75, 3) := by decide +kernel
theorem dX0_freeDirections_15 : decode cX0_freeDirections 15 = .ok (.invokevirtual 101, 3) := by decide +kernel
theorem dX0_freeDirections_18 : decode cX0_freeDirections 18 = .ok (.ifCond .eq 9, 3) := by decide +kernel
theorem dX0_freeDirections_21 : decode cX0_freeDirections 21 = .ok (.iload_n 2, 1) := by decide +kernel
theorem dX0_freeDirections_22 : decode cX0_freeDirections 22 = .ok (.iconst 1, 1) := by decide +kernel
theorem dX0_freeDirections_23 : decode cX0_freeDirections 23 = .ok (.iload_n 3, 1) := by decide +kernel
theorem dX0_freeDirections_24 : decode cX0_freeDirections 24 = .ok (.ishl, 1) := by decide +kernel
theorem dX0_freeDirections_25 : decode cX0_freeDirections 25 = .ok (.ior, 1) := by decide +kernel
theorem dX0_freeDirections_26 : decode cX0_freeDirections 26 = .ok (.istore_n 2, 1) := by decide +kernel
theorem dX0_freeDirections_27 : decode cX0_freeDirections 27 = .ok (.iinc 3 1, 3) := by decide +kernel
theorem dX0_freeDirections_30 : decode cX0_freeDirections 30 = .ok (.goto (-26), 3) := by decide +kernel
theorem dX0_freeDirections_33 : decode cX0_freeDirections 33 = .ok (.iload_n 2, 1) := by decide +kernel
theorem dX0_freeDirections_34 : decode cX0_freeDirections 34 = .ok (.ireturn, 1) := by decide +kernel
theorem dX0_contacts_0 : decode cX0_contacts 0 = .ok (.iconst 0, 1) := by decide +kernel
theorem dX0_contacts_1 : decode cX0_contacts 1 = .ok (.istore_n 2, 1) := by decide +kernel
theorem dX0_contacts_2 : decode cX0_contacts 2 = .ok (.aload_n 0, 1) := by decide +kernel
theorem dX0_contacts_3 : decode cX0_contacts 3 = .ok (.getfield 11, 3) := by decide +kernel
theorem dX0_contacts_6 : decode cX0_contacts 6 = .ok (.iload_n 1, 1) := by decide +kernel
theorem dX0_contacts_7 : decode cX0_contacts 7 = .ok (.aaload, 1) := by decide +kernel
theorem dX0_contacts_8 : decode cX0_contacts 8 = .ok (.astore_n 3, 1) := by decide +kernel
theorem dX0_contacts_9 : decode cX0_contacts 9 = .ok (.iconst 0, 1) := by decide +kernel
theorem dX0_contacts_10 : decode cX0_contacts 10 = .ok (.istore 4, 2) := by decide +kernel
theorem dX0_contacts_12 : decode cX0_contacts 12 = .ok (.iload 4, 2) := by decide +kernel
theorem dX0_contacts_14 : decode cX0_contacts 14 = .ok (.aload_n 3, 1) := by decide +kernel
theorem dX0_contacts_15 : decode cX0_contacts 15 = .ok (.invokevirtual 38, 3) := by decide +kernel
theorem dX0_contacts_18 : decode cX0_contacts 18 = .ok (.if_icmp .ge 66, 3) := by decide +kernel
theorem dX0_contacts_21 : decode cX0_contacts 21 = .ok (.iconst 1, 1) := by decide +kernel
theorem dX0_contacts_22 : decode cX0_contacts 22 = .ok (.istore 5, 2) := by decide +kernel
theorem dX0_contacts_24 : decode cX0_contacts 24 = .ok (.iload 5, 2) := by decide +kernel
theorem dX0_contacts_26 : decode cX0_contacts 26 = .ok (.iconst 2, 1) := by decide +kernel
theorem dX0_contacts_27 : decode cX0_contacts 27 = .ok (.if_icmp .gt 51, 3) := by decide +kernel
theorem dX0_contacts_30 : decode cX0_contacts 30 = .ok (.aload_n 3, 1) := by decide +kernel
theorem dX0_contacts_31 : decode cX0_contacts 31 = .ok (.iload 4, 2) := by decide +kernel
theorem dX0_contacts_33 : decode cX0_contacts 33 = .ok (.invokevirtual 42, 3) := by decide +kernel
theorem dX0_contacts_36 : decode cX0_contacts 36 = .ok (.iload 5, 2) := by decide +kernel
theorem dX0_contacts_38 : decode cX0_contacts 38 = .ok (.invokestatic 75, 3) := by decide +kernel
theorem dX0_contacts_41 : decode cX0_contacts 41 = .ok (.istore 6, 2) := by decide +kernel
theorem dX0_contacts_43 : decode cX0_contacts 43 = .ok (.aload_n 0, 1) := by decide +kernel
theorem dX0_contacts_44 : decode cX0_contacts 44 = .ok (.iload 6, 2) := by decide +kernel
theorem dX0_contacts_46 : decode cX0_contacts 46 = .ok (.invokevirtual 99, 3) := by decide +kernel
theorem dX0_contacts_49 : decode cX0_contacts 49 = .ok (.iload_n 1, 1) := by decide +kernel
theorem dX0_contacts_50 : decode cX0_contacts 50 = .ok (.if_icmp .ne 22, 3) := by decide +kernel
theorem dX0_contacts_53 : decode cX0_contacts 53 = .ok (.aload_n 0, 1) := by decide +kernel
theorem dX0_contacts_54 : decode cX0_contacts 54 = .ok (.iload 6, 2) := by decide +kernel
theorem dX0_contacts_56 : decode cX0_contacts 56 = .ok (.invokevirtual 113, 3) := by decide +kernel
theorem dX0_contacts_59 : decode cX0_contacts 59 = .ok (.iload 4, 2) := by decide +kernel
theorem dX0_contacts_61 : decode cX0_contacts 61 = .ok (.isub, 1) := by decide +kernel
theorem dX0_contacts_62 : decode cX0_contacts 62 = .ok (.invokestatic 115, 3) := by decide +kernel
theorem dX0_contacts_65 : decode cX0_contacts 65 = .ok (.iconst 1, 1) := by decide +kernel
theorem dX0_contacts_66 : decode cX0_contacts 66 = .ok (.if_icmp .le 6, 3) := by decide +kernel
theorem dX0_contacts_69 : decode cX0_contacts 69 = .ok (.iinc 2 1, 3) := by decide +kernel
theorem dX0_contacts_72 : decode cX0_contacts 72 = .ok (.iinc 5 1, 3) := by decide +kernel
theorem dX0_contacts_75 : decode cX0_contacts 75 = .ok (.goto (-51), 3) := by decide +kernel
theorem dX0_contacts_78 : decode cX0_contacts 78 = .ok (.iinc 4 1, 3) := by decide +kernel
theorem dX0_contacts_81 : decode cX0_contacts 81 = .ok (.goto (-69), 3) := by decide +kernel
theorem dX0_contacts_84 : decode cX0_contacts 84 = .ok (.iload_n 2, 1) := by decide +kernel
theorem dX0_contacts_85 : decode cX0_contacts 85 = .ok (.ireturn, 1) := by decide +kernel
theorem dX0_touchingPairs_0 : decode cX0_touchingPairs 0 = .ok (.iconst 0, 1) := by decide +kernel
theorem dX0_touchingPairs_1 : decode cX0_touchingPairs 1 = .ok (.istore_n 3, 1) := by decide +kernel
theorem dX0_touchingPairs_2 : decode cX0_touchingPairs 2 = .ok (.aload_n 0, 1) := by decide +kernel
theorem dX0_touchingPairs_3 : decode cX0_touchingPairs 3 = .ok (.getfield 11, 3) := by decide +kernel
theorem dX0_touchingPairs_6 : decode cX0_touchingPairs 6 = .ok (.iload_n 1, 1) := by decide +kernel
theorem dX0_touchingPairs_7 : decode cX0_touchingPairs 7 = .ok (.aaload, 1) := by decide +kernel
theorem dX0_touchingPairs_8 : decode cX0_touchingPairs 8 = .ok (.astore 4, 2) := by decide +kernel
theorem dX0_touchingPairs_10 : decode cX0_touchingPairs 10 = .ok (.iconst 0, 1) := by decide +kernel
theorem dX0_touchingPairs_11 : decode cX0_touchingPairs 11 = .ok (.istore 5, 2) := by decide +kernel
theorem dX0_touchingPairs_13 : decode cX0_touchingPairs 13 = .ok (.iload 5, 2) := by decide +kernel
theorem dX0_touchingPairs_15 : decode cX0_touchingPairs 15 = .ok (.aload 4, 2) := by decide +kernel
theorem dX0_touchingPairs_17 : decode cX0_touchingPairs 17 = .ok (.invokevirtual 38, 3) := by decide +kernel
theorem dX0_touchingPairs_20 : decode cX0_touchingPairs 20 = .ok (.if_icmp .ge 24, 3) := by decide +kernel
theorem dX0_touchingPairs_23 : decode cX0_touchingPairs 23 = .ok (.iload_n 3, 1) := by decide +kernel
theorem dX0_touchingPairs_24 : decode cX0_touchingPairs 24 = .ok (.aload_n 0, 1) := by decide +kernel
theorem dX0_touchingPairs_25 : decode cX0_touchingPairs 25 = .ok (.aload 4, 2) := by decide +kernel
theorem dX0_touchingPairs_27 : decode cX0_touchingPairs 27 = .ok (.iload 5, 2) := by decide +kernel
theorem dX0_touchingPairs_29 : decode cX0_touchingPairs 29 = .ok (.invokevirtual 42, 3) := by decide +kernel
theorem dX0_touchingPairs_32 : decode cX0_touchingPairs 32 = .ok (.iload_n 2, 1) := by decide +kernel
theorem dX0_touchingPairs_33 : decode cX0_touchingPairs 33 = .ok (.invokevirtual 120, 3) := by decide +kernel
theorem dX0_touchingPairs_36 : decode cX0_touchingPairs 36 = .ok (.iadd, 1) := by decide +kernel
theorem dX0_touchingPairs_37 : decode cX0_touchingPairs 37 = .ok (.istore_n 3, 1) := by decide +kernel
theorem dX0_touchingPairs_38 : decode cX0_touchingPairs 38 = .ok (.iinc 5 1, 3) := by decide +kernel
theorem dX0_touchingPairs_41 : decode cX0_touchingPairs 41 = .ok (.goto (-28), 3) := by decide +kernel
theorem dX0_touchingPairs_44 : decode cX0_touchingPairs 44 = .ok (.iload_n 3, 1) := by decide +kernel
theorem dX0_touchingPairs_45 : decode cX0_touchingPairs 45 = .ok (.ireturn, 1) := by decide +kernel
theorem dX0_freeBorder_0 : decode cX0_freeBorder 0 = .ok (.iconst 0, 1) := by decide +kernel
theorem dX0_freeBorder_1 : decode cX0_freeBorder 1 = .ok (.istore_n 2, 1) := by decide +kernel
theorem dX0_freeBorder_2 : decode cX0_freeBorder 2 = .ok (.iconst 0, 1) := by decide +kernel
theorem dX0_freeBorder_3 : decode cX0_freeBorder 3 = .ok (.istore_n 3, 1) := by decide +kernel
theorem dX0_freeBorder_4 : decode cX0_freeBorder 4 = .ok (.iload_n 3, 1) := by decide +kernel
theorem dX0_freeBorder_5 : decode cX0_freeBorder 5 = .ok (.bipush 100, 2) := by decide +kernel
theorem dX0_freeBorder_7 : decode cX0_freeBorder 7 = .ok (.if_icmp .ge 29, 3) := by decide +kernel
theorem dX0_freeBorder_10 : decode cX0_freeBorder 10 = .ok (.aload_n 0, 1) := by decide +kernel
theorem dX0_freeBorder_11 : decode cX0_freeBorder 11 = .ok (.iload_n 3, 1) := by decide +kernel
theorem dX0_freeBorder_12 : decode cX0_freeBorder 12 = .ok (.invokevirtual 101, 3) := by decide +kernel
theorem dX0_freeBorder_15 : decode cX0_freeBorder 15 = .ok (.ifCond .eq 15, 3) := by decide +kernel
theorem dX0_freeBorder_18 : decode cX0_freeBorder 18 = .ok (.aload_n 0, 1) := by decide +kernel
theorem dX0_freeBorder_19 : decode cX0_freeBorder 19 = .ok (.iload_n 3, 1) := by decide +kernel
theorem dX0_freeBorder_20 : decode cX0_freeBorder 20 = .ok (.iload_n 1, 1) := by decide +kernel
theorem dX0_freeBorder_21 : decode cX0_freeBorder 21 = .ok (.invokevirtual 120, 3) := by decide +kernel
theorem dX0_freeBorder_24 : decode cX0_freeBorder 24 = .ok (.ifCond .le 6, 3) := by decide +kernel
theorem dX0_freeBorder_27 : decode cX0_freeBorder 27 = .ok (.iinc 2 1, 3) := by decide +kernel
theorem dX0_freeBorder_30 : decode cX0_freeBorder 30 = .ok (.iinc 3 1, 3) := by decide +kernel
theorem dX0_freeBorder_33 : decode cX0_freeBorder 33 = .ok (.goto (-29), 3) := by decide +kernel
theorem dX0_freeBorder_36 : decode cX0_freeBorder 36 = .ok (.iload_n 2, 1) := by decide +kernel
theorem dX0_freeBorder_37 : decode cX0_freeBorder 37 = .ok (.ireturn, 1) := by decide +kernel
theorem dX0_neighboursIn_0 : decode cX0_neighboursIn 0 = .ok (.iconst 0, 1) := by decide +kernel
theorem dX0_neighboursIn_1 : decode cX0_neighboursIn 1 = .ok (.istore_n 3, 1) := by decide +kernel
theorem dX0_neighboursIn_2 : decode cX0_neighboursIn 2 = .ok (.iconst 0, 1) := by decide +kernel
theorem dX0_neighboursIn_3 : decode cX0_neighboursIn 3 = .ok (.istore 4, 2) := by decide +kernel
theorem dX0_neighboursIn_5 : decode cX0_neighboursIn 5 = .ok (.iload 4, 2) := by decide +kernel
theorem dX0_neighboursIn_7 : decode cX0_neighboursIn 7 = .ok (.iconst 4, 1) := by decide +kernel
theorem dX0_neighboursIn_8 : decode cX0_neighboursIn 8 = .ok (.if_icmp .ge 26, 3) := by decide +kernel
theorem dX0_neighboursIn_11 : decode cX0_neighboursIn 11 = .ok (.aload_n 0, 1) := by decide +kernel
theorem dX0_neighboursIn_12 : decode cX0_neighboursIn 12 = .ok (.iload_n 1, 1) := by decide +kernel
theorem dX0_neighboursIn_13 : decode cX0_neighboursIn 13 = .ok (.iload 4, 2) := by decide +kernel
theorem dX0_neighboursIn_15 : decode cX0_neighboursIn 15 = .ok (.invokestatic 75, 3) := by decide +kernel
theorem dX0_neighboursIn_18 : decode cX0_neighboursIn 18 = .ok (.invokevirtual 99, 3) := by decide +kernel
theorem dX0_neighboursIn_21 : decode cX0_neighboursIn 21 = .ok (.iload_n 2, 1) := by decide +kernel
theorem dX0_neighboursIn_22 : decode cX0_neighboursIn 22 = .ok (.if_icmp .ne 6, 3) := by decide +kernel
theorem dX0_neighboursIn_25 : decode cX0_neighboursIn 25 = .ok (.iinc 3 1, 3) := by decide +kernel
theorem dX0_neighboursIn_28 : decode cX0_neighboursIn 28 = .ok (.iinc 4 1, 3) := by decide +kernel
theorem dX0_neighboursIn_31 : decode cX0_neighboursIn 31 = .ok (.goto (-26), 3) := by decide +kernel
theorem dX0_neighboursIn_34 : decode cX0_neighboursIn 34 = .ok (.iload_n 3, 1) := by decide +kernel
theorem dX0_neighboursIn_35 : decode cX0_neighboursIn 35 = .ok (.ireturn, 1) := by decide +kernel
theorem dX1_init_0 : decode cX1_init 0 = .ok (.aload_n 0, 1) := by decide +kernel
theorem dX1_init_1 : decode cX1_init 1 = .ok (.invokespecial 3, 3) := by decide +kernel
theorem dX1_init_4 : decode cX1_init 4 = .ok (.aload_n 0, 1) := by decide +kernel
theorem dX1_init_5 : decode cX1_init 5 = .ok (.bipush 6, 2) := by decide +kernel
theorem dX1_init_7 : decode cX1_init 7 = .ok (.anewarray 9, 3) := by decide +kernel
theorem dX1_init_10 : decode cX1_init 10 = .ok (.putfield 11, 3) := by decide +kernel
theorem dX1_init_13 : decode cX1_init 13 = .ok (.iconst 0, 1) := by decide +kernel
theorem dX1_init_14 : decode cX1_init 14 = .ok (.istore_n 1, 1) := by decide +kernel
theorem dX1_init_15 : decode cX1_init 15 = .ok (.iload_n 1, 1) := by decide +kernel
theorem dX1_init_16 : decode cX1_init 16 = .ok (.bipush 6, 2) := by decide +kernel
theorem dX1_init_18 : decode cX1_init 18 = .ok (.if_icmp .ge 22, 3) := by decide +kernel
theorem dX1_init_21 : decode cX1_init 21 = .ok (.aload_n 0, 1) := by decide +kernel
theorem dX1_init_22 : decode cX1_init 22 = .ok (.getfield 11, 3) := by decide +kernel
theorem dX1_init_25 : decode cX1_init 25 = .ok (.iload_n 1, 1) := by decide +kernel
theorem dX1_init_26 : decode cX1_init 26 = .ok (.new 9, 3) := by decide +kernel
theorem dX1_init_29 : decode cX1_init 29 = .ok (.dup, 1) := by decide +kernel
theorem dX1_init_30 : decode cX1_init 30 = .ok (.invokespecial 17, 3) := by decide +kernel
theorem dX1_init_33 : decode cX1_init 33 = .ok (.aastore, 1) := by decide +kernel
theorem dX1_init_34 : decode cX1_init 34 = .ok (.iinc 1 1, 3) := by decide +kernel
theorem dX1_init_37 : decode cX1_init 37 = .ok (.goto (-22), 3) := by decide +kernel
theorem dX1_init_40 : decode cX1_init 40 = .ok (.return_, 1) := by decide +kernel
theorem dX1_size_0 : decode cX1_size 0 = .ok (.aload_n 0, 1) := by decide +kernel
theorem dX1_size_1 : decode cX1_size 1 = .ok (.getfield 18, 3) := by decide +kernel
theorem dX1_size_4 : decode cX1_size 4 = .ok (.ireturn, 1) := by decide +kernel
theorem dX1_save_0 : decode cX1_save 0 = .ok (.aload_n 0, 1) := by decide +kernel
theorem dX1_save_1 : decode cX1_save 1 = .ok (.getfield 18, 3) := by decide +kernel
theorem dX1_save_4 : decode cX1_save 4 = .ok (.bipush 6, 2) := by decide +kernel
theorem dX1_save_6 : decode cX1_save 6 = .ok (.if_icmp .ne 26, 3) := by decide +kernel
theorem dX1_save_9 : decode cX1_save 9 = .ok (.aload_n 0, 1) := by decide +kernel
theorem dX1_save_10 : decode cX1_save 10 = .ok (.aload_n 0, 1) := by decide +kernel
theorem dX1_save_11 : decode cX1_save 11 = .ok (.getfield 22, 3) := by decide +kernel
theorem dX1_save_14 : decode cX1_save 14 = .ok (.iconst 1, 1) := by decide +kernel
theorem dX1_save_15 : decode cX1_save 15 = .ok (.iadd, 1) := by decide +kernel
theorem dX1_save_16 : decode cX1_save 16 = .ok (.bipush 6, 2) := by decide +kernel
theorem dX1_save_18 : decode cX1_save 18 = .ok (.irem, 1) := by decide +kernel
theorem dX1_save_19 : decode cX1_save 19 = .ok (.putfield 22, 3) := by decide +kernel
theorem dX1_save_22 : decode cX1_save 22 = .ok (.aload_n 0, 1) := by decide +kernel
theorem dX1_save_23 : decode cX1_save 23 = .ok (.dup, 1) := by decide +kernel
theorem dX1_save_24 : decode cX1_save 24 = .ok (.getfield 18, 3) := by decide +kernel
theorem dX1_save_27 : decode cX1_save 27 = .ok (.iconst 1, 1) := by decide +kernel
theorem dX1_save_28 : decode cX1_save 28 = .ok (.isub, 1) := by decide +kernel
theorem dX1_save_29 : decode cX1_save 29 = .ok (.putfield 18, 3) := by decide +kernel
theorem dX1_save_32 : decode cX1_save 32 = .ok (.aload_n 0, 1) := by decide +kernel
theorem dX1_save_33 : decode cX1_save 33 = .ok (.getfield 11, 3) := by decide +kernel
theorem dX1_save_36 : decode cX1_save 36 = .ok (.aload_n 0, 1) := by decide +kernel
theorem dX1_save_37 : decode cX1_save 37 = .ok (.getfield 22, 3) := by decide +kernel
theorem dX1_save_40 : decode cX1_save 40 = .ok (.aload_n 0, 1) := by decide +kernel
theorem dX1_save_41 : decode cX1_save 41 = .ok (.getfield 18, 3) := by decide +kernel
theorem dX1_save_44 : decode cX1_save 44 = .ok (.iadd, 1) := by decide +kernel
theorem dX1_save_45 : decode cX1_save 45 = .ok (.bipush 6, 2) := by decide +kernel
theorem dX1_save_47 : decode cX1_save 47 = .ok (.irem, 1) := by decide +kernel
theorem dX1_save_48 : decode cX1_save 48 = .ok (.aaload, 1) := by decide +kernel
theorem dX1_save_49 : decode cX1_save 49 = .ok (.aload_n 1, 1) := by decide +kernel
theorem dX1_save_50 : decode cX1_save 50 = .ok (.invokevirtual 25, 3) := by decide +kernel
theorem dX1_save_53 : decode cX1_save 53 = .ok (.aload_n 0, 1) := by decide +kernel
theorem dX1_save_54 : decode cX1_save 54 = .ok (.dup, 1) := by decide +kernel
theorem dX1_save_55 : decode cX1_save 55 = .ok (.getfield 18, 3) := by decide +kernel
theorem dX1_save_58 : decode cX1_save 58 = .ok (.iconst 1, 1) := by decide +kernel
theorem dX1_save_59 : decode cX1_save 59 = .ok (.iadd, 1) := by decide +kernel
theorem dX1_save_60 : decode cX1_save 60 = .ok (.putfield 18, 3) := by decide +kernel
theorem dX1_save_63 : decode cX1_save 63 = .ok (.return_, 1) := by decide +kernel
theorem dX1_restoreLast_0 : decode cX1_restoreLast 0 = .ok (.aload_n 0, 1) := by decide +kernel
theorem dX1_restoreLast_1 : decode cX1_restoreLast 1 = .ok (.getfield 18, 3) := by decide +kernel
theorem dX1_restoreLast_4 : decode cX1_restoreLast 4 = .ok (.ifCond .le 34, 3) := by decide +kernel
theorem dX1_restoreLast_7 : decode cX1_restoreLast 7 = .ok (.aload_n 0, 1) := by decide +kernel
theorem dX1_restoreLast_8 : decode cX1_restoreLast 8 = .ok (.dup, 1) := by decide +kernel
theorem dX1_restoreLast_9 : decode cX1_restoreLast 9 = .ok (.getfield 18, 3) := by decide +kernel
theorem dX1_restoreLast_12 : decode cX1_restoreLast 12 = .ok (.iconst 1, 1) := by decide +kernel
theorem dX1_restoreLast_13 : decode cX1_restoreLast 13 = .ok (.isub, 1) := by decide +kernel
theorem dX1_restoreLast_14 : decode cX1_restoreLast 14 = .ok (.putfield 18, 3) := by decide +kernel
theorem dX1_restoreLast_17 : decode cX1_restoreLast 17 = .ok (.aload_n 0, 1) := by decide +kernel
theorem dX1_restoreLast_18 : decode cX1_restoreLast 18 = .ok (.getfield 11, 3) := by decide +kernel
theorem dX1_restoreLast_21 : decode cX1_restoreLast 21 = .ok (.aload_n 0, 1) := by decide +kernel
theorem dX1_restoreLast_22 : decode cX1_restoreLast 22 = .ok (.getfield 22, 3) := by decide +kernel
theorem dX1_restoreLast_25 : decode cX1_restoreLast 25 = .ok (.aload_n 0, 1) := by decide +kernel
theorem dX1_restoreLast_26 : decode cX1_restoreLast 26 = .ok (.getfield 18, 3) := by decide +kernel
theorem dX1_restoreLast_29 : decode cX1_restoreLast 29 = .ok (.iadd, 1) := by decide +kernel
theorem dX1_restoreLast_30 : decode cX1_restoreLast 30 = .ok (.bipush 6, 2) := by decide +kernel
theorem dX1_restoreLast_32 : decode cX1_restoreLast 32 = .ok (.irem, 1) := by decide +kernel
theorem dX1_restoreLast_33 : decode cX1_restoreLast 33 = .ok (.aaload, 1) := by decide +kernel
theorem dX1_restoreLast_34 : decode cX1_restoreLast 34 = .ok (.aload_n 1, 1) := by decide +kernel
theorem dX1_restoreLast_35 : decode cX1_restoreLast 35 = .ok (.invokevirtual 29, 3) := by decide +kernel
theorem dX1_restoreLast_38 : decode cX1_restoreLast 38 = .ok (.return_, 1) := by decide +kernel
theorem dX2_number_0 : decode cX2_number 0 = .ok (.iload_n 0, 1) := by decide +kernel
theorem dX2_number_1 : decode cX2_number 1 = .ok (.ifCond .lt 19, 3) := by decide +kernel
theorem dX2_number_4 : decode cX2_number 4 = .ok (.iload_n 0, 1) := by decide +kernel
theorem dX2_number_5 : decode cX2_number 5 = .ok (.bipush 10, 2) := by decide +kernel
theorem dX2_number_7 : decode cX2_number 7 = .ok (.if_icmp .ge 13, 3) := by decide +kernel
theorem dX2_number_10 : decode cX2_number 10 = .ok (.iload_n 1, 1) := by decide +kernel
theorem dX2_number_11 : decode cX2_number 11 = .ok (.ifCond .lt 9, 3) := by decide +kernel
theorem dX2_number_14 : decode cX2_number 14 = .ok (.iload_n 1, 1) := by decide +kernel
theorem dX2_number_15 : decode cX2_number 15 = .ok (.bipush 10, 2) := by decide +kernel
theorem dX2_number_17 : decode cX2_number 17 = .ok (.if_icmp .lt 5, 3) := by decide +kernel
theorem dX2_number_20 : decode cX2_number 20 = .ok (.iconst (-1), 1) := by decide +kernel
theorem dX2_number_21 : decode cX2_number 21 = .ok (.ireturn, 1) := by decide +kernel
theorem dX2_number_22 : decode cX2_number 22 = .ok (.bipush 10, 2) := by decide +kernel
theorem dX2_number_24 : decode cX2_number 24 = .ok (.iload_n 1, 1) := by decide +kernel
theorem dX2_number_25 : decode cX2_number 25 = .ok (.imul, 1) := by decide +kernel
theorem dX2_number_26 : decode cX2_number 26 = .ok (.iload_n 0, 1) := by decide +kernel
theorem dX2_number_27 : decode cX2_number 27 = .ok (.iadd, 1) := by decide +kernel
theorem dX2_number_28 : decode cX2_number 28 = .ok (.ireturn, 1) := by decide +kernel
theorem dX2_isSite_0 : decode cX2_isSite 0 = .ok (.iload_n 0, 1) := by decide +kernel
theorem dX2_isSite_1 : decode cX2_isSite 1 = .ok (.ifCond .lt 13, 3) := by decide +kernel
theorem dX2_isSite_4 : decode cX2_isSite 4 = .ok (.iload_n 0, 1) := by decide +kernel
theorem dX2_isSite_5 : decode cX2_isSite 5 = .ok (.bipush 100, 2) := by decide +kernel
theorem dX2_isSite_7 : decode cX2_isSite 7 = .ok (.if_icmp .ge 7, 3) := by decide +kernel
theorem dX2_isSite_10 : decode cX2_isSite 10 = .ok (.iconst 1, 1) := by decide +kernel
theorem dX2_isSite_11 : decode cX2_isSite 11 = .ok (.goto 4, 3) := by decide +kernel
theorem dX2_isSite_14 : decode cX2_isSite 14 = .ok (.iconst 0, 1) := by decide +kernel
theorem dX2_isSite_15 : decode cX2_isSite 15 = .ok (.ireturn, 1) := by decide +kernel
theorem dX2_column_0 : decode cX2_column 0 = .ok (.iload_n 0, 1) := by decide +kernel
theorem dX2_column_1 : decode cX2_column 1 = .ok (.bipush 10, 2) := by decide +kernel
theorem dX2_column_3 : decode cX2_column 3 = .ok (.irem, 1) := by decide +kernel
theorem dX2_column_4 : decode cX2_column 4 = .ok (.ireturn, 1) := by decide +kernel
theorem dX2_row_0 : decode cX2_row 0 = .ok (.iload_n 0, 1) := by decide +kernel
theorem dX2_row_1 : decode cX2_row 1 = .ok (.bipush 10, 2) := by decide +kernel
theorem dX2_row_3 : decode cX2_row 3 = .ok (.idiv, 1) := by decide +kernel
theorem dX2_row_4 : decode cX2_row 4 = .ok (.ireturn, 1) := by decide +kernel
theorem dX2_neighbour_0 : decode cX2_neighbour 0 = .ok (.iload_n 1, 1) := by decide +kernel
theorem dX2_neighbour_1 : decode cX2_neighbour 1 = .ok (.ifCond .lt 8, 3) := by decide +kernel
theorem dX2_neighbour_4 : decode cX2_neighbour 4 = .ok (.iload_n 1, 1) := by decide +kernel
theorem dX2_neighbour_5 : decode cX2_neighbour 5 = .ok (.iconst 4, 1) := by decide +kernel
theorem dX2_neighbour_6 : decode cX2_neighbour 6 = .ok (.if_icmp .lt 5, 3) := by decide +kernel
theorem dX2_neighbour_9 : decode cX2_neighbour 9 = .ok (.iconst (-1), 1) := by decide +kernel
theorem dX2_neighbour_10 : decode cX2_neighbour 10 = .ok (.ireturn, 1) := by decide +kernel
theorem dX2_neighbour_11 : decode cX2_neighbour 11 = .ok (.iload_n 0, 1) := by decide +kernel
theorem dX2_neighbour_12 : decode cX2_neighbour 12 = .ok (.invokestatic 9, 3) := by decide +kernel
theorem dX2_neighbour_15 : decode cX2_neighbour 15 = .ok (.getstatic 15, 3) := by decide +kernel
theorem dX2_neighbour_18 : decode cX2_neighbour 18 = .ok (.iload_n 1, 1) := by decide +kernel
theorem dX2_neighbour_19 : decode cX2_neighbour 19 = .ok (.iaload, 1) := by decide +kernel
theorem dX2_neighbour_20 : decode cX2_neighbour 20 = .ok (.iadd, 1) := by decide +kernel
theorem dX2_neighbour_21 : decode cX2_neighbour 21 = .ok (.iload_n 0, 1) := by decide +kernel
theorem dX2_neighbour_22 : decode cX2_neighbour 22 = .ok (.invokestatic 19, 3) := by decide +kernel
theorem dX2_neighbour_25 : decode cX2_neighbour 25 = .ok (.getstatic 22, 3) := by decide +kernel
theorem dX2_neighbour_28 : decode cX2_neighbour 28 = .ok (.iload_n 1, 1) := by decide +kernel
theorem dX2_neighbour_29 : decode cX2_neighbour 29 = .ok (.iaload, 1) := by decide +kernel
theorem dX2_neighbour_30 : decode cX2_neighbour 30 = .ok (.iadd, 1) := by decide +kernel
theorem dX2_neighbour_31 : decode cX2_neighbour 31 = .ok (.invokestatic 25, 3) := by decide +kernel
theorem dX2_neighbour_34 : decode cX2_neighbour 34 = .ok (.ireturn, 1) := by decide +kernel
theorem dX2_direction_0 : decode cX2_direction 0 = .ok (.iconst 0, 1) := by decide +kernel
theorem dX2_direction_1 : decode cX2_direction 1 = .ok (.istore_n 2, 1) := by decide +kernel
theorem dX2_direction_2 : decode cX2_direction 2 = .ok (.iload_n 2, 1) := by decide +kernel
theorem dX2_direction_3 : decode cX2_direction 3 = .ok (.iconst 3, 1) := by decide +kernel
theorem dX2_direction_4 : decode cX2_direction 4 = .ok (.if_icmp .ge 20, 3) := by decide +kernel
theorem dX2_direction_7 : decode cX2_direction 7 = .ok (.iload_n 0, 1) := by decide +kernel
theorem dX2_direction_8 : decode cX2_direction 8 = .ok (.iload_n 2, 1) := by decide +kernel
theorem dX2_direction_9 : decode cX2_direction 9 = .ok (.invokestatic 29, 3) := by decide +kernel
theorem dX2_direction_12 : decode cX2_direction 12 = .ok (.iload_n 1, 1) := by decide +kernel
theorem dX2_direction_13 : decode cX2_direction 13 = .ok (.if_icmp .ne 5, 3) := by decide +kernel
theorem dX2_direction_16 : decode cX2_direction 16 = .ok (.iload_n 2, 1) := by decide +kernel
theorem dX2_direction_17 : decode cX2_direction 17 = .ok (.ireturn, 1) := by decide +kernel
theorem dX2_direction_18 : decode cX2_direction 18 = .ok (.iinc 2 1, 3) := by decide +kernel
theorem dX2_direction_21 : decode cX2_direction 21 = .ok (.goto (-19), 3) := by decide +kernel
theorem dX2_direction_24 : decode cX2_direction 24 = .ok (.iconst 3, 1) := by decide +kernel
theorem dX2_direction_25 : decode cX2_direction 25 = .ok (.ireturn, 1) := by decide +kernel
theorem dX2_squaredDistance_0 : decode cX2_squaredDistance 0 = .ok (.iload_n 0, 1) := by decide +kernel
theorem dX2_squaredDistance_1 : decode cX2_squaredDistance 1 = .ok (.invokestatic 9, 3) := by decide +kernel
theorem dX2_squaredDistance_4 : decode cX2_squaredDistance 4 = .ok (.iload_n 1, 1) := by decide +kernel
theorem dX2_squaredDistance_5 : decode cX2_squaredDistance 5 = .ok (.invokestatic 9, 3) := by decide +kernel
theorem dX2_squaredDistance_8 : decode cX2_squaredDistance 8 = .ok (.isub, 1) := by decide +kernel
theorem dX2_squaredDistance_9 : decode cX2_squaredDistance 9 = .ok (.istore_n 2, 1) := by decide +kernel
theorem dX2_squaredDistance_10 : decode cX2_squaredDistance 10 = .ok (.iload_n 0, 1) := by decide +kernel
theorem dX2_squaredDistance_11 : decode cX2_squaredDistance 11 = .ok (.invokestatic 19, 3) := by decide +kernel
theorem dX2_squaredDistance_14 : decode cX2_squaredDistance 14 = .ok (.iload_n 1, 1) := by decide +kernel
theorem dX2_squaredDistance_15 : decode cX2_squaredDistance 15 = .ok (.invokestatic 19, 3) := by decide +kernel
theorem dX2_squaredDistance_18 : decode cX2_squaredDistance 18 = .ok (.isub, 1) := by decide +kernel
theorem dX2_squaredDistance_19 : decode cX2_squaredDistance 19 = .ok (.istore_n 3, 1) := by decide +kernel
theorem dX2_squaredDistance_20 : decode cX2_squaredDistance 20 = .ok (.iload_n 2, 1) := by decide +kernel
theorem dX2_squaredDistance_21 : decode cX2_squaredDistance 21 = .ok (.iload_n 2, 1) := by decide +kernel
theorem dX2_squaredDistance_22 : decode cX2_squaredDistance 22 = .ok (.imul, 1) := by decide +kernel
theorem dX2_squaredDistance_23 : decode cX2_squaredDistance 23 = .ok (.iload_n 3, 1) := by decide +kernel
theorem dX2_squaredDistance_24 : decode cX2_squaredDistance 24 = .ok (.iload_n 3, 1) := by decide +kernel
theorem dX2_squaredDistance_25 : decode cX2_squaredDistance 25 = .ok (.imul, 1) := by decide +kernel
theorem dX2_squaredDistance_26 : decode cX2_squaredDistance 26 = .ok (.iadd, 1) := by decide +kernel
theorem dX2_squaredDistance_27 : decode cX2_squaredDistance 27 = .ok (.ireturn, 1) := by decide +kernel
theorem dX2_areNeighbours_0 : decode cX2_areNeighbours 0 = .ok (.iload_n 0, 1) := by decide +kernel
theorem dX2_areNeighbours_1 : decode cX2_areNeighbours 1 = .ok (.iload_n 1, 1) := by decide +kernel
theorem dX2_areNeighbours_2 : decode cX2_areNeighbours 2 = .ok (.invokestatic 32, 3) := by decide +kernel
theorem dX2_areNeighbours_5 : decode cX2_areNeighbours 5 = .ok (.iconst 1, 1) := by decide +kernel
theorem dX2_areNeighbours_6 : decode cX2_areNeighbours 6 = .ok (.if_icmp .ne 7, 3) := by decide +kernel
theorem dX2_areNeighbours_9 : decode cX2_areNeighbours 9 = .ok (.iconst 1, 1) := by decide +kernel
theorem dX2_areNeighbours_10 : decode cX2_areNeighbours 10 = .ok (.goto 4, 3) := by decide +kernel
theorem dX2_areNeighbours_13 : decode cX2_areNeighbours 13 = .ok (.iconst 0, 1) := by decide +kernel
theorem dX2_areNeighbours_14 : decode cX2_areNeighbours 14 = .ok (.ireturn, 1) := by decide +kernel
theorem dX3_init_0 : decode cX3_init 0 = .ok (.aload_n 0, 1) := by decide +kernel
theorem dX3_init_1 : decode cX3_init 1 = .ok (.invokespecial 3, 3) := by decide +kernel
theorem dX3_init_4 : decode cX3_init 4 = .ok (.aload_n 0, 1) := by decide +kernel
theorem dX3_init_5 : decode cX3_init 5 = .ok (.bipush 70, 2) := by decide +kernel
theorem dX3_init_7 : decode cX3_init 7 = .ok (.newarray .char, 2) := by decide +kernel
theorem dX3_init_9 : decode cX3_init 9 = .ok (.putfield 9, 3) := by decide +kernel
theorem dX3_init_12 : decode cX3_init 12 = .ok (.return_, 1) := by decide +kernel
theorem dX3_length_0 : decode cX3_length 0 = .ok (.aload_n 0, 1) := by decide +kernel
theorem dX3_length_1 : decode cX3_length 1 = .ok (.getfield 15, 3) := by decide +kernel
theorem dX3_length_4 : decode cX3_length 4 = .ok (.ireturn, 1) := by decide +kernel
theorem dX4_init_0 : decode cX4_init 0 = .ok (.aload_n 0, 1) := by decide +kernel
theorem dX4_init_1 : decode cX4_init 1 = .ok (.invokespecial 3, 3) := by decide +kernel
theorem dX4_init_4 : decode cX4_init 4 = .ok (.aload_n 0, 1) := by decide +kernel
theorem dX4_init_5 : decode cX4_init 5 = .ok (.bipush 100, 2) := by decide +kernel
theorem dX4_init_7 : decode cX4_init 7 = .ok (.newarray .int, 2) := by decide +kernel
theorem dX4_init_9 : decode cX4_init 9 = .ok (.putfield 9, 3) := by decide +kernel
theorem dX4_init_12 : decode cX4_init 12 = .ok (.aload_n 0, 1) := by decide +kernel
theorem dX4_init_13 : decode cX4_init 13 = .ok (.bipush 100, 2) := by decide +kernel
theorem dX4_init_15 : decode cX4_init 15 = .ok (.newarray .int, 2) := by decide +kernel
theorem dX4_init_17 : decode cX4_init 17 = .ok (.putfield 15, 3) := by decide +kernel
theorem dX4_init_20 : decode cX4_init 20 = .ok (.aload_n 0, 1) := by decide +kernel
theorem dX4_init_21 : decode cX4_init 21 = .ok (.bipush 100, 2) := by decide +kernel
theorem dX4_init_23 : decode cX4_init 23 = .ok (.newarray .boolean, 2) := by decide +kernel
theorem dX4_init_25 : decode cX4_init 25 = .ok (.putfield 18, 3) := by decide +kernel
theorem dX4_init_28 : decode cX4_init 28 = .ok (.aload_n 0, 1) := by decide +kernel
theorem dX4_init_29 : decode cX4_init 29 = .ok (.bipush 100, 2) := by decide +kernel
theorem dX4_init_31 : decode cX4_init 31 = .ok (.newarray .int, 2) := by decide +kernel
theorem dX4_init_33 : decode cX4_init 33 = .ok (.putfield 22, 3) := by decide +kernel
theorem dX4_init_36 : decode cX4_init 36 = .ok (.return_, 1) := by decide +kernel
theorem dX5_init_0 : decode cX5_init 0 = .ok (.aload_n 0, 1) := by decide +kernel
theorem dX5_init_1 : decode cX5_init 1 = .ok (.invokespecial 3, 3) := by decide +kernel
theorem dX5_init_4 : decode cX5_init 4 = .ok (.aload_n 0, 1) := by decide +kernel
theorem dX5_init_5 : decode cX5_init 5 = .ok (.bipush 100, 2) := by decide +kernel
theorem dX5_init_7 : decode cX5_init 7 = .ok (.newarray .int, 2) := by decide +kernel
theorem dX5_init_9 : decode cX5_init 9 = .ok (.putfield 9, 3) := by decide +kernel
theorem dX5_init_12 : decode cX5_init 12 = .ok (.aload_n 0, 1) := by decide +kernel
theorem dX5_init_13 : decode cX5_init 13 = .ok (.iconst 5, 1) := by decide +kernel
theorem dX5_init_14 : decode cX5_init 14 = .ok (.newarray .int, 2) := by decide +kernel
theorem dX5_init_16 : decode cX5_init 16 = .ok (.putfield 15, 3) := by decide +kernel
theorem dX5_init_19 : decode cX5_init 19 = .ok (.return_, 1) := by decide +kernel
theorem dX5_take_0 : decode cX5_take 0 = .ok (.iconst 0, 1) := by decide +kernel
theorem dX5_take_1 : decode cX5_take 1 = .ok (.istore_n 2, 1) := by decide +kernel
theorem dX5_take_2 : decode cX5_take 2 = .ok (.aload_n 0, 1) := by decide +kernel
theorem dX5_take_3 : decode cX5_take 3 = .ok (.aload_n 1, 1) := by decide +kernel
theorem dX5_take_4 : decode cX5_take 4 = .ok (.getfield 18, 3) := by decide +kernel
theorem dX5_take_7 : decode cX5_take 7 = .ok (.putfield 24, 3) := by decide +kernel
theorem dX5_take_10 : decode cX5_take 10 = .ok (.iconst 0, 1) := by decide +kernel
theorem dX5_take_11 : decode cX5_take 11 = .ok (.istore_n 3, 1) := by decide +kernel
theorem dX5_take_12 : decode cX5_take 12 = .ok (.iload_n 3, 1) := by decide +kernel
theorem dX5_take_13 : decode cX5_take 13 = .ok (.aload_n 0, 1) := by decide +kernel
theorem dX5_take_14 : decode cX5_take 14 = .ok (.getfield 24, 3) := by decide +kernel
theorem dX5_take_17 : decode cX5_take 17 = .ok (.if_icmp .ge 69, 3) := by decide +kernel
theorem dX5_take_20 : decode cX5_take 20 = .ok (.aload_n 1, 1) := by decide +kernel
theorem dX5_take_21 : decode cX5_take 21 = .ok (.getfield 25, 3) := by decide +kernel
theorem dX5_take_24 : decode cX5_take 24 = .ok (.iload_n 3, 1) := by decide +kernel
theorem dX5_take_25 : decode cX5_take 25 = .ok (.aaload, 1) := by decide +kernel
theorem dX5_take_26 : decode cX5_take 26 = .ok (.astore 4, 2) := by decide +kernel
theorem dX5_take_28 : decode cX5_take 28 = .ok (.aload_n 0, 1) := by decide +kernel
theorem dX5_take_29 : decode cX5_take 29 = .ok (.getfield 15, 3) := by decide +kernel
theorem dX5_take_32 : decode cX5_take 32 = .ok (.iload_n 3, 1) := by decide +kernel
theorem dX5_take_33 : decode cX5_take 33 = .ok (.aload 4, 2) := by decide +kernel
theorem dX5_take_35 : decode cX5_take 35 = .ok (.invokevirtual 29, 3) := by decide +kernel
theorem dX5_take_38 : decode cX5_take 38 = .ok (.iastore, 1) := by decide +kernel
theorem dX5_take_39 : decode cX5_take 39 = .ok (.iconst 0, 1) := by decide +kernel
theorem dX5_take_40 : decode cX5_take 40 = .ok (.istore 5, 2) := by decide +kernel
theorem dX5_take_42 : decode cX5_take 42 = .ok (.iload 5, 2) := by decide +kernel
theorem dX5_take_44 : decode cX5_take 44 = .ok (.aload 4, 2) := by decide +kernel
theorem dX5_take_46 : decode cX5_take 46 = .ok (.invokevirtual 29, 3) := by decide +kernel
theorem dX5_take_49 : decode cX5_take 49 = .ok (.if_icmp .ge 31, 3) := by decide +kernel
theorem dX5_take_52 : decode cX5_take 52 = .ok (.iload_n 2, 1) := by decide +kernel
theorem dX5_take_53 : decode cX5_take 53 = .ok (.bipush 100, 2) := by decide +kernel
theorem dX5_take_55 : decode cX5_take 55 = .ok (.if_icmp .ge 25, 3) := by decide +kernel
theorem dX5_take_58 : decode cX5_take 58 = .ok (.aload_n 0, 1) := by decide +kernel
theorem dX5_take_59 : decode cX5_take 59 = .ok (.getfield 9, 3) := by decide +kernel
theorem dX5_take_62 : decode cX5_take 62 = .ok (.iload_n 2, 1) := by decide +kernel
theorem dX5_take_63 : decode cX5_take 63 = .ok (.aload 4, 2) := by decide +kernel
theorem dX5_take_65 : decode cX5_take 65 = .ok (.iload 5, 2) := by decide +kernel
theorem dX5_take_67 : decode cX5_take 67 = .ok (.invokevirtual 35, 3) := by decide +kernel
theorem dX5_take_70 : decode cX5_take 70 = .ok (.iastore, 1) := by decide +kernel
theorem dX5_take_71 : decode cX5_take 71 = .ok (.iinc 2 1, 3) := by decide +kernel
theorem dX5_take_74 : decode cX5_take 74 = .ok (.iinc 5 1, 3) := by decide +kernel
theorem dX5_take_77 : decode cX5_take 77 = .ok (.goto (-35), 3) := by decide +kernel
theorem dX5_take_80 : decode cX5_take 80 = .ok (.iinc 3 1, 3) := by decide +kernel
theorem dX5_take_83 : decode cX5_take 83 = .ok (.goto (-71), 3) := by decide +kernel
theorem dX5_take_86 : decode cX5_take 86 = .ok (.aload_n 0, 1) := by decide +kernel
theorem dX5_take_87 : decode cX5_take 87 = .ok (.aload_n 1, 1) := by decide +kernel
theorem dX5_take_88 : decode cX5_take 88 = .ok (.getfield 39, 3) := by decide +kernel
theorem dX5_take_91 : decode cX5_take 91 = .ok (.putfield 42, 3) := by decide +kernel
theorem dX5_take_94 : decode cX5_take 94 = .ok (.aload_n 0, 1) := by decide +kernel
theorem dX5_take_95 : decode cX5_take 95 = .ok (.aload_n 1, 1) := by decide +kernel
theorem dX5_take_96 : decode cX5_take 96 = .ok (.getfield 43, 3) := by decide +kernel
theorem dX5_take_99 : decode cX5_take 99 = .ok (.putfield 46, 3) := by decide +kernel
theorem dX5_take_102 : decode cX5_take 102 = .ok (.aload_n 0, 1) := by decide +kernel
theorem dX5_take_103 : decode cX5_take 103 = .ok (.aload_n 1, 1) := by decide +kernel
theorem dX5_take_104 : decode cX5_take 104 = .ok (.getfield 47, 3) := by decide +kernel
theorem dX5_take_107 : decode cX5_take 107 = .ok (.putfield 50, 3) := by decide +kernel
theorem dX5_take_110 : decode cX5_take 110 = .ok (.return_, 1) := by decide +kernel
theorem dX5_putInto_0 : decode cX5_putInto 0 = .ok (.iconst 0, 1) := by decide +kernel
theorem dX5_putInto_1 : decode cX5_putInto 1 = .ok (.istore_n 2, 1) := by decide +kernel
theorem dX5_putInto_2 : decode cX5_putInto 2 = .ok (.aload_n 1, 1) := by decide +kernel
theorem dX5_putInto_3 : decode cX5_putInto 3 = .ok (.aload_n 0, 1) := by decide +kernel
theorem dX5_putInto_4 : decode cX5_putInto 4 = .ok (.getfield 24, 3) := by decide +kernel
theorem dX5_putInto_7 : decode cX5_putInto 7 = .ok (.putfield 18, 3) := by decide +kernel
theorem dX5_putInto_10 : decode cX5_putInto 10 = .ok (.iconst 0, 1) := by decide +kernel
theorem dX5_putInto_11 : decode cX5_putInto 11 = .ok (.istore_n 3, 1) := by decide +kernel
theorem dX5_putInto_12 : decode cX5_putInto 12 = .ok (.iload_n 3, 1) := by decide +kernel
theorem dX5_putInto_13 : decode cX5_putInto 13 = .ok (.aload_n 0, 1) := by decide +kernel
theorem dX5_putInto_14 : decode cX5_putInto 14 = .ok (.getfield 24, 3) := by decide +kernel
theorem dX5_putInto_17 : decode cX5_putInto 17 = .ok (.if_icmp .ge 62, 3) := by decide +kernel
theorem dX5_putInto_20 : decode cX5_putInto 20 = .ok (.aload_n 1, 1) := by decide +kernel
theorem dX5_putInto_21 : decode cX5_putInto 21 = .ok (.getfield 25, 3) := by decide +kernel
theorem dX5_putInto_24 : decode cX5_putInto 24 = .ok (.iload_n 3, 1) := by decide +kernel
theorem dX5_putInto_25 : decode cX5_putInto 25 = .ok (.aaload, 1) := by decide +kernel
theorem dX5_putInto_26 : decode cX5_putInto 26 = .ok (.astore 4, 2) := by decide +kernel
theorem dX5_putInto_28 : decode cX5_putInto 28 = .ok (.aload 4, 2) := by decide +kernel
theorem dX5_putInto_30 : decode cX5_putInto 30 = .ok (.invokevirtual 51, 3) := by decide +kernel
theorem dX5_putInto_33 : decode cX5_putInto 33 = .ok (.iconst 0, 1) := by decide +kernel
theorem dX5_putInto_34 : decode cX5_putInto 34 = .ok (.istore 5, 2) := by decide +kernel
theorem dX5_putInto_36 : decode cX5_putInto 36 = .ok (.iload 5, 2) := by decide +kernel
theorem dX5_putInto_38 : decode cX5_putInto 38 = .ok (.aload_n 0, 1) := by decide +kernel
theorem dX5_putInto_39 : decode cX5_putInto 39 = .ok (.getfield 15, 3) := by decide +kernel
theorem dX5_putInto_42 : decode cX5_putInto 42 = .ok (.iload_n 3, 1) := by decide +kernel
theorem dX5_putInto_43 : decode cX5_putInto 43 = .ok (.iaload, 1) := by decide +kernel
theorem dX5_putInto_44 : decode cX5_putInto 44 = .ok (.if_icmp .ge 29, 3) := by decide +kernel
theorem dX5_putInto_47 : decode cX5_putInto 47 = .ok (.iload_n 2, 1) := by decide +kernel
theorem dX5_putInto_48 : decode cX5_putInto 48 = .ok (.bipush 100, 2) := by decide +kernel
theorem dX5_putInto_50 : decode cX5_putInto 50 = .ok (.if_icmp .ge 23, 3) := by decide +kernel
theorem dX5_putInto_53 : decode cX5_putInto 53 = .ok (.aload 4, 2) := by decide +kernel
theorem dX5_putInto_55 : decode cX5_putInto 55 = .ok (.aload_n 0, 1) := by decide +kernel
theorem dX5_putInto_56 : decode cX5_putInto 56 = .ok (.getfield 9, 3) := by decide +kernel
theorem dX5_putInto_59 : decode cX5_putInto 59 = .ok (.iload_n 2, 1) := by decide +kernel
theorem dX5_putInto_60 : decode cX5_putInto 60 = .ok (.iaload, 1) := by decide +kernel
theorem dX5_putInto_61 : decode cX5_putInto 61 = .ok (.invokevirtual 54, 3) := by decide +kernel
theorem dX5_putInto_64 : decode cX5_putInto 64 = .ok (.iinc 2 1, 3) := by decide +kernel
theorem dX5_putInto_67 : decode cX5_putInto 67 = .ok (.iinc 5 1, 3) := by decide +kernel
theorem dX5_putInto_70 : decode cX5_putInto 70 = .ok (.goto (-34), 3) := by decide +kernel
theorem dX5_putInto_73 : decode cX5_putInto 73 = .ok (.iinc 3 1, 3) := by decide +kernel
theorem dX5_putInto_76 : decode cX5_putInto 76 = .ok (.goto (-64), 3) := by decide +kernel
theorem dX5_putInto_79 : decode cX5_putInto 79 = .ok (.aload_n 1, 1) := by decide +kernel
theorem dX5_putInto_80 : decode cX5_putInto 80 = .ok (.aload_n 0, 1) := by decide +kernel
theorem dX5_putInto_81 : decode cX5_putInto 81 = .ok (.getfield 42, 3) := by decide +kernel
theorem dX5_putInto_84 : decode cX5_putInto 84 = .ok (.putfield 39, 3) := by decide +kernel
theorem dX5_putInto_87 : decode cX5_putInto 87 = .ok (.aload_n 1, 1) := by decide +kernel
theorem dX5_putInto_88 : decode cX5_putInto 88 = .ok (.aload_n 0, 1) := by decide +kernel
theorem dX5_putInto_89 : decode cX5_putInto 89 = .ok (.getfield 46, 3) := by decide +kernel
theorem dX5_putInto_92 : decode cX5_putInto 92 = .ok (.putfield 43, 3) := by decide +kernel
theorem dX5_putInto_95 : decode cX5_putInto 95 = .ok (.aload_n 1, 1) := by decide +kernel
theorem dX5_putInto_96 : decode cX5_putInto 96 = .ok (.aload_n 0, 1) := by decide +kernel
theorem dX5_putInto_97 : decode cX5_putInto 97 = .ok (.getfield 50, 3) := by decide +kernel
theorem dX5_putInto_100 : decode cX5_putInto 100 = .ok (.putfield 47, 3) := by decide +kernel
theorem dX5_putInto_103 : decode cX5_putInto 103 = .ok (.aload_n 1, 1) := by decide +kernel
theorem dX5_putInto_104 : decode cX5_putInto 104 = .ok (.invokevirtual 58, 3) := by decide +kernel
theorem dX5_putInto_107 : decode cX5_putInto 107 = .ok (.return_, 1) := by decide +kernel
theorem dX6_init_0 : decode cX6_init 0 = .ok (.aload_n 0, 1) := by decide +kernel
theorem dX6_init_1 : decode cX6_init 1 = .ok (.invokespecial 3, 3) := by decide +kernel
theorem dX6_init_4 : decode cX6_init 4 = .ok (.aload_n 0, 1) := by decide +kernel
theorem dX6_init_5 : decode cX6_init 5 = .ok (.bipush 100, 2) := by decide +kernel
theorem dX6_init_7 : decode cX6_init 7 = .ok (.newarray .boolean, 2) := by decide +kernel
theorem dX6_init_9 : decode cX6_init 9 = .ok (.putfield 9, 3) := by decide +kernel
theorem dX6_init_12 : decode cX6_init 12 = .ok (.return_, 1) := by decide +kernel
theorem dX7_init_0 : decode cX7_init 0 = .ok (.aload_n 0, 1) := by decide +kernel
theorem dX7_init_1 : decode cX7_init 1 = .ok (.invokespecial 3, 3) := by decide +kernel
theorem dX7_init_4 : decode cX7_init 4 = .ok (.aload_n 0, 1) := by decide +kernel
theorem dX7_init_5 : decode cX7_init 5 = .ok (.bipush 60, 2) := by decide +kernel
theorem dX7_init_7 : decode cX7_init 7 = .ok (.newarray .int, 2) := by decide +kernel
theorem dX7_init_9 : decode cX7_init 9 = .ok (.putfield 9, 3) := by decide +kernel
theorem dX7_init_12 : decode cX7_init 12 = .ok (.aload_n 0, 1) := by decide +kernel
theorem dX7_init_13 : decode cX7_init 13 = .ok (.bipush 60, 2) := by decide +kernel
theorem dX7_init_15 : decode cX7_init 15 = .ok (.newarray .int, 2) := by decide +kernel
theorem dX7_init_17 : decode cX7_init 17 = .ok (.putfield 15, 3) := by decide +kernel
theorem dX7_init_20 : decode cX7_init 20 = .ok (.aload_n 0, 1) := by decide +kernel
theorem dX7_init_21 : decode cX7_init 21 = .ok (.bipush 60, 2) := by decide +kernel
theorem dX7_init_23 : decode cX7_init 23 = .ok (.newarray .int, 2) := by decide +kernel
theorem dX7_init_25 : decode cX7_init 25 = .ok (.putfield 18, 3) := by decide +kernel
theorem dX7_init_28 : decode cX7_init 28 = .ok (.aload_n 0, 1) := by decide +kernel
theorem dX7_init_29 : decode cX7_init 29 = .ok (.bipush 60, 2) := by decide +kernel
theorem dX7_init_31 : decode cX7_init 31 = .ok (.newarray .int, 2) := by decide +kernel
theorem dX7_init_33 : decode cX7_init 33 = .ok (.putfield 21, 3) := by decide +kernel
theorem dX7_init_36 : decode cX7_init 36 = .ok (.return_, 1) := by decide +kernel
theorem dX8_init_0 : decode cX8_init 0 = .ok (.aload_n 0, 1) := by decide +kernel
theorem dX8_init_1 : decode cX8_init 1 = .ok (.invokespecial 3, 3) := by decide +kernel
theorem dX8_init_4 : decode cX8_init 4 = .ok (.aload_n 0, 1) := by decide +kernel
theorem dX8_init_5 : decode cX8_init 5 = .ok (.iconst 2, 1) := by decide +kernel
theorem dX8_init_6 : decode cX8_init 6 = .ok (.anewarray 9, 3) := by decide +kernel
theorem dX8_init_9 : decode cX8_init 9 = .ok (.putfield 11, 3) := by decide +kernel
theorem dX8_init_12 : decode cX8_init 12 = .ok (.aload_n 0, 1) := by decide +kernel
theorem dX8_init_13 : decode cX8_init 13 = .ok (.iconst 2, 1) := by decide +kernel
theorem dX8_init_14 : decode cX8_init 14 = .ok (.newarray .boolean, 2) := by decide +kernel
theorem dX8_init_16 : decode cX8_init 16 = .ok (.putfield 17, 3) := by decide +kernel
theorem dX8_init_19 : decode cX8_init 19 = .ok (.iconst 0, 1) := by decide +kernel
theorem dX8_init_20 : decode cX8_init 20 = .ok (.istore_n 1, 1) := by decide +kernel
theorem dX8_init_21 : decode cX8_init 21 = .ok (.iload_n 1, 1) := by decide +kernel
theorem dX8_init_22 : decode cX8_init 22 = .ok (.iconst 2, 1) := by decide +kernel
theorem dX8_init_23 : decode cX8_init 23 = .ok (.if_icmp .ge 22, 3) := by decide +kernel
theorem dX8_init_26 : decode cX8_init 26 = .ok (.aload_n 0, 1) := by decide +kernel
theorem dX8_init_27 : decode cX8_init 27 = .ok (.getfield 11, 3) := by decide +kernel
theorem dX8_init_30 : decode cX8_init 30 = .ok (.iload_n 1, 1) := by decide +kernel
theorem dX8_init_31 : decode cX8_init 31 = .ok (.new 9, 3) := by decide +kernel
theorem dX8_init_34 : decode cX8_init 34 = .ok (.dup, 1) := by decide +kernel
theorem dX8_init_35 : decode cX8_init 35 = .ok (.invokespecial 21, 3) := by decide +kernel
theorem dX8_init_38 : decode cX8_init 38 = .ok (.aastore, 1) := by decide +kernel
theorem dX8_init_39 : decode cX8_init 39 = .ok (.iinc 1 1, 3) := by decide +kernel
theorem dX8_init_42 : decode cX8_init 42 = .ok (.goto (-21), 3) := by decide +kernel
theorem dX8_init_45 : decode cX8_init 45 = .ok (.return_, 1) := by decide +kernel
theorem dX9_init_0 : decode cX9_init 0 = .ok (.aload_n 0, 1) := by decide +kernel
theorem dX9_init_1 : decode cX9_init 1 = .ok (.invokespecial 3, 3) := by decide +kernel
theorem dX9_init_4 : decode cX9_init 4 = .ok (.aload_n 0, 1) := by decide +kernel
theorem dX9_init_5 : decode cX9_init 5 = .ok (.bipush 60, 2) := by decide +kernel
theorem dX9_init_7 : decode cX9_init 7 = .ok (.newarray .int, 2) := by decide +kernel
theorem dX9_init_9 : decode cX9_init 9 = .ok (.putfield 9, 3) := by decide +kernel
theorem dX9_init_12 : decode cX9_init 12 = .ok (.return_, 1) := by decide +kernel
theorem dX9_length_0 : decode cX9_length 0 = .ok (.aload_n 0, 1) := by decide +kernel
theorem dX9_length_1 : decode cX9_length 1 = .ok (.getfield 15, 3) := by decide +kernel
theorem dX9_length_4 : decode cX9_length 4 = .ok (.ireturn, 1) := by decide +kernel
theorem dX9_isFull_0 : decode cX9_isFull 0 = .ok (.aload_n 0, 1) := by decide +kernel
theorem dX9_isFull_1 : decode cX9_isFull 1 = .ok (.getfield 15, 3) := by decide +kernel
theorem dX9_isFull_4 : decode cX9_isFull 4 = .ok (.bipush 60, 2) := by decide +kernel
theorem dX9_isFull_6 : decode cX9_isFull 6 = .ok (.if_icmp .lt 7, 3) := by decide +kernel
theorem dX9_isFull_9 : decode cX9_isFull 9 = .ok (.iconst 1, 1) := by decide +kernel
theorem dX9_isFull_10 : decode cX9_isFull 10 = .ok (.goto 4, 3) := by decide +kernel
theorem dX9_isFull_13 : decode cX9_isFull 13 = .ok (.iconst 0, 1) := by decide +kernel
theorem dX9_isFull_14 : decode cX9_isFull 14 = .ok (.ireturn, 1) := by decide +kernel
theorem dX9_has_0 : decode cX9_has 0 = .ok (.iload_n 1, 1) := by decide +kernel
theorem dX9_has_1 : decode cX9_has 1 = .ok (.ifCond .lt 15, 3) := by decide +kernel
theorem dX9_has_4 : decode cX9_has 4 = .ok (.iload_n 1, 1) := by decide +kernel
theorem dX9_has_5 : decode cX9_has 5 = .ok (.aload_n 0, 1) := by decide +kernel
theorem dX9_has_6 : decode cX9_has 6 = .ok (.getfield 15, 3) := by decide +kernel
theorem dX9_has_9 : decode cX9_has 9 = .ok (.if_icmp .ge 7, 3) := by decide +kernel
theorem dX9_has_12 : decode cX9_has 12 = .ok (.iconst 1, 1) := by decide +kernel
theorem dX9_has_13 : decode cX9_has 13 = .ok (.goto 4, 3) := by decide +kernel
theorem dX9_has_16 : decode cX9_has 16 = .ok (.iconst 0, 1) := by decide +kernel
theorem dX9_has_17 : decode cX9_has 17 = .ok (.ireturn, 1) := by decide +kernel
theorem dX9_at_0 : decode cX9_at 0 = .ok (.aload_n 0, 1) := by decide +kernel
theorem dX9_at_1 : decode cX9_at 1 = .ok (.iload_n 1, 1) := by decide +kernel
theorem dX9_at_2 : decode cX9_at 2 = .ok (.invokevirtual 19, 3) := by decide +kernel
theorem dX9_at_5 : decode cX9_at 5 = .ok (.ifCond .eq 12, 3) := by decide +kernel
theorem dX9_at_8 : decode cX9_at 8 = .ok (.aload_n 0, 1) := by decide +kernel
theorem dX9_at_9 : decode cX9_at 9 = .ok (.getfield 9, 3) := by decide +kernel
theorem dX9_at_12 : decode cX9_at 12 = .ok (.iload_n 1, 1) := by decide +kernel
theorem dX9_at_13 : decode cX9_at 13 = .ok (.iaload, 1) := by decide +kernel
theorem dX9_at_14 : decode cX9_at 14 = .ok (.goto 4, 3) := by decide +kernel
theorem dX9_at_17 : decode cX9_at 17 = .ok (.iconst (-1), 1) := by decide +kernel
theorem dX9_at_18 : decode cX9_at 18 = .ok (.ireturn, 1) := by decide +kernel
theorem dX9_tail_0 : decode cX9_tail 0 = .ok (.aload_n 0, 1) := by decide +kernel
theorem dX9_tail_1 : decode cX9_tail 1 = .ok (.iconst 0, 1) := by decide +kernel
theorem dX9_tail_2 : decode cX9_tail 2 = .ok (.invokevirtual 23, 3) := by decide +kernel
theorem dX9_tail_5 : decode cX9_tail 5 = .ok (.ireturn, 1) := by decide +kernel
theorem dX9_head_0 : decode cX9_head 0 = .ok (.aload_n 0, 1) := by decide +kernel
theorem dX9_head_1 : decode cX9_head 1 = .ok (.aload_n 0, 1) := by decide +kernel
theorem dX9_head_2 : decode cX9_head 2 = .ok (.getfield 15, 3) := by decide +kernel
theorem dX9_head_5 : decode cX9_head 5 = .ok (.iconst 1, 1) := by decide +kernel
theorem dX9_head_6 : decode cX9_head 6 = .ok (.isub, 1) := by decide +kernel
theorem dX9_head_7 : decode cX9_head 7 = .ok (.invokevirtual 23, 3) := by decide +kernel
theorem dX9_head_10 : decode cX9_head 10 = .ok (.ireturn, 1) := by decide +kernel
theorem dX9_clear_0 : decode cX9_clear 0 = .ok (.aload_n 0, 1) := by decide +kernel
theorem dX9_clear_1 : decode cX9_clear 1 = .ok (.iconst 0, 1) := by decide +kernel
theorem dX9_clear_2 : decode cX9_clear 2 = .ok (.putfield 15, 3) := by decide +kernel
theorem dX9_clear_5 : decode cX9_clear 5 = .ok (.return_, 1) := by decide +kernel
theorem dX9_begin_0 : decode cX9_begin 0 = .ok (.aload_n 0, 1) := by decide +kernel
theorem dX9_begin_1 : decode cX9_begin 1 = .ok (.invokevirtual 27, 3) := by decide +kernel
theorem dX9_begin_4 : decode cX9_begin 4 = .ok (.aload_n 0, 1) := by decide +kernel
theorem dX9_begin_5 : decode cX9_begin 5 = .ok (.iload_n 1, 1) := by decide +kernel
theorem dX9_begin_6 : decode cX9_begin 6 = .ok (.invokevirtual 30, 3) := by decide +kernel
theorem dX9_begin_9 : decode cX9_begin 9 = .ok (.return_, 1) := by decide +kernel
theorem dX9_push_0 : decode cX9_push 0 = .ok (.aload_n 0, 1) := by decide +kernel
theorem dX9_push_1 : decode cX9_push 1 = .ok (.invokevirtual 34, 3) := by decide +kernel
theorem dX9_push_4 : decode cX9_push 4 = .ok (.ifCond .ne 23, 3) := by decide +kernel
theorem dX9_push_7 : decode cX9_push 7 = .ok (.aload_n 0, 1) := by decide +kernel
theorem dX9_push_8 : decode cX9_push 8 = .ok (.getfield 9, 3) := by decide +kernel
theorem dX9_push_11 : decode cX9_push 11 = .ok (.aload_n 0, 1) := by decide +kernel
theorem dX9_push_12 : decode cX9_push 12 = .ok (.getfield 15, 3) := by decide +kernel
theorem dX9_push_15 : decode cX9_push 15 = .ok (.iload_n 1, 1) := by decide +kernel
theorem dX9_push_16 : decode cX9_push 16 = .ok (.iastore, 1) := by decide +kernel
theorem dX9_push_17 : decode cX9_push 17 = .ok (.aload_n 0, 1) := by decide +kernel
theorem dX9_push_18 : decode cX9_push 18 = .ok (.dup, 1) := by decide +kernel
theorem dX9_push_19 : decode cX9_push 19 = .ok (.getfield 15, 3) := by decide +kernel
theorem dX9_push_22 : decode cX9_push 22 = .ok (.iconst 1, 1) := by decide +kernel
theorem dX9_push_23 : decode cX9_push 23 = .ok (.iadd, 1) := by decide +kernel
theorem dX9_push_24 : decode cX9_push 24 = .ok (.putfield 15, 3) := by decide +kernel
theorem dX9_push_27 : decode cX9_push 27 = .ok (.return_, 1) := by decide +kernel
theorem dX9_put_0 : decode cX9_put 0 = .ok (.aload_n 0, 1) := by decide +kernel
theorem dX9_put_1 : decode cX9_put 1 = .ok (.iload_n 1, 1) := by decide +kernel
theorem dX9_put_2 : decode cX9_put 2 = .ok (.invokevirtual 19, 3) := by decide +kernel
theorem dX9_put_5 : decode cX9_put 5 = .ok (.ifCond .eq 10, 3) := by decide +kernel
theorem dX9_put_8 : decode cX9_put 8 = .ok (.aload_n 0, 1) := by decide +kernel
theorem dX9_put_9 : decode cX9_put 9 = .ok (.getfield 9, 3) := by decide +kernel
theorem dX9_put_12 : decode cX9_put 12 = .ok (.iload_n 1, 1) := by decide +kernel
theorem dX9_put_13 : decode cX9_put 13 = .ok (.iload_n 2, 1) := by decide +kernel
theorem dX9_put_14 : decode cX9_put 14 = .ok (.iastore, 1) := by decide +kernel
theorem dX9_put_15 : decode cX9_put 15 = .ok (.return_, 1) := by decide +kernel
theorem dX9_endAt_0 : decode cX9_endAt 0 = .ok (.aload_n 0, 1) := by decide +kernel
theorem dX9_endAt_1 : decode cX9_endAt 1 = .ok (.iload_n 1, 1) := by decide +kernel
theorem dX9_endAt_2 : decode cX9_endAt 2 = .ok (.invokevirtual 19, 3) := by decide +kernel
theorem dX9_endAt_5 : decode cX9_endAt 5 = .ok (.ifCond .eq 10, 3) := by decide +kernel
theorem dX9_endAt_8 : decode cX9_endAt 8 = .ok (.aload_n 0, 1) := by decide +kernel
theorem dX9_endAt_9 : decode cX9_endAt 9 = .ok (.iload_n 1, 1) := by decide +kernel
theorem dX9_endAt_10 : decode cX9_endAt 10 = .ok (.iconst 1, 1) := by decide +kernel
theorem dX9_endAt_11 : decode cX9_endAt 11 = .ok (.iadd, 1) := by decide +kernel
theorem dX9_endAt_12 : decode cX9_endAt 12 = .ok (.putfield 15, 3) := by decide +kernel
theorem dX9_endAt_15 : decode cX9_endAt 15 = .ok (.return_, 1) := by decide +kernel
theorem dX9_advanceTo_0 : decode cX9_advanceTo 0 = .ok (.iconst 1, 1) := by decide +kernel
theorem dX9_advanceTo_1 : decode cX9_advanceTo 1 = .ok (.istore_n 2, 1) := by decide +kernel
theorem dX9_advanceTo_2 : decode cX9_advanceTo 2 = .ok (.iload_n 2, 1) := by decide +kernel
theorem dX9_advanceTo_3 : decode cX9_advanceTo 3 = .ok (.aload_n 0, 1) := by decide +kernel
theorem dX9_advanceTo_4 : decode cX9_advanceTo 4 = .ok (.getfield 15, 3) := by decide +kernel
theorem dX9_advanceTo_7 : decode cX9_advanceTo 7 = .ok (.if_icmp .ge 23, 3) := by decide +kernel
theorem dX9_advanceTo_10 : decode cX9_advanceTo 10 = .ok (.aload_n 0, 1) := by decide +kernel
theorem dX9_advanceTo_11 : decode cX9_advanceTo 11 = .ok (.getfield 9, 3) := by decide +kernel
theorem dX9_advanceTo_14 : decode cX9_advanceTo 14 = .ok (.iload_n 2, 1) := by decide +kernel
theorem dX9_advanceTo_15 : decode cX9_advanceTo 15 = .ok (.iconst 1, 1) := by decide +kernel
theorem dX9_advanceTo_16 : decode cX9_advanceTo 16 = .ok (.isub, 1) := by decide +kernel
theorem dX9_advanceTo_17 : decode cX9_advanceTo 17 = .ok (.aload_n 0, 1) := by decide +kernel
theorem dX9_advanceTo_18 : decode cX9_advanceTo 18 = .ok (.getfield 9, 3) := by decide +kernel
theorem dX9_advanceTo_21 : decode cX9_advanceTo 21 = .ok (.iload_n 2, 1) := by decide +kernel
theorem dX9_advanceTo_22 : decode cX9_advanceTo 22 = .ok (.iaload, 1) := by decide +kernel
theorem dX9_advanceTo_23 : decode cX9_advanceTo 23 = .ok (.iastore, 1) := by decide +kernel
theorem dX9_advanceTo_24 : decode cX9_advanceTo 24 = .ok (.iinc 2 1, 3) := by decide +kernel
theorem dX9_advanceTo_27 : decode cX9_advanceTo 27 = .ok (.goto (-25), 3) := by decide +kernel
theorem dX9_advanceTo_30 : decode cX9_advanceTo 30 = .ok (.aload_n 0, 1) := by decide +kernel
theorem dX9_advanceTo_31 : decode cX9_advanceTo 31 = .ok (.aload_n 0, 1) := by decide +kernel
theorem dX9_advanceTo_32 : decode cX9_advanceTo 32 = .ok (.getfield 15, 3) := by decide +kernel
theorem dX9_advanceTo_35 : decode cX9_advanceTo 35 = .ok (.iconst 1, 1) := by decide +kernel
theorem dX9_advanceTo_36 : decode cX9_advanceTo 36 = .ok (.isub, 1) := by decide +kernel
theorem dX9_advanceTo_37 : decode cX9_advanceTo 37 = .ok (.iload_n 1, 1) := by decide +kernel
theorem dX9_advanceTo_38 : decode cX9_advanceTo 38 = .ok (.invokevirtual 38, 3) := by decide +kernel
theorem dX9_advanceTo_41 : decode cX9_advanceTo 41 = .ok (.return_, 1) := by decide +kernel
theorem dX9_copyFrom_0 : decode cX9_copyFrom 0 = .ok (.aload_n 0, 1) := by decide +kernel
theorem dX9_copyFrom_1 : decode cX9_copyFrom 1 = .ok (.invokevirtual 27, 3) := by decide +kernel
theorem dX9_copyFrom_4 : decode cX9_copyFrom 4 = .ok (.iload_n 2, 1) := by decide +kernel
theorem dX9_copyFrom_5 : decode cX9_copyFrom 5 = .ok (.istore_n 3, 1) := by decide +kernel
theorem dX9_copyFrom_6 : decode cX9_copyFrom 6 = .ok (.iload_n 3, 1) := by decide +kernel
theorem dX9_copyFrom_7 : decode cX9_copyFrom 7 = .ok (.aload_n 1, 1) := by decide +kernel
theorem dX9_copyFrom_8 : decode cX9_copyFrom 8 = .ok (.getfield 15, 3) := by decide +kernel
theorem dX9_copyFrom_11 : decode cX9_copyFrom 11 = .ok (.if_icmp .ge 18, 3) := by decide +kernel
theorem dX9_copyFrom_14 : decode cX9_copyFrom 14 = .ok (.aload_n 0, 1) := by decide +kernel
theorem dX9_copyFrom_15 : decode cX9_copyFrom 15 = .ok (.aload_n 1, 1) := by decide +kernel
theorem dX9_copyFrom_16 : decode cX9_copyFrom 16 = .ok (.iload_n 3, 1) := by decide +kernel
theorem dX9_copyFrom_17 : decode cX9_copyFrom 17 = .ok (.invokevirtual 23, 3) := by decide +kernel
theorem dX9_copyFrom_20 : decode cX9_copyFrom 20 = .ok (.invokevirtual 30, 3) := by decide +kernel
theorem dX9_copyFrom_23 : decode cX9_copyFrom 23 = .ok (.iinc 3 1, 3) := by decide +kernel
theorem dX9_copyFrom_26 : decode cX9_copyFrom 26 = .ok (.goto (-20), 3) := by decide +kernel
theorem dX9_copyFrom_29 : decode cX9_copyFrom 29 = .ok (.return_, 1) := by decide +kernel
theorem dX9_flip_0 : decode cX9_flip 0 = .ok (.iconst 0, 1) := by decide +kernel
theorem dX9_flip_1 : decode cX9_flip 1 = .ok (.istore_n 1, 1) := by decide +kernel
theorem dX9_flip_2 : decode cX9_flip 2 = .ok (.aload_n 0, 1) := by decide +kernel
theorem dX9_flip_3 : decode cX9_flip 3 = .ok (.getfield 15, 3) := by decide +kernel
theorem dX9_flip_6 : decode cX9_flip 6 = .ok (.iconst 1, 1) := by decide +kernel
theorem dX9_flip_7 : decode cX9_flip 7 = .ok (.isub, 1) := by decide +kernel
theorem dX9_flip_8 : decode cX9_flip 8 = .ok (.istore_n 2, 1) := by decide +kernel
theorem dX9_flip_9 : decode cX9_flip 9 = .ok (.iload_n 1, 1) := by decide +kernel
theorem dX9_flip_10 : decode cX9_flip 10 = .ok (.iload_n 2, 1) := by decide +kernel
theorem dX9_flip_11 : decode cX9_flip 11 = .ok (.if_icmp .ge 38, 3) := by decide +kernel
theorem dX9_flip_14 : decode cX9_flip 14 = .ok (.aload_n 0, 1) := by decide +kernel
theorem dX9_flip_15 : decode cX9_flip 15 = .ok (.getfield 9, 3) := by decide +kernel
theorem dX9_flip_18 : decode cX9_flip 18 = .ok (.iload_n 1, 1) := by decide +kernel
theorem dX9_flip_19 : decode cX9_flip 19 = .ok (.iaload, 1) := by decide +kernel
theorem dX9_flip_20 : decode cX9_flip 20 = .ok (.istore_n 3, 1) := by decide +kernel
theorem dX9_flip_21 : decode cX9_flip 21 = .ok (.aload_n 0, 1) := by decide +kernel
theorem dX9_flip_22 : decode cX9_flip 22 = .ok (.getfield 9, 3) := by decide +kernel
theorem dX9_flip_25 : decode cX9_flip 25 = .ok (.iload_n 1, 1) := by decide +kernel
theorem dX9_flip_26 : decode cX9_flip 26 = .ok (.aload_n 0, 1) := by decide +kernel
theorem dX9_flip_27 : decode cX9_flip 27 = .ok (.getfield 9, 3) := by decide +kernel
theorem dX9_flip_30 : decode cX9_flip 30 = .ok (.iload_n 2, 1) := by decide +kernel
theorem dX9_flip_31 : decode cX9_flip 31 = .ok (.iaload, 1) := by decide +kernel
theorem dX9_flip_32 : decode cX9_flip 32 = .ok (.iastore, 1) := by decide +kernel
theorem dX9_flip_33 : decode cX9_flip 33 = .ok (.aload_n 0, 1) := by decide +kernel
theorem dX9_flip_34 : decode cX9_flip 34 = .ok (.getfield 9, 3) := by decide +kernel
theorem dX9_flip_37 : decode cX9_flip 37 = .ok (.iload_n 2, 1) := by decide +kernel
theorem dX9_flip_38 : decode cX9_flip 38 = .ok (.iload_n 3, 1) := by decide +kernel
theorem dX9_flip_39 : decode cX9_flip 39 = .ok (.iastore, 1) := by decide +kernel
theorem dX9_flip_40 : decode cX9_flip 40 = .ok (.iinc 1 1, 3) := by decide +kernel
theorem dX9_flip_43 : decode cX9_flip 43 = .ok (.iinc 2 (-1), 3) := by decide +kernel
theorem dX9_flip_46 : decode cX9_flip 46 = .ok (.goto (-37), 3) := by decide +kernel
theorem dX9_flip_49 : decode cX9_flip 49 = .ok (.return_, 1) := by decide +kernel
theorem dX9_steps_0 : decode cX9_steps 0 = .ok (.aload_n 0, 1) := by decide +kernel
theorem dX9_steps_1 : decode cX9_steps 1 = .ok (.getfield 15, 3) := by decide +kernel
theorem dX9_steps_4 : decode cX9_steps 4 = .ok (.iconst 1, 1) := by decide +kernel
theorem dX9_steps_5 : decode cX9_steps 5 = .ok (.isub, 1) := by decide +kernel
theorem dX9_steps_6 : decode cX9_steps 6 = .ok (.ireturn, 1) := by decide +kernel
theorem dX9_stepAt_0 : decode cX9_stepAt 0 = .ok (.aload_n 0, 1) := by decide +kernel
theorem dX9_stepAt_1 : decode cX9_stepAt 1 = .ok (.iload_n 1, 1) := by decide +kernel
theorem dX9_stepAt_2 : decode cX9_stepAt 2 = .ok (.invokevirtual 23, 3) := by decide +kernel
theorem dX9_stepAt_5 : decode cX9_stepAt 5 = .ok (.aload_n 0, 1) := by decide +kernel
theorem dX9_stepAt_6 : decode cX9_stepAt 6 = .ok (.iload_n 1, 1) := by decide +kernel
theorem dX9_stepAt_7 : decode cX9_stepAt 7 = .ok (.iconst 1, 1) := by decide +kernel
theorem dX9_stepAt_8 : decode cX9_stepAt 8 = .ok (.iadd, 1) := by decide +kernel
theorem dX9_stepAt_9 : decode cX9_stepAt 9 = .ok (.invokevirtual 23, 3) := by decide +kernel
theorem dX9_stepAt_12 : decode cX9_stepAt 12 = .ok (.invokestatic 42, 3) := by decide +kernel
theorem dX9_stepAt_15 : decode cX9_stepAt 15 = .ok (.ireturn, 1) := by decide +kernel
theorem dX9_corners_0 : decode cX9_corners 0 = .ok (.iconst 0, 1) := by decide +kernel
theorem dX9_corners_1 : decode cX9_corners 1 = .ok (.istore_n 1, 1) := by decide +kernel
theorem dX9_corners_2 : decode cX9_corners 2 = .ok (.iconst 1, 1) := by decide +kernel
theorem dX9_corners_3 : decode cX9_corners 3 = .ok (.istore_n 2, 1) := by decide +kernel
theorem dX9_corners_4 : decode cX9_corners 4 = .ok (.iload_n 2, 1) := by decide +kernel
theorem dX9_corners_5 : decode cX9_corners 5 = .ok (.aload_n 0, 1) := by decide +kernel
theorem dX9_corners_6 : decode cX9_corners 6 = .ok (.invokevirtual 48, 3) := by decide +kernel
theorem dX9_corners_9 : decode cX9_corners 9 = .ok (.if_icmp .ge 27, 3) := by decide +kernel
theorem dX9_corners_12 : decode cX9_corners 12 = .ok (.aload_n 0, 1) := by decide +kernel
theorem dX9_corners_13 : decode cX9_corners 13 = .ok (.iload_n 2, 1) := by decide +kernel
theorem dX9_corners_14 : decode cX9_corners 14 = .ok (.invokevirtual 52, 3) := by decide +kernel
theorem dX9_corners_17 : decode cX9_corners 17 = .ok (.aload_n 0, 1) := by decide +kernel
theorem dX9_corners_18 : decode cX9_corners 18 = .ok (.iload_n 2, 1) := by decide +kernel
theorem dX9_corners_19 : decode cX9_corners 19 = .ok (.iconst 1, 1) := by decide +kernel
theorem dX9_corners_20 : decode cX9_corners 20 = .ok (.isub, 1) := by decide +kernel
theorem dX9_corners_21 : decode cX9_corners 21 = .ok (.invokevirtual 52, 3) := by decide +kernel
theorem dX9_corners_24 : decode cX9_corners 24 = .ok (.if_icmp .eq 6, 3) := by decide +kernel
theorem dX9_corners_27 : decode cX9_corners 27 = .ok (.iinc 1 1, 3) := by decide +kernel
theorem dX9_corners_30 : decode cX9_corners 30 = .ok (.iinc 2 1, 3) := by decide +kernel
theorem dX9_corners_33 : decode cX9_corners 33 = .ok (.goto (-29), 3) := by decide +kernel
theorem dX9_corners_36 : decode cX9_corners 36 = .ok (.iload_n 1, 1) := by decide +kernel
theorem dX9_corners_37 : decode cX9_corners 37 = .ok (.ireturn, 1) := by decide +kernel
theorem dX9_width_0 : decode cX9_width 0 = .ok (.bipush 10, 2) := by decide +kernel
theorem dX9_width_2 : decode cX9_width 2 = .ok (.istore_n 1, 1) := by decide +kernel
theorem dX9_width_3 : decode cX9_width 3 = .ok (.iconst 0, 1) := by decide +kernel
theorem dX9_width_4 : decode cX9_width 4 = .ok (.istore_n 2, 1) := by decide +kernel
theorem dX9_width_5 : decode cX9_width 5 = .ok (.iconst 0, 1) := by decide +kernel
theorem dX9_width_6 : decode cX9_width 6 = .ok (.istore_n 3, 1) := by decide +kernel
theorem dX9_width_7 : decode cX9_width 7 = .ok (.iload_n 3, 1) := by decide +kernel
theorem dX9_width_8 : decode cX9_width 8 = .ok (.aload_n 0, 1) := by decide +kernel
theorem dX9_width_9 : decode cX9_width 9 = .ok (.getfield 15, 3) := by decide +kernel
theorem dX9_width_12 : decode cX9_width 12 = .ok (.if_icmp .ge 37, 3) := by decide +kernel
theorem dX9_width_15 : decode cX9_width 15 = .ok (.iload_n 1, 1) := by decide +kernel
theorem dX9_width_16 : decode cX9_width 16 = .ok (.aload_n 0, 1) := by decide +kernel
theorem dX9_width_17 : decode cX9_width 17 = .ok (.getfield 9, 3) := by decide +kernel
theorem dX9_width_20 : decode cX9_width 20 = .ok (.iload_n 3, 1) := by decide +kernel
theorem dX9_width_21 : decode cX9_width 21 = .ok (.iaload, 1) := by decide +kernel
theorem dX9_width_22 : decode cX9_width 22 = .ok (.invokestatic 55, 3) := by decide +kernel
theorem dX9_width_25 : decode cX9_width 25 = .ok (.invokestatic 58, 3) := by decide +kernel
theorem dX9_width_28 : decode cX9_width 28 = .ok (.istore_n 1, 1) := by decide +kernel
theorem dX9_width_29 : decode cX9_width 29 = .ok (.iload_n 2, 1) := by decide +kernel
theorem dX9_width_30 : decode cX9_width 30 = .ok (.aload_n 0, 1) := by decide +kernel
theorem dX9_width_31 : decode cX9_width 31 = .ok (.getfield 9, 3) := by decide +kernel
theorem dX9_width_34 : decode cX9_width 34 = .ok (.iload_n 3, 1) := by decide +kernel
theorem dX9_width_35 : decode cX9_width 35 = .ok (.iaload, 1) := by decide +kernel
theorem dX9_width_36 : decode cX9_width 36 = .ok (.invokestatic 55, 3) := by decide +kernel
theorem dX9_width_39 : decode cX9_width 39 = .ok (.invokestatic 63, 3) := by decide +kernel
theorem dX9_width_42 : decode cX9_width 42 = .ok (.istore_n 2, 1) := by decide +kernel
theorem dX9_width_43 : decode cX9_width 43 = .ok (.iinc 3 1, 3) := by decide +kernel
theorem dX9_width_46 : decode cX9_width 46 = .ok (.goto (-39), 3) := by decide +kernel
theorem dX9_width_49 : decode cX9_width 49 = .ok (.iload_n 2, 1) := by decide +kernel
theorem dX9_width_50 : decode cX9_width 50 = .ok (.iload_n 1, 1) := by decide +kernel
theorem dX9_width_51 : decode cX9_width 51 = .ok (.isub, 1) := by decide +kernel
theorem dX9_width_52 : decode cX9_width 52 = .ok (.iconst 1, 1) := by decide +kernel
theorem dX9_width_53 : decode cX9_width 53 = .ok (.iadd, 1) := by decide +kernel
theorem dX9_width_54 : decode cX9_width 54 = .ok (.ireturn, 1) := by decide +kernel
theorem dX9_height_0 : decode cX9_height 0 = .ok (.bipush 10, 2) := by decide +kernel
theorem dX9_height_2 : decode cX9_height 2 = .ok (.istore_n 1, 1) := by decide +kernel
theorem dX9_height_3 : decode cX9_height 3 = .ok (.iconst 0, 1) := by decide +kernel
theorem dX9_height_4 : decode cX9_height 4 = .ok (.istore_n 2, 1) := by decide +kernel
theorem dX9_height_5 : decode cX9_height 5 = .ok (.iconst 0, 1) := by decide +kernel
theorem dX9_height_6 : decode cX9_height 6 = .ok (.istore_n 3, 1) := by decide +kernel
theorem dX9_height_7 : decode cX9_height 7 = .ok (.iload_n 3, 1) := by decide +kernel
theorem dX9_height_8 : decode cX9_height 8 = .ok (.aload_n 0, 1) := by decide +kernel
theorem dX9_height_9 : decode cX9_height 9 = .ok (.getfield 15, 3) := by decide +kernel
theorem dX9_height_12 : decode cX9_height 12 = .ok (.if_icmp .ge 37, 3) := by decide +kernel
theorem dX9_height_15 : decode cX9_height 15 = .ok (.iload_n 1, 1) := by decide +kernel
theorem dX9_height_16 : decode cX9_height 16 = .ok (.aload_n 0, 1) := by decide +kernel
theorem dX9_height_17 : decode cX9_height 17 = .ok (.getfield 9, 3) := by decide +kernel
theorem dX9_height_20 : decode cX9_height 20 = .ok (.iload_n 3, 1) := by decide +kernel
theorem dX9_height_21 : decode cX9_height 21 = .ok (.iaload, 1) := by decide +kernel
theorem dX9_height_22 : decode cX9_height 22 = .ok (.invokestatic 66, 3) := by decide +kernel
theorem dX9_height_25 : decode cX9_height 25 = .ok (.invokestatic 58, 3) := by decide +kernel
theorem dX9_height_28 : decode cX9_height 28 = .ok (.istore_n 1, 1) := by decide +kernel
theorem dX9_height_29 : decode cX9_height 29 = .ok (.iload_n 2, 1) := by decide +kernel
theorem dX9_height_30 : decode cX9_height 30 = .ok (.aload_n 0, 1) := by decide +kernel
theorem dX9_height_31 : decode cX9_height 31 = .ok (.getfield 9, 3) := by decide +kernel
theorem dX9_height_34 : decode cX9_height 34 = .ok (.iload_n 3, 1) := by decide +kernel
theorem dX9_height_35 : decode cX9_height 35 = .ok (.iaload, 1) := by decide +kernel
theorem dX9_height_36 : decode cX9_height 36 = .ok (.invokestatic 66, 3) := by decide +kernel
theorem dX9_height_39 : decode cX9_height 39 = .ok (.invokestatic 63, 3) := by decide +kernel
theorem dX9_height_42 : decode cX9_height 42 = .ok (.istore_n 2, 1) := by decide +kernel
theorem dX9_height_43 : decode cX9_height 43 = .ok (.iinc 3 1, 3) := by decide +kernel
theorem dX9_height_46 : decode cX9_height 46 = .ok (.goto (-39), 3) := by decide +kernel
theorem dX9_height_49 : decode cX9_height 49 = .ok (.iload_n 2, 1) := by decide +kernel
theorem dX9_height_50 : decode cX9_height 50 = .ok (.iload_n 1, 1) := by decide +kernel
theorem dX9_height_51 : decode cX9_height 51 = .ok (.isub, 1) := by decide +kernel
theorem dX9_height_52 : decode cX9_height 52 = .ok (.iconst 1, 1) := by decide +kernel
theorem dX9_height_53 : decode cX9_height 53 = .ok (.iadd, 1) := by decide +kernel
theorem dX9_height_54 : decode cX9_height 54 = .ok (.ireturn, 1) := by decide +kernel
theorem dX9_moment_0 : decode cX9_moment 0 = .ok (.iconst 0, 1) := by decide +kernel
theorem dX9_moment_1 : decode cX9_moment 1 = .ok (.istore_n 1, 1) := by decide +kernel
theorem dX9_moment_2 : decode cX9_moment 2 = .ok (.iconst 0, 1) := by decide +kernel
theorem dX9_moment_3 : decode cX9_moment 3 = .ok (.istore_n 2, 1) := by decide +kernel
theorem dX9_moment_4 : decode cX9_moment 4 = .ok (.iconst 0, 1) := by decide +kernel
theorem dX9_moment_5 : decode cX9_moment 5 = .ok (.istore_n 3, 1) := by decide +kernel
theorem dX9_moment_6 : decode cX9_moment 6 = .ok (.iconst 0, 1) := by decide +kernel
theorem dX9_moment_7 : decode cX9_moment 7 = .ok (.istore 4, 2) := by decide +kernel
theorem dX9_moment_9 : decode cX9_moment 9 = .ok (.iload 4, 2) := by decide +kernel
theorem dX9_moment_11 : decode cX9_moment 11 = .ok (.aload_n 0, 1) := by decide +kernel
theorem dX9_moment_12 : decode cX9_moment 12 = .ok (.getfield 15, 3) := by decide +kernel
theorem dX9_moment_15 : decode cX9_moment 15 = .ok (.if_icmp .ge 57, 3) := by decide +kernel
theorem dX9_moment_18 : decode cX9_moment 18 = .ok (.aload_n 0, 1) := by decide +kernel
theorem dX9_moment_19 : decode cX9_moment 19 = .ok (.getfield 9, 3) := by decide +kernel
theorem dX9_moment_22 : decode cX9_moment 22 = .ok (.iload 4, 2) := by decide +kernel
theorem dX9_moment_24 : decode cX9_moment 24 = .ok (.iaload, 1) := by decide +kernel
theorem dX9_moment_25 : decode cX9_moment 25 = .ok (.invokestatic 55, 3) := by decide +kernel
theorem dX9_moment_28 : decode cX9_moment 28 = .ok (.istore 5, 2) := by decide +kernel
theorem dX9_moment_30 : decode cX9_moment 30 = .ok (.aload_n 0, 1) := by decide +kernel
theorem dX9_moment_31 : decode cX9_moment 31 = .ok (.getfield 9, 3) := by decide +kernel
theorem dX9_moment_34 : decode cX9_moment 34 = .ok (.iload 4, 2) := by decide +kernel
theorem dX9_moment_36 : decode cX9_moment 36 = .ok (.iaload, 1) := by decide +kernel
theorem dX9_moment_37 : decode cX9_moment 37 = .ok (.invokestatic 66, 3) := by decide +kernel
theorem dX9_moment_40 : decode cX9_moment 40 = .ok (.istore 6, 2) := by decide +kernel
theorem dX9_moment_42 : decode cX9_moment 42 = .ok (.iload_n 1, 1) := by decide +kernel
theorem dX9_moment_43 : decode cX9_moment 43 = .ok (.iload 5, 2) := by decide +kernel
theorem dX9_moment_45 : decode cX9_moment 45 = .ok (.iadd, 1) := by decide +kernel
theorem dX9_moment_46 : decode cX9_moment 46 = .ok (.istore_n 1, 1) := by decide +kernel
theorem dX9_moment_47 : decode cX9_moment 47 = .ok (.iload_n 2, 1) := by decide +kernel
theorem dX9_moment_48 : decode cX9_moment 48 = .ok (.iload 6, 2) := by decide +kernel
theorem dX9_moment_50 : decode cX9_moment 50 = .ok (.iadd, 1) := by decide +kernel
theorem dX9_moment_51 : decode cX9_moment 51 = .ok (.istore_n 2, 1) := by decide +kernel
theorem dX9_moment_52 : decode cX9_moment 52 = .ok (.iload_n 3, 1) := by decide +kernel
theorem dX9_moment_53 : decode cX9_moment 53 = .ok (.iload 5, 2) := by decide +kernel
theorem dX9_moment_55 : decode cX9_moment 55 = .ok (.iload 5, 2) := by decide +kernel
theorem dX9_moment_57 : decode cX9_moment 57 = .ok (.imul, 1) := by decide +kernel
theorem dX9_moment_58 : decode cX9_moment 58 = .ok (.iload 6, 2) := by decide +kernel
theorem dX9_moment_60 : decode cX9_moment 60 = .ok (.iload 6, 2) := by decide +kernel
theorem dX9_moment_62 : decode cX9_moment 62 = .ok (.imul, 1) := by decide +kernel
theorem dX9_moment_63 : decode cX9_moment 63 = .ok (.iadd, 1) := by decide +kernel
theorem dX9_moment_64 : decode cX9_moment 64 = .ok (.iadd, 1) := by decide +kernel
theorem dX9_moment_65 : decode cX9_moment 65 = .ok (.istore_n 3, 1) := by decide +kernel
theorem dX9_moment_66 : decode cX9_moment 66 = .ok (.iinc 4 1, 3) := by decide +kernel
theorem dX9_moment_69 : decode cX9_moment 69 = .ok (.goto (-60), 3) := by decide +kernel
theorem dX9_moment_72 : decode cX9_moment 72 = .ok (.aload_n 0, 1) := by decide +kernel
theorem dX9_moment_73 : decode cX9_moment 73 = .ok (.getfield 15, 3) := by decide +kernel
theorem dX9_moment_76 : decode cX9_moment 76 = .ok (.iload_n 3, 1) := by decide +kernel
theorem dX9_moment_77 : decode cX9_moment 77 = .ok (.imul, 1) := by decide +kernel
theorem dX9_moment_78 : decode cX9_moment 78 = .ok (.iload_n 1, 1) := by decide +kernel
theorem dX9_moment_79 : decode cX9_moment 79 = .ok (.iload_n 1, 1) := by decide +kernel
theorem dX9_moment_80 : decode cX9_moment 80 = .ok (.imul, 1) := by decide +kernel
theorem dX9_moment_81 : decode cX9_moment 81 = .ok (.isub, 1) := by decide +kernel
theorem dX9_moment_82 : decode cX9_moment 82 = .ok (.iload_n 2, 1) := by decide +kernel
theorem dX9_moment_83 : decode cX9_moment 83 = .ok (.iload_n 2, 1) := by decide +kernel
theorem dX9_moment_84 : decode cX9_moment 84 = .ok (.imul, 1) := by decide +kernel
theorem dX9_moment_85 : decode cX9_moment 85 = .ok (.isub, 1) := by decide +kernel
theorem dX9_moment_86 : decode cX9_moment 86 = .ok (.ireturn, 1) := by decide +kernel
theorem dX10_init_0 : decode cX10_init 0 = .ok (.aload_n 0, 1) := by decide +kernel
theorem dX10_init_1 : decode cX10_init 1 = .ok (.invokespecial 3, 3) := by decide +kernel
theorem dX10_init_4 : decode cX10_init 4 = .ok (.aload_n 0, 1) := by decide +kernel
theorem dX10_init_5 : decode cX10_init 5 = .ok (.bipush 60, 2) := by decide +kernel
theorem dX10_init_7 : decode cX10_init 7 = .ok (.newarray .int, 2) := by decide +kernel
theorem dX10_init_9 : decode cX10_init 9 = .ok (.putfield 9, 3) := by decide +kernel
theorem dX10_init_12 : decode cX10_init 12 = .ok (.return_, 1) := by decide +kernel
theorem dX10_refusal_0 : decode cX10_refusal 0 = .ok (.aload_n 1, 1) := by decide +kernel
theorem dX10_refusal_1 : decode cX10_refusal 1 = .ok (.iload_n 2, 1) := by decide +kernel
theorem dX10_refusal_2 : decode cX10_refusal 2 = .ok (.invokevirtual 15, 3) := by decide +kernel
theorem dX10_refusal_5 : decode cX10_refusal 5 = .ok (.astore 5, 2) := by decide +kernel
theorem dX10_refusal_7 : decode cX10_refusal 7 = .ok (.aload_n 0, 1) := by decide +kernel
theorem dX10_refusal_8 : decode cX10_refusal 8 = .ok (.aload 5, 2) := by decide +kernel
theorem dX10_refusal_10 : decode cX10_refusal 10 = .ok (.iload_n 3, 1) := by decide +kernel
theorem dX10_refusal_11 : decode cX10_refusal 11 = .ok (.iload 4, 2) := by decide +kernel
theorem dX10_refusal_13 : decode cX10_refusal 13 = .ok (.invokevirtual 21, 3) := by decide +kernel
theorem dX10_refusal_16 : decode cX10_refusal 16 = .ok (.ifCond .ne 5, 3) := by decide +kernel
theorem dX10_refusal_19 : decode cX10_refusal 19 = .ok (.iconst 1, 1) := by decide +kernel
theorem dX10_refusal_20 : decode cX10_refusal 20 = .ok (.ireturn, 1) := by decide +kernel
theorem dX10_refusal_21 : decode cX10_refusal 21 = .ok (.iconst 0, 1) := by decide +kernel
theorem dX10_refusal_22 : decode cX10_refusal 22 = .ok (.istore 6, 2) := by decide +kernel
theorem dX10_refusal_24 : decode cX10_refusal 24 = .ok (.iload_n 3, 1) := by decide +kernel
theorem dX10_refusal_25 : decode cX10_refusal 25 = .ok (.iconst 1, 1) := by decide +kernel
theorem dX10_refusal_26 : decode cX10_refusal 26 = .ok (.iadd, 1) := by decide +kernel
theorem dX10_refusal_27 : decode cX10_refusal 27 = .ok (.istore 7, 2) := by decide +kernel
theorem dX10_refusal_29 : decode cX10_refusal 29 = .ok (.iload 7, 2) := by decide +kernel
theorem dX10_refusal_31 : decode cX10_refusal 31 = .ok (.aload 5, 2) := by decide +kernel
theorem dX10_refusal_33 : decode cX10_refusal 33 = .ok (.invokevirtual 25, 3) := by decide +kernel
theorem dX10_refusal_36 : decode cX10_refusal 36 = .ok (.if_icmp .ge 60, 3) := by decide +kernel
theorem dX10_refusal_39 : decode cX10_refusal 39 = .ok (.aload_n 1, 1) := by decide +kernel
theorem dX10_refusal_40 : decode cX10_refusal 40 = .ok (.aload_n 0, 1) := by decide +kernel
theorem dX10_refusal_41 : decode cX10_refusal 41 = .ok (.getfield 9, 3) := by decide +kernel
theorem dX10_refusal_44 : decode cX10_refusal 44 = .ok (.iload 7, 2) := by decide +kernel
theorem dX10_refusal_46 : decode cX10_refusal 46 = .ok (.iaload, 1) := by decide +kernel
theorem dX10_refusal_47 : decode cX10_refusal 47 = .ok (.invokevirtual 31, 3) := by decide +kernel
theorem dX10_refusal_50 : decode cX10_refusal 50 = .ok (.istore 8, 2) := by decide +kernel
theorem dX10_refusal_52 : decode cX10_refusal 52 = .ok (.iload 8, 2) := by decide +kernel
theorem dX10_refusal_54 : decode cX10_refusal 54 = .ok (.iload_n 2, 1) := by decide +kernel
theorem dX10_refusal_55 : decode cX10_refusal 55 = .ok (.if_icmp .ne 20, 3) := by decide +kernel
theorem dX10_refusal_58 : decode cX10_refusal 58 = .ok (.aload_n 1, 1) := by decide +kernel
theorem dX10_refusal_59 : decode cX10_refusal 59 = .ok (.aload_n 0, 1) := by decide +kernel
theorem dX10_refusal_60 : decode cX10_refusal 60 = .ok (.getfield 9, 3) := by decide +kernel
theorem dX10_refusal_63 : decode cX10_refusal 63 = .ok (.iload 7, 2) := by decide +kernel
theorem dX10_refusal_65 : decode cX10_refusal 65 = .ok (.iaload, 1) := by decide +kernel
theorem dX10_refusal_66 : decode cX10_refusal 66 = .ok (.invokevirtual 35, 3) := by decide +kernel
theorem dX10_refusal_69 : decode cX10_refusal 69 = .ok (.iload_n 3, 1) := by decide +kernel
theorem dX10_refusal_70 : decode cX10_refusal 70 = .ok (.if_icmp .gt 5, 3) := by decide +kernel
theorem dX10_refusal_73 : decode cX10_refusal 73 = .ok (.iconst 2, 1) := by decide +kernel
theorem dX10_refusal_74 : decode cX10_refusal 74 = .ok (.ireturn, 1) := by decide +kernel
theorem dX10_refusal_75 : decode cX10_refusal 75 = .ok (.iload 8, 2) := by decide +kernel
theorem dX10_refusal_77 : decode cX10_refusal 77 = .ok (.iconst (-1), 1) := by decide +kernel
theorem dX10_refusal_78 : decode cX10_refusal 78 = .ok (.if_icmp .eq 12, 3) := by decide +kernel
theorem dX10_refusal_81 : decode cX10_refusal 81 = .ok (.iload 8, 2) := by decide +kernel
theorem dX10_refusal_83 : decode cX10_refusal 83 = .ok (.iload_n 2, 1) := by decide +kernel
theorem dX10_refusal_84 : decode cX10_refusal 84 = .ok (.if_icmp .eq 6, 3) := by decide +kernel
theorem dX10_refusal_87 : decode cX10_refusal 87 = .ok (.iconst 3, 1) := by decide +kernel
theorem dX10_refusal_88 : decode cX10_refusal 88 = .ok (.istore 6, 2) := by decide +kernel
theorem dX10_refusal_90 : decode cX10_refusal 90 = .ok (.iinc 7 1, 3) := by decide +kernel
theorem dX10_refusal_93 : decode cX10_refusal 93 = .ok (.goto (-64), 3) := by decide +kernel
theorem dX10_refusal_96 : decode cX10_refusal 96 = .ok (.iload 6, 2) := by decide +kernel
theorem dX10_refusal_98 : decode cX10_refusal 98 = .ok (.ireturn, 1) := by decide +kernel
theorem dX10_land_0 : decode cX10_land 0 = .ok (.aload_n 1, 1) := by decide +kernel
theorem dX10_land_1 : decode cX10_land 1 = .ok (.iload_n 2, 1) := by decide +kernel
theorem dX10_land_2 : decode cX10_land 2 = .ok (.invokevirtual 38, 3) := by decide +kernel
theorem dX10_land_5 : decode cX10_land 5 = .ok (.istore 4, 2) := by decide +kernel
theorem dX10_land_7 : decode cX10_land 7 = .ok (.iload_n 2, 1) := by decide +kernel
theorem dX10_land_8 : decode cX10_land 8 = .ok (.iconst 1, 1) := by decide +kernel
theorem dX10_land_9 : decode cX10_land 9 = .ok (.iadd, 1) := by decide +kernel
theorem dX10_land_10 : decode cX10_land 10 = .ok (.istore 5, 2) := by decide +kernel
theorem dX10_land_12 : decode cX10_land 12 = .ok (.iload 5, 2) := by decide +kernel
theorem dX10_land_14 : decode cX10_land 14 = .ok (.aload_n 1, 1) := by decide +kernel
theorem dX10_land_15 : decode cX10_land 15 = .ok (.invokevirtual 25, 3) := by decide +kernel
theorem dX10_land_18 : decode cX10_land 18 = .ok (.if_icmp .ge 41, 3) := by decide +kernel
theorem dX10_land_21 : decode cX10_land 21 = .ok (.aload_n 0, 1) := by decide +kernel
theorem dX10_land_22 : decode cX10_land 22 = .ok (.getfield 9, 3) := by decide +kernel
theorem dX10_land_25 : decode cX10_land 25 = .ok (.iload 5, 2) := by decide +kernel
theorem dX10_land_27 : decode cX10_land 27 = .ok (.aload_n 1, 1) := by decide +kernel
theorem dX10_land_28 : decode cX10_land 28 = .ok (.iload 5, 2) := by decide +kernel
theorem dX10_land_30 : decode cX10_land 30 = .ok (.invokevirtual 38, 3) := by decide +kernel
theorem dX10_land_33 : decode cX10_land 33 = .ok (.iload 4, 2) := by decide +kernel
theorem dX10_land_35 : decode cX10_land 35 = .ok (.iload_n 3, 1) := by decide +kernel
theorem dX10_land_36 : decode cX10_land 36 = .ok (.invokestatic 41, 3) := by decide +kernel
theorem dX10_land_39 : decode cX10_land 39 = .ok (.iastore, 1) := by decide +kernel
theorem dX10_land_40 : decode cX10_land 40 = .ok (.aload_n 0, 1) := by decide +kernel
theorem dX10_land_41 : decode cX10_land 41 = .ok (.getfield 9, 3) := by decide +kernel
theorem dX10_land_44 : decode cX10_land 44 = .ok (.iload 5, 2) := by decide +kernel
theorem dX10_land_46 : decode cX10_land 46 = .ok (.iaload, 1) := by decide +kernel
theorem dX10_land_47 : decode cX10_land 47 = .ok (.iconst (-1), 1) := by decide +kernel
theorem dX10_land_48 : decode cX10_land 48 = .ok (.if_icmp .ne 5, 3) := by decide +kernel
theorem dX10_land_51 : decode cX10_land 51 = .ok (.iconst 0, 1) := by decide +kernel
theorem dX10_land_52 : decode cX10_land 52 = .ok (.ireturn, 1) := by decide +kernel
theorem dX10_land_53 : decode cX10_land 53 = .ok (.iinc 5 1, 3) := by decide +kernel
theorem dX10_land_56 : decode cX10_land 56 = .ok (.goto (-44), 3) := by decide +kernel
theorem dX10_land_59 : decode cX10_land 59 = .ok (.iconst 1, 1) := by decide +kernel
theorem dX10_land_60 : decode cX10_land 60 = .ok (.ireturn, 1) := by decide +kernel
theorem dX10_swung_0 : decode cX10_swung 0 = .ok (.iload_n 0, 1) := by decide +kernel
theorem dX10_swung_1 : decode cX10_swung 1 = .ok (.invokestatic 45, 3) := by decide +kernel
theorem dX10_swung_4 : decode cX10_swung 4 = .ok (.iload_n 1, 1) := by decide +kernel
theorem dX10_swung_5 : decode cX10_swung 5 = .ok (.invokestatic 45, 3) := by decide +kernel
theorem dX10_swung_8 : decode cX10_swung 8 = .ok (.isub, 1) := by decide +kernel
theorem dX10_swung_9 : decode cX10_swung 9 = .ok (.istore_n 3, 1) := by decide +kernel
theorem dX10_swung_10 : decode cX10_swung 10 = .ok (.iload_n 0, 1) := by decide +kernel
theorem dX10_swung_11 : decode cX10_swung 11 = .ok (.invokestatic 50, 3) := by decide +kernel
theorem dX10_swung_14 : decode cX10_swung 14 = .ok (.iload_n 1, 1) := by decide +kernel
theorem dX10_swung_15 : decode cX10_swung 15 = .ok (.invokestatic 50, 3) := by decide +kernel
theorem dX10_swung_18 : decode cX10_swung 18 = .ok (.isub, 1) := by decide +kernel
theorem dX10_swung_19 : decode cX10_swung 19 = .ok (.istore 4, 2) := by decide +kernel
theorem dX10_swung_21 : decode cX10_swung 21 = .ok (.iconst 0, 1) := by decide +kernel
theorem dX10_swung_22 : decode cX10_swung 22 = .ok (.istore 5, 2) := by decide +kernel
theorem dX10_swung_24 : decode cX10_swung 24 = .ok (.iload 5, 2) := by decide +kernel
theorem dX10_swung_26 : decode cX10_swung 26 = .ok (.iload_n 2, 1) := by decide +kernel
theorem dX10_swung_27 : decode cX10_swung 27 = .ok (.if_icmp .ge 20, 3) := by decide +kernel
theorem dX10_swung_30 : decode cX10_swung 30 = .ok (.iload_n 3, 1) := by decide +kernel
theorem dX10_swung_31 : decode cX10_swung 31 = .ok (.istore 6, 2) := by decide +kernel
theorem dX10_swung_33 : decode cX10_swung 33 = .ok (.iload 4, 2) := by decide +kernel
theorem dX10_swung_35 : decode cX10_swung 35 = .ok (.ineg, 1) := by decide +kernel
theorem dX10_swung_36 : decode cX10_swung 36 = .ok (.istore_n 3, 1) := by decide +kernel
theorem dX10_swung_37 : decode cX10_swung 37 = .ok (.iload 6, 2) := by decide +kernel
theorem dX10_swung_39 : decode cX10_swung 39 = .ok (.istore 4, 2) := by decide +kernel
theorem dX10_swung_41 : decode cX10_swung 41 = .ok (.iinc 5 1, 3) := by decide +kernel
theorem dX10_swung_44 : decode cX10_swung 44 = .ok (.goto (-20), 3) := by decide +kernel
theorem dX10_swung_47 : decode cX10_swung 47 = .ok (.iload_n 1, 1) := by decide +kernel
theorem dX10_swung_48 : decode cX10_swung 48 = .ok (.invokestatic 45, 3) := by decide +kernel
theorem dX10_swung_51 : decode cX10_swung 51 = .ok (.iload_n 3, 1) := by decide +kernel
theorem dX10_swung_52 : decode cX10_swung 52 = .ok (.iadd, 1) := by decide +kernel
theorem dX10_swung_53 : decode cX10_swung 53 = .ok (.iload_n 1, 1) := by decide +kernel
theorem dX10_swung_54 : decode cX10_swung 54 = .ok (.invokestatic 50, 3) := by decide +kernel
theorem dX10_swung_57 : decode cX10_swung 57 = .ok (.iload 4, 2) := by decide +kernel
theorem dX10_swung_59 : decode cX10_swung 59 = .ok (.iadd, 1) := by decide +kernel
theorem dX10_swung_60 : decode cX10_swung 60 = .ok (.invokestatic 53, 3) := by decide +kernel
theorem dX10_swung_63 : decode cX10_swung 63 = .ok (.ireturn, 1) := by decide +kernel
theorem dX10_moveSites_0 : decode cX10_moveSites 0 = .ok (.aload_n 1, 1) := by decide +kernel
theorem dX10_moveSites_1 : decode cX10_moveSites 1 = .ok (.iload_n 2, 1) := by decide +kernel
theorem dX10_moveSites_2 : decode cX10_moveSites 2 = .ok (.invokevirtual 15, 3) := by decide +kernel
theorem dX10_moveSites_5 : decode cX10_moveSites 5 = .ok (.astore 4, 2) := by decide +kernel
theorem dX10_moveSites_7 : decode cX10_moveSites 7 = .ok (.iload_n 3, 1) := by decide +kernel
theorem dX10_moveSites_8 : decode cX10_moveSites 8 = .ok (.iconst 1, 1) := by decide +kernel
theorem dX10_moveSites_9 : decode cX10_moveSites 9 = .ok (.iadd, 1) := by decide +kernel
theorem dX10_moveSites_10 : decode cX10_moveSites 10 = .ok (.istore 5, 2) := by decide +kernel
theorem dX10_moveSites_12 : decode cX10_moveSites 12 = .ok (.iload 5, 2) := by decide +kernel
theorem dX10_moveSites_14 : decode cX10_moveSites 14 = .ok (.aload 4, 2) := by decide +kernel
theorem dX10_moveSites_16 : decode cX10_moveSites 16 = .ok (.invokevirtual 25, 3) := by decide +kernel
theorem dX10_moveSites_19 : decode cX10_moveSites 19 = .ok (.if_icmp .ge 23, 3) := by decide +kernel
theorem dX10_moveSites_22 : decode cX10_moveSites 22 = .ok (.aload 4, 2) := by decide +kernel
theorem dX10_moveSites_24 : decode cX10_moveSites 24 = .ok (.iload 5, 2) := by decide +kernel
theorem dX10_moveSites_26 : decode cX10_moveSites 26 = .ok (.aload_n 0, 1) := by decide +kernel
theorem dX10_moveSites_27 : decode cX10_moveSites 27 = .ok (.getfield 9, 3) := by decide +kernel
theorem dX10_moveSites_30 : decode cX10_moveSites 30 = .ok (.iload 5, 2) := by decide +kernel
theorem dX10_moveSites_32 : decode cX10_moveSites 32 = .ok (.iaload, 1) := by decide +kernel
theorem dX10_moveSites_33 : decode cX10_moveSites 33 = .ok (.invokevirtual 57, 3) := by decide +kernel
theorem dX10_moveSites_36 : decode cX10_moveSites 36 = .ok (.iinc 5 1, 3) := by decide +kernel
theorem dX10_moveSites_39 : decode cX10_moveSites 39 = .ok (.goto (-27), 3) := by decide +kernel
theorem dX10_moveSites_42 : decode cX10_moveSites 42 = .ok (.aload_n 1, 1) := by decide +kernel
theorem dX10_moveSites_43 : decode cX10_moveSites 43 = .ok (.invokevirtual 61, 3) := by decide +kernel
theorem dX10_moveSites_46 : decode cX10_moveSites 46 = .ok (.return_, 1) := by decide +kernel
theorem dX11_init_0 : decode cX11_init 0 = .ok (.aload_n 0, 1) := by decide +kernel
theorem dX11_init_1 : decode cX11_init 1 = .ok (.invokespecial 3, 3) := by decide +kernel
theorem dX11_init_4 : decode cX11_init 4 = .ok (.aload_n 0, 1) := by decide +kernel
theorem dX11_init_5 : decode cX11_init 5 = .ok (.new 9, 3) := by decide +kernel
theorem dX11_init_8 : decode cX11_init 8 = .ok (.dup, 1) := by decide +kernel
theorem dX11_init_9 : decode cX11_init 9 = .ok (.invokespecial 11, 3) := by decide +kernel
theorem dX11_init_12 : decode cX11_init 12 = .ok (.putfield 12, 3) := by decide +kernel
theorem dX11_init_15 : decode cX11_init 15 = .ok (.aload_n 0, 1) := by decide +kernel
theorem dX11_init_16 : decode cX11_init 16 = .ok (.new 16, 3) := by decide +kernel
theorem dX11_init_19 : decode cX11_init 19 = .ok (.dup, 1) := by decide +kernel
theorem dX11_init_20 : decode cX11_init 20 = .ok (.invokespecial 18, 3) := by decide +kernel
theorem dX11_init_23 : decode cX11_init 23 = .ok (.putfield 19, 3) := by decide +kernel
theorem dX11_init_26 : decode cX11_init 26 = .ok (.aload_n 0, 1) := by decide +kernel
theorem dX11_init_27 : decode cX11_init 27 = .ok (.new 23, 3) := by decide +kernel
theorem dX11_init_30 : decode cX11_init 30 = .ok (.dup, 1) := by decide +kernel
theorem dX11_init_31 : decode cX11_init 31 = .ok (.invokespecial 25, 3) := by decide +kernel
theorem dX11_init_34 : decode cX11_init 34 = .ok (.putfield 26, 3) := by decide +kernel
theorem dX11_init_37 : decode cX11_init 37 = .ok (.aload_n 0, 1) := by decide +kernel
theorem dX11_init_38 : decode cX11_init 38 = .ok (.new 30, 3) := by decide +kernel
theorem dX11_init_41 : decode cX11_init 41 = .ok (.dup, 1) := by decide +kernel
theorem dX11_init_42 : decode cX11_init 42 = .ok (.invokespecial 32, 3) := by decide +kernel
theorem dX11_init_45 : decode cX11_init 45 = .ok (.putfield 33, 3) := by decide +kernel
theorem dX11_init_48 : decode cX11_init 48 = .ok (.aload_n 0, 1) := by decide +kernel
theorem dX11_init_49 : decode cX11_init 49 = .ok (.new 37, 3) := by decide +kernel
theorem dX11_init_52 : decode cX11_init 52 = .ok (.dup, 1) := by decide +kernel
theorem dX11_init_53 : decode cX11_init 53 = .ok (.invokespecial 39, 3) := by decide +kernel
theorem dX11_init_56 : decode cX11_init 56 = .ok (.putfield 40, 3) := by decide +kernel
theorem dX11_init_59 : decode cX11_init 59 = .ok (.aload_n 0, 1) := by decide +kernel
theorem dX11_init_60 : decode cX11_init 60 = .ok (.new 44, 3) := by decide +kernel
theorem dX11_init_63 : decode cX11_init 63 = .ok (.dup, 1) := by decide +kernel
theorem dX11_init_64 : decode cX11_init 64 = .ok (.invokespecial 46, 3) := by decide +kernel
theorem dX11_init_67 : decode cX11_init 67 = .ok (.putfield 47, 3) := by decide +kernel
theorem dX11_init_70 : decode cX11_init 70 = .ok (.aload_n 0, 1) := by decide +kernel
theorem dX11_init_71 : decode cX11_init 71 = .ok (.new 51, 3) := by decide +kernel
theorem dX11_init_74 : decode cX11_init 74 = .ok (.dup, 1) := by decide +kernel
theorem dX11_init_75 : decode cX11_init 75 = .ok (.invokespecial 53, 3) := by decide +kernel
theorem dX11_init_78 : decode cX11_init 78 = .ok (.putfield 54, 3) := by decide +kernel
theorem dX11_init_81 : decode cX11_init 81 = .ok (.aload_n 0, 1) := by decide +kernel
theorem dX11_init_82 : decode cX11_init 82 = .ok (.new 58, 3) := by decide +kernel
theorem dX11_init_85 : decode cX11_init 85 = .ok (.dup, 1) := by decide +kernel
theorem dX11_init_86 : decode cX11_init 86 = .ok (.invokespecial 60, 3) := by decide +kernel
theorem dX11_init_89 : decode cX11_init 89 = .ok (.putfield 61, 3) := by decide +kernel
theorem dX11_init_92 : decode cX11_init 92 = .ok (.aload_n 0, 1) := by decide +kernel
theorem dX11_init_93 : decode cX11_init 93 = .ok (.new 65, 3) := by decide +kernel
theorem dX11_init_96 : decode cX11_init 96 = .ok (.dup, 1) := by decide +kernel
theorem dX11_init_97 : decode cX11_init 97 = .ok (.invokespecial 67, 3) := by decide +kernel
theorem dX11_init_100 : decode cX11_init 100 = .ok (.putfield 68, 3) := by decide +kernel
theorem dX11_init_103 : decode cX11_init 103 = .ok (.aload_n 0, 1) := by decide +kernel
theorem dX11_init_104 : decode cX11_init 104 = .ok (.new 65, 3) := by decide +kernel
theorem dX11_init_107 : decode cX11_init 107 = .ok (.dup, 1) := by decide +kernel
theorem dX11_init_108 : decode cX11_init 108 = .ok (.invokespecial 67, 3) := by decide +kernel
theorem dX11_init_111 : decode cX11_init 111 = .ok (.putfield 72, 3) := by decide +kernel
theorem dX11_init_114 : decode cX11_init 114 = .ok (.return_, 1) := by decide +kernel
theorem dX11_start_0 : decode cX11_start 0 = .ok (.iload_n 1, 1) := by decide +kernel
theorem dX11_start_1 : decode cX11_start 1 = .ok (.iload_n 2, 1) := by decide +kernel
theorem dX11_start_2 : decode cX11_start 2 = .ok (.invokestatic 75, 3) := by decide +kernel
theorem dX11_start_5 : decode cX11_start 5 = .ok (.istore_n 3, 1) := by decide +kernel
theorem dX11_start_6 : decode cX11_start 6 = .ok (.aload_n 0, 1) := by decide +kernel
theorem dX11_start_7 : decode cX11_start 7 = .ok (.getfield 12, 3) := by decide +kernel
theorem dX11_start_10 : decode cX11_start 10 = .ok (.iload_n 3, 1) := by decide +kernel
theorem dX11_start_11 : decode cX11_start 11 = .ok (.invokevirtual 79, 3) := by decide +kernel
theorem dX11_start_14 : decode cX11_start 14 = .ok (.ifCond .eq 13, 3) := by decide +kernel
theorem dX11_start_17 : decode cX11_start 17 = .ok (.aload_n 0, 1) := by decide +kernel
theorem dX11_start_18 : decode cX11_start 18 = .ok (.getfield 12, 3) := by decide +kernel
theorem dX11_start_21 : decode cX11_start 21 = .ok (.invokevirtual 83, 3) := by decide +kernel
theorem dX11_start_24 : decode cX11_start 24 = .ok (.ifCond .eq 13, 3) := by decide +kernel
theorem dX11_start_27 : decode cX11_start 27 = .ok (.new 87, 3) := by decide +kernel
theorem dX11_start_30 : decode cX11_start 30 = .ok (.dup, 1) := by decide +kernel
theorem dX11_start_31 : decode cX11_start 31 = .ok (.ldc 89, 2) := by decide +kernel
theorem dX11_start_33 : decode cX11_start 33 = .ok (.invokespecial 91, 3) := by decide +kernel
theorem dX11_start_36 : decode cX11_start 36 = .ok (.athrow, 1) := by decide +kernel
theorem dX11_start_37 : decode cX11_start 37 = .ok (.aload_n 0, 1) := by decide +kernel
theorem dX11_start_38 : decode cX11_start 38 = .ok (.getfield 19, 3) := by decide +kernel
theorem dX11_start_41 : decode cX11_start 41 = .ok (.aload_n 0, 1) := by decide +kernel
theorem dX11_start_42 : decode cX11_start 42 = .ok (.getfield 12, 3) := by decide +kernel
theorem dX11_start_45 : decode cX11_start 45 = .ok (.invokevirtual 94, 3) := by decide +kernel
theorem dX11_start_48 : decode cX11_start 48 = .ok (.aload_n 0, 1) := by decide +kernel
theorem dX11_start_49 : decode cX11_start 49 = .ok (.getfield 40, 3) := by decide +kernel
theorem dX11_start_52 : decode cX11_start 52 = .ok (.iload_n 3, 1) := by decide +kernel
theorem dX11_start_53 : decode cX11_start 53 = .ok (.invokevirtual 98, 3) := by decide +kernel
theorem dX11_start_56 : decode cX11_start 56 = .ok (.aload_n 0, 1) := by decide +kernel
theorem dX11_start_57 : decode cX11_start 57 = .ok (.getfield 12, 3) := by decide +kernel
theorem dX11_start_60 : decode cX11_start 60 = .ok (.aload_n 0, 1) := by decide +kernel
theorem dX11_start_61 : decode cX11_start 61 = .ok (.getfield 40, 3) := by decide +kernel
theorem dX11_start_64 : decode cX11_start 64 = .ok (.invokevirtual 102, 3) := by decide +kernel
theorem dX11_start_67 : decode cX11_start 67 = .ok (.ireturn, 1) := by decide +kernel
theorem dX11_step_0 : decode cX11_step 0 = .ok (.aload_n 0, 1) := by decide +kernel
theorem dX11_step_1 : decode cX11_step 1 = .ok (.iload_n 1, 1) := by decide +kernel
theorem dX11_step_2 : decode cX11_step 2 = .ok (.invokevirtual 106, 3) := by decide +kernel
theorem dX11_step_5 : decode cX11_step 5 = .ok (.iload_n 2, 1) := by decide +kernel
theorem dX11_step_6 : decode cX11_step 6 = .ok (.invokestatic 109, 3) := by decide +kernel
theorem dX11_step_9 : decode cX11_step 9 = .ok (.aload_n 0, 1) := by decide +kernel
theorem dX11_step_10 : decode cX11_step 10 = .ok (.getfield 19, 3) := by decide +kernel
theorem dX11_step_13 : decode cX11_step 13 = .ok (.aload_n 0, 1) := by decide +kernel
theorem dX11_step_14 : decode cX11_step 14 = .ok (.getfield 12, 3) := by decide +kernel
theorem dX11_step_17 : decode cX11_step 17 = .ok (.invokevirtual 94, 3) := by decide +kernel
theorem dX11_step_20 : decode cX11_step 20 = .ok (.aload_n 0, 1) := by decide +kernel
theorem dX11_step_21 : decode cX11_step 21 = .ok (.getfield 12, 3) := by decide +kernel
theorem dX11_step_24 : decode cX11_step 24 = .ok (.iload_n 1, 1) := by decide +kernel
theorem dX11_step_25 : decode cX11_step 25 = .ok (.iload_n 2, 1) := by decide +kernel
theorem dX11_step_26 : decode cX11_step 26 = .ok (.invokevirtual 112, 3) := by decide +kernel
theorem dX11_step_29 : decode cX11_step 29 = .ok (.ireturn, 1) := by decide +kernel
theorem dX11_back_0 : decode cX11_back 0 = .ok (.aload_n 0, 1) := by decide +kernel
theorem dX11_back_1 : decode cX11_back 1 = .ok (.iload_n 1, 1) := by decide +kernel
theorem dX11_back_2 : decode cX11_back 2 = .ok (.invokevirtual 106, 3) := by decide +kernel
theorem dX11_back_5 : decode cX11_back 5 = .ok (.aload_n 0, 1) := by decide +kernel
theorem dX11_back_6 : decode cX11_back 6 = .ok (.getfield 12, 3) := by decide +kernel
theorem dX11_back_9 : decode cX11_back 9 = .ok (.iload_n 1, 1) := by decide +kernel
theorem dX11_back_10 : decode cX11_back 10 = .ok (.invokevirtual 115, 3) := by decide +kernel
theorem dX11_back_13 : decode cX11_back 13 = .ok (.invokevirtual 119, 3) := by decide +kernel
theorem dX11_back_16 : decode cX11_back 16 = .ok (.iconst 2, 1) := by decide +kernel
theorem dX11_back_17 : decode cX11_back 17 = .ok (.if_icmp .ge 13, 3) := by decide +kernel
theorem dX11_back_20 : decode cX11_back 20 = .ok (.new 87, 3) := by decide +kernel
theorem dX11_back_23 : decode cX11_back 23 = .ok (.dup, 1) := by decide +kernel
theorem dX11_back_24 : decode cX11_back 24 = .ok (.ldc 123, 2) := by decide +kernel
theorem dX11_back_26 : decode cX11_back 26 = .ok (.invokespecial 91, 3) := by decide +kernel
theorem dX11_back_29 : decode cX11_back 29 = .ok (.athrow, 1) := by decide +kernel
theorem dX11_back_30 : decode cX11_back 30 = .ok (.aload_n 0, 1) := by decide +kernel
theorem dX11_back_31 : decode cX11_back 31 = .ok (.getfield 19, 3) := by decide +kernel
theorem dX11_back_34 : decode cX11_back 34 = .ok (.aload_n 0, 1) := by decide +kernel
theorem dX11_back_35 : decode cX11_back 35 = .ok (.getfield 12, 3) := by decide +kernel
theorem dX11_back_38 : decode cX11_back 38 = .ok (.invokevirtual 94, 3) := by decide +kernel
theorem dX11_back_41 : decode cX11_back 41 = .ok (.aload_n 0, 1) := by decide +kernel
theorem dX11_back_42 : decode cX11_back 42 = .ok (.getfield 12, 3) := by decide +kernel
theorem dX11_back_45 : decode cX11_back 45 = .ok (.iload_n 1, 1) := by decide +kernel
theorem dX11_back_46 : decode cX11_back 46 = .ok (.invokevirtual 125, 3) := by decide +kernel
theorem dX11_back_49 : decode cX11_back 49 = .ok (.ireturn, 1) := by decide +kernel
theorem dX11_slither_0 : decode cX11_slither 0 = .ok (.aload_n 0, 1) := by decide +kernel
theorem dX11_slither_1 : decode cX11_slither 1 = .ok (.iload_n 1, 1) := by decide +kernel
theorem dX11_slither_2 : decode cX11_slither 2 = .ok (.invokevirtual 106, 3) := by decide +kernel
theorem dX11_slither_5 : decode cX11_slither 5 = .ok (.iload_n 2, 1) := by decide +kernel
theorem dX11_slither_6 : decode cX11_slither 6 = .ok (.invokestatic 109, 3) := by decide +kernel
theorem dX11_slither_9 : decode cX11_slither 9 = .ok (.aload_n 0, 1) := by decide +kernel
theorem dX11_slither_10 : decode cX11_slither 10 = .ok (.getfield 19, 3) := by decide +kernel
theorem dX11_slither_13 : decode cX11_slither 13 = .ok (.aload_n 0, 1) := by decide +kernel
theorem dX11_slither_14 : decode cX11_slither 14 = .ok (.getfield 12, 3) := by decide +kernel
theorem dX11_slither_17 : decode cX11_slither 17 = .ok (.invokevirtual 94, 3) := by decide +kernel
theorem dX11_slither_20 : decode cX11_slither 20 = .ok (.aload_n 0, 1) := by decide +kernel
theorem dX11_slither_21 : decode cX11_slither 21 = .ok (.getfield 12, 3) := by decide +kernel
theorem dX11_slither_24 : decode cX11_slither 24 = .ok (.iload_n 1, 1) := by decide +kernel
theorem dX11_slither_25 : decode cX11_slither 25 = .ok (.iload_n 2, 1) := by decide +kernel
theorem dX11_slither_26 : decode cX11_slither 26 = .ok (.invokevirtual 129, 3) := by decide +kernel
theorem dX11_slither_29 : decode cX11_slither 29 = .ok (.ireturn, 1) := by decide +kernel
theorem dX11_turn_0 : decode cX11_turn 0 = .ok (.aload_n 0, 1) := by decide +kernel
theorem dX11_turn_1 : decode cX11_turn 1 = .ok (.iload_n 1, 1) := by decide +kernel
theorem dX11_turn_2 : decode cX11_turn 2 = .ok (.iload_n 2, 1) := by decide +kernel
theorem dX11_turn_3 : decode cX11_turn 3 = .ok (.invokevirtual 132, 3) := by decide +kernel
theorem dX11_turn_6 : decode cX11_turn 6 = .ok (.iload_n 3, 1) := by decide +kernel
theorem dX11_turn_7 : decode cX11_turn 7 = .ok (.invokestatic 136, 3) := by decide +kernel
theorem dX11_turn_10 : decode cX11_turn 10 = .ok (.aload_n 0, 1) := by decide +kernel
theorem dX11_turn_11 : decode cX11_turn 11 = .ok (.getfield 19, 3) := by decide +kernel
theorem dX11_turn_14 : decode cX11_turn 14 = .ok (.aload_n 0, 1) := by decide +kernel
theorem dX11_turn_15 : decode cX11_turn 15 = .ok (.getfield 12, 3) := by decide +kernel
theorem dX11_turn_18 : decode cX11_turn 18 = .ok (.invokevirtual 94, 3) := by decide +kernel
theorem dX11_turn_21 : decode cX11_turn 21 = .ok (.aload_n 0, 1) := by decide +kernel
theorem dX11_turn_22 : decode cX11_turn 22 = .ok (.getfield 47, 3) := by decide +kernel
theorem dX11_turn_25 : decode cX11_turn 25 = .ok (.aload_n 0, 1) := by decide +kernel
theorem dX11_turn_26 : decode cX11_turn 26 = .ok (.getfield 12, 3) := by decide +kernel
theorem dX11_turn_29 : decode cX11_turn 29 = .ok (.iload_n 1, 1) := by decide +kernel
theorem dX11_turn_30 : decode cX11_turn 30 = .ok (.iload_n 2, 1) := by decide +kernel
theorem dX11_turn_31 : decode cX11_turn 31 = .ok (.iload_n 3, 1) := by decide +kernel
theorem dX11_turn_32 : decode cX11_turn 32 = .ok (.invokevirtual 139, 3) := by decide +kernel
theorem dX11_turn_35 : decode cX11_turn 35 = .ok (.istore 4, 2) := by decide +kernel
theorem dX11_turn_37 : decode cX11_turn 37 = .ok (.aload_n 0, 1) := by decide +kernel
theorem dX11_turn_38 : decode cX11_turn 38 = .ok (.getfield 12, 3) := by decide +kernel
theorem dX11_turn_41 : decode cX11_turn 41 = .ok (.iload 4, 2) := by decide +kernel
theorem dX11_turn_43 : decode cX11_turn 43 = .ok (.invokevirtual 143, 3) := by decide +kernel
theorem dX11_turn_46 : decode cX11_turn 46 = .ok (.iload 4, 2) := by decide +kernel
theorem dX11_turn_48 : decode cX11_turn 48 = .ok (.ifCond .ne 16, 3) := by decide +kernel
theorem dX11_turn_51 : decode cX11_turn 51 = .ok (.aload_n 0, 1) := by decide +kernel
theorem dX11_turn_52 : decode cX11_turn 52 = .ok (.getfield 47, 3) := by decide +kernel
theorem dX11_turn_55 : decode cX11_turn 55 = .ok (.aload_n 0, 1) := by decide +kernel
theorem dX11_turn_56 : decode cX11_turn 56 = .ok (.getfield 12, 3) := by decide +kernel
theorem dX11_turn_59 : decode cX11_turn 59 = .ok (.iload_n 1, 1) := by decide +kernel
theorem dX11_turn_60 : decode cX11_turn 60 = .ok (.iload_n 2, 1) := by decide +kernel
theorem dX11_turn_61 : decode cX11_turn 61 = .ok (.invokevirtual 146, 3) := by decide +kernel
theorem dX11_turn_64 : decode cX11_turn 64 = .ok (.iload 4, 2) := by decide +kernel
theorem dX11_turn_66 : decode cX11_turn 66 = .ok (.ireturn, 1) := by decide +kernel
theorem dX11_reverse_0 : decode cX11_reverse 0 = .ok (.aload_n 0, 1) := by decide +kernel
theorem dX11_reverse_1 : decode cX11_reverse 1 = .ok (.iload_n 1, 1) := by decide +kernel
theorem dX11_reverse_2 : decode cX11_reverse 2 = .ok (.invokevirtual 106, 3) := by decide +kernel
theorem dX11_reverse_5 : decode cX11_reverse 5 = .ok (.aload_n 0, 1) := by decide +kernel
theorem dX11_reverse_6 : decode cX11_reverse 6 = .ok (.getfield 19, 3) := by decide +kernel
theorem dX11_reverse_9 : decode cX11_reverse 9 = .ok (.aload_n 0, 1) := by decide +kernel
theorem dX11_reverse_10 : decode cX11_reverse 10 = .ok (.getfield 12, 3) := by decide +kernel
theorem dX11_reverse_13 : decode cX11_reverse 13 = .ok (.invokevirtual 94, 3) := by decide +kernel
theorem dX11_reverse_16 : decode cX11_reverse 16 = .ok (.aload_n 0, 1) := by decide +kernel
theorem dX11_reverse_17 : decode cX11_reverse 17 = .ok (.getfield 12, 3) := by decide +kernel
theorem dX11_reverse_20 : decode cX11_reverse 20 = .ok (.iload_n 1, 1) := by decide +kernel
theorem dX11_reverse_21 : decode cX11_reverse 21 = .ok (.invokevirtual 150, 3) := by decide +kernel
theorem dX11_reverse_24 : decode cX11_reverse 24 = .ok (.ireturn, 1) := by decide +kernel
theorem dX11_join_0 : decode cX11_join 0 = .ok (.aload_n 0, 1) := by decide +kernel
theorem dX11_join_1 : decode cX11_join 1 = .ok (.iload_n 1, 1) := by decide +kernel
theorem dX11_join_2 : decode cX11_join 2 = .ok (.iload_n 2, 1) := by decide +kernel
theorem dX11_join_3 : decode cX11_join 3 = .ok (.invokevirtual 153, 3) := by decide +kernel
theorem dX11_join_6 : decode cX11_join 6 = .ok (.aload_n 0, 1) := by decide +kernel
theorem dX11_join_7 : decode cX11_join 7 = .ok (.getfield 12, 3) := by decide +kernel
theorem dX11_join_10 : decode cX11_join 10 = .ok (.iload_n 1, 1) := by decide +kernel
theorem dX11_join_11 : decode cX11_join 11 = .ok (.invokevirtual 115, 3) := by decide +kernel
theorem dX11_join_14 : decode cX11_join 14 = .ok (.astore_n 3, 1) := by decide +kernel
theorem dX11_join_15 : decode cX11_join 15 = .ok (.aload_n 0, 1) := by decide +kernel
theorem dX11_join_16 : decode cX11_join 16 = .ok (.getfield 12, 3) := by decide +kernel
theorem dX11_join_19 : decode cX11_join 19 = .ok (.iload_n 2, 1) := by decide +kernel
theorem dX11_join_20 : decode cX11_join 20 = .ok (.invokevirtual 115, 3) := by decide +kernel
theorem dX11_join_23 : decode cX11_join 23 = .ok (.astore 4, 2) := by decide +kernel
theorem dX11_join_25 : decode cX11_join 25 = .ok (.aload_n 3, 1) := by decide +kernel
theorem dX11_join_26 : decode cX11_join 26 = .ok (.invokevirtual 156, 3) := by decide +kernel
theorem dX11_join_29 : decode cX11_join 29 = .ok (.aload 4, 2) := by decide +kernel
theorem dX11_join_31 : decode cX11_join 31 = .ok (.invokevirtual 156, 3) := by decide +kernel
theorem dX11_join_34 : decode cX11_join 34 = .ok (.invokestatic 159, 3) := by decide +kernel
theorem dX11_join_37 : decode cX11_join 37 = .ok (.ifCond .eq 18, 3) := by decide +kernel
theorem dX11_join_40 : decode cX11_join 40 = .ok (.aload_n 3, 1) := by decide +kernel
theorem dX11_join_41 : decode cX11_join 41 = .ok (.invokevirtual 119, 3) := by decide +kernel
theorem dX11_join_44 : decode cX11_join 44 = .ok (.aload 4, 2) := by decide +kernel
theorem dX11_join_46 : decode cX11_join 46 = .ok (.invokevirtual 119, 3) := by decide +kernel
theorem dX11_join_49 : decode cX11_join 49 = .ok (.iadd, 1) := by decide +kernel
theorem dX11_join_50 : decode cX11_join 50 = .ok (.bipush 60, 2) := by decide +kernel
theorem dX11_join_52 : decode cX11_join 52 = .ok (.if_icmp .le 13, 3) := by decide +kernel
theorem dX11_join_55 : decode cX11_join 55 = .ok (.new 87, 3) := by decide +kernel
theorem dX11_join_58 : decode cX11_join 58 = .ok (.dup, 1) := by decide +kernel
theorem dX11_join_59 : decode cX11_join 59 = .ok (.ldc 165, 2) := by decide +kernel
theorem dX11_join_61 : decode cX11_join 61 = .ok (.invokespecial 91, 3) := by decide +kernel
theorem dX11_join_64 : decode cX11_join 64 = .ok (.athrow, 1) := by decide +kernel
theorem dX11_join_65 : decode cX11_join 65 = .ok (.aload_n 0, 1) := by decide +kernel
theorem dX11_join_66 : decode cX11_join 66 = .ok (.getfield 19, 3) := by decide +kernel
theorem dX11_join_69 : decode cX11_join 69 = .ok (.aload_n 0, 1) := by decide +kernel
theorem dX11_join_70 : decode cX11_join 70 = .ok (.getfield 12, 3) := by decide +kernel
theorem dX11_join_73 : decode cX11_join 73 = .ok (.invokevirtual 94, 3) := by decide +kernel
theorem dX11_join_76 : decode cX11_join 76 = .ok (.aload_n 0, 1) := by decide +kernel
theorem dX11_join_77 : decode cX11_join 77 = .ok (.getfield 12, 3) := by decide +kernel
theorem dX11_join_80 : decode cX11_join 80 = .ok (.iload_n 1, 1) := by decide +kernel
theorem dX11_join_81 : decode cX11_join 81 = .ok (.iload_n 2, 1) := by decide +kernel
theorem dX11_join_82 : decode cX11_join 82 = .ok (.invokevirtual 167, 3) := by decide +kernel
theorem dX11_join_85 : decode cX11_join 85 = .ok (.ireturn, 1) := by decide +kernel
theorem dX11_split_0 : decode cX11_split 0 = .ok (.aload_n 0, 1) := by decide +kernel
theorem dX11_split_1 : decode cX11_split 1 = .ok (.iload_n 1, 1) := by decide +kernel
theorem dX11_split_2 : decode cX11_split 2 = .ok (.iload_n 2, 1) := by decide +kernel
theorem dX11_split_3 : decode cX11_split 3 = .ok (.invokevirtual 132, 3) := by decide +kernel
theorem dX11_split_6 : decode cX11_split 6 = .ok (.iload_n 2, 1) := by decide +kernel
theorem dX11_split_7 : decode cX11_split 7 = .ok (.aload_n 0, 1) := by decide +kernel
theorem dX11_split_8 : decode cX11_split 8 = .ok (.getfield 12, 3) := by decide +kernel
theorem dX11_split_11 : decode cX11_split 11 = .ok (.iload_n 1, 1) := by decide +kernel
theorem dX11_split_12 : decode cX11_split 12 = .ok (.invokevirtual 115, 3) := by decide +kernel
theorem dX11_split_15 : decode cX11_split 15 = .ok (.invokevirtual 119, 3) := by decide +kernel
theorem dX11_split_18 : decode cX11_split 18 = .ok (.iconst 1, 1) := by decide +kernel
theorem dX11_split_19 : decode cX11_split 19 = .ok (.isub, 1) := by decide +kernel
theorem dX11_split_20 : decode cX11_split 20 = .ok (.if_icmp .ne 13, 3) := by decide +kernel
theorem dX11_split_23 : decode cX11_split 23 = .ok (.new 170, 3) := by decide +kernel
theorem dX11_split_26 : decode cX11_split 26 = .ok (.dup, 1) := by decide +kernel
theorem dX11_split_27 : decode cX11_split 27 = .ok (.ldc 172, 2) := by decide +kernel
theorem dX11_split_29 : decode cX11_split 29 = .ok (.invokespecial 174, 3) := by decide +kernel
theorem dX11_split_32 : decode cX11_split 32 = .ok (.athrow, 1) := by decide +kernel
theorem dX11_split_33 : decode cX11_split 33 = .ok (.aload_n 0, 1) := by decide +kernel
theorem dX11_split_34 : decode cX11_split 34 = .ok (.getfield 12, 3) := by decide +kernel
theorem dX11_split_37 : decode cX11_split 37 = .ok (.invokevirtual 83, 3) := by decide +kernel
theorem dX11_split_40 : decode cX11_split 40 = .ok (.ifCond .eq 13, 3) := by decide +kernel
theorem dX11_split_43 : decode cX11_split 43 = .ok (.new 87, 3) := by decide +kernel
theorem dX11_split_46 : decode cX11_split 46 = .ok (.dup, 1) := by decide +kernel
theorem dX11_split_47 : decode cX11_split 47 = .ok (.ldc 175, 2) := by decide +kernel
theorem dX11_split_49 : decode cX11_split 49 = .ok (.invokespecial 91, 3) := by decide +kernel
theorem dX11_split_52 : decode cX11_split 52 = .ok (.athrow, 1) := by decide +kernel
theorem dX11_split_53 : decode cX11_split 53 = .ok (.aload_n 0, 1) := by decide +kernel
theorem dX11_split_54 : decode cX11_split 54 = .ok (.getfield 19, 3) := by decide +kernel
theorem dX11_split_57 : decode cX11_split 57 = .ok (.aload_n 0, 1) := by decide +kernel
theorem dX11_split_58 : decode cX11_split 58 = .ok (.getfield 12, 3) := by decide +kernel
theorem dX11_split_61 : decode cX11_split 61 = .ok (.invokevirtual 94, 3) := by decide +kernel
theorem dX11_split_64 : decode cX11_split 64 = .ok (.aload_n 0, 1) := by decide +kernel
theorem dX11_split_65 : decode cX11_split 65 = .ok (.getfield 12, 3) := by decide +kernel
theorem dX11_split_68 : decode cX11_split 68 = .ok (.iload_n 1, 1) := by decide +kernel
theorem dX11_split_69 : decode cX11_split 69 = .ok (.iload_n 2, 1) := by decide +kernel
theorem dX11_split_70 : decode cX11_split 70 = .ok (.invokevirtual 177, 3) := by decide +kernel
theorem dX11_split_73 : decode cX11_split 73 = .ok (.ireturn, 1) := by decide +kernel
theorem dX11_remove_0 : decode cX11_remove 0 = .ok (.aload_n 0, 1) := by decide +kernel
theorem dX11_remove_1 : decode cX11_remove 1 = .ok (.iload_n 1, 1) := by decide +kernel
theorem dX11_remove_2 : decode cX11_remove 2 = .ok (.invokevirtual 106, 3) := by decide +kernel
theorem dX11_remove_5 : decode cX11_remove 5 = .ok (.aload_n 0, 1) := by decide +kernel
theorem dX11_remove_6 : decode cX11_remove 6 = .ok (.getfield 19, 3) := by decide +kernel
theorem dX11_remove_9 : decode cX11_remove 9 = .ok (.aload_n 0, 1) := by decide +kernel
theorem dX11_remove_10 : decode cX11_remove 10 = .ok (.getfield 12, 3) := by decide +kernel
theorem dX11_remove_13 : decode cX11_remove 13 = .ok (.invokevirtual 94, 3) := by decide +kernel
theorem dX11_remove_16 : decode cX11_remove 16 = .ok (.aload_n 0, 1) := by decide +kernel
theorem dX11_remove_17 : decode cX11_remove 17 = .ok (.getfield 12, 3) := by decide +kernel
theorem dX11_remove_20 : decode cX11_remove 20 = .ok (.iload_n 1, 1) := by decide +kernel
theorem dX11_remove_21 : decode cX11_remove 21 = .ok (.invokevirtual 180, 3) := by decide +kernel
theorem dX11_remove_24 : decode cX11_remove 24 = .ok (.aload_n 0, 1) := by decide +kernel
theorem dX11_remove_25 : decode cX11_remove 25 = .ok (.getfield 12, 3) := by decide +kernel
theorem dX11_remove_28 : decode cX11_remove 28 = .ok (.invokevirtual 183, 3) := by decide +kernel
theorem dX11_remove_31 : decode cX11_remove 31 = .ok (.ireturn, 1) := by decide +kernel
theorem dX11_undo_0 : decode cX11_undo 0 = .ok (.aload_n 0, 1) := by decide +kernel
theorem dX11_undo_1 : decode cX11_undo 1 = .ok (.getfield 19, 3) := by decide +kernel
theorem dX11_undo_4 : decode cX11_undo 4 = .ok (.invokevirtual 221, 3) := by decide +kernel
theorem dX11_undo_7 : decode cX11_undo 7 = .ok (.ifCond .ne 13, 3) := by decide +kernel
theorem dX11_undo_10 : decode cX11_undo 10 = .ok (.new 87, 3) := by decide +kernel
theorem dX11_undo_13 : decode cX11_undo 13 = .ok (.dup, 1) := by decide +kernel
theorem dX11_undo_14 : decode cX11_undo 14 = .ok (.ldc 224, 2) := by decide +kernel
theorem dX11_undo_16 : decode cX11_undo 16 = .ok (.invokespecial 91, 3) := by decide +kernel
theorem dX11_undo_19 : decode cX11_undo 19 = .ok (.athrow, 1) := by decide +kernel
theorem dX11_undo_20 : decode cX11_undo 20 = .ok (.aload_n 0, 1) := by decide +kernel
theorem dX11_undo_21 : decode cX11_undo 21 = .ok (.getfield 19, 3) := by decide +kernel
theorem dX11_undo_24 : decode cX11_undo 24 = .ok (.aload_n 0, 1) := by decide +kernel
theorem dX11_undo_25 : decode cX11_undo 25 = .ok (.getfield 12, 3) := by decide +kernel
theorem dX11_undo_28 : decode cX11_undo 28 = .ok (.invokevirtual 226, 3) := by decide +kernel
theorem dX11_undo_31 : decode cX11_undo 31 = .ok (.aload_n 0, 1) := by decide +kernel
theorem dX11_undo_32 : decode cX11_undo 32 = .ok (.getfield 19, 3) := by decide +kernel
theorem dX11_undo_35 : decode cX11_undo 35 = .ok (.invokevirtual 221, 3) := by decide +kernel
theorem dX11_undo_38 : decode cX11_undo 38 = .ok (.ireturn, 1) := by decide +kernel
theorem dX11_site_0 : decode cX11_site 0 = .ok (.iload_n 1, 1) := by decide +kernel
theorem dX11_site_1 : decode cX11_site 1 = .ok (.iload_n 2, 1) := by decide +kernel
theorem dX11_site_2 : decode cX11_site 2 = .ok (.invokestatic 75, 3) := by decide +kernel
theorem dX11_site_5 : decode cX11_site 5 = .ok (.istore 4, 2) := by decide +kernel
theorem dX11_site_7 : decode cX11_site 7 = .ok (.iload_n 3, 1) := by decide +kernel
theorem dX11_site_8 : decode cX11_site 8 = .ok (.iconst 0, 1) := by decide +kernel
theorem dX11_site_9 : decode cX11_site 9 = .ok (.iconst 2, 1) := by decide +kernel
theorem dX11_site_10 : decode cX11_site 10 = .ok (.invokestatic 186, 3) := by decide +kernel
theorem dX11_site_13 : decode cX11_site 13 = .ok (.iload_n 3, 1) := by decide +kernel
theorem dX11_site_14 : decode cX11_site 14 = .ok (.lookupswitch 46 #[(0, 26), (1, 36)], 26) := by decide +kernel
theorem dX11_site_40 : decode cX11_site 40 = .ok (.aload_n 0, 1) := by decide +kernel
theorem dX11_site_41 : decode cX11_site 41 = .ok (.getfield 12, 3) := by decide +kernel
theorem dX11_site_44 : decode cX11_site 44 = .ok (.iload 4, 2) := by decide +kernel
theorem dX11_site_46 : decode cX11_site 46 = .ok (.invokevirtual 242, 3) := by decide +kernel
theorem dX11_site_49 : decode cX11_site 49 = .ok (.ireturn, 1) := by decide +kernel
theorem dX11_site_50 : decode cX11_site 50 = .ok (.aload_n 0, 1) := by decide +kernel
theorem dX11_site_51 : decode cX11_site 51 = .ok (.getfield 12, 3) := by decide +kernel
theorem dX11_site_54 : decode cX11_site 54 = .ok (.iload 4, 2) := by decide +kernel
theorem dX11_site_56 : decode cX11_site 56 = .ok (.invokevirtual 245, 3) := by decide +kernel
theorem dX11_site_59 : decode cX11_site 59 = .ok (.ireturn, 1) := by decide +kernel
theorem dX11_site_60 : decode cX11_site 60 = .ok (.aload_n 0, 1) := by decide +kernel
theorem dX11_site_61 : decode cX11_site 61 = .ok (.getfield 12, 3) := by decide +kernel
theorem dX11_site_64 : decode cX11_site 64 = .ok (.iload 4, 2) := by decide +kernel
theorem dX11_site_66 : decode cX11_site 66 = .ok (.invokevirtual 248, 3) := by decide +kernel
theorem dX11_site_69 : decode cX11_site 69 = .ok (.ireturn, 1) := by decide +kernel
theorem dX11_place_0 : decode cX11_place 0 = .ok (.aload_n 0, 1) := by decide +kernel
theorem dX11_place_1 : decode cX11_place 1 = .ok (.iload_n 1, 1) := by decide +kernel
theorem dX11_place_2 : decode cX11_place 2 = .ok (.invokevirtual 106, 3) := by decide +kernel
theorem dX11_place_5 : decode cX11_place 5 = .ok (.aload_n 0, 1) := by decide +kernel
theorem dX11_place_6 : decode cX11_place 6 = .ok (.getfield 12, 3) := by decide +kernel
theorem dX11_place_9 : decode cX11_place 9 = .ok (.iload_n 1, 1) := by decide +kernel
theorem dX11_place_10 : decode cX11_place 10 = .ok (.invokevirtual 115, 3) := by decide +kernel
theorem dX11_place_13 : decode cX11_place 13 = .ok (.iload_n 2, 1) := by decide +kernel
theorem dX11_place_14 : decode cX11_place 14 = .ok (.invokevirtual 251, 3) := by decide +kernel
theorem dX11_place_17 : decode cX11_place 17 = .ok (.ireturn, 1) := by decide +kernel
theorem dX11_path_0 : decode cX11_path 0 = .ok (.aload_n 0, 1) := by decide +kernel
theorem dX11_path_1 : decode cX11_path 1 = .ok (.iload_n 1, 1) := by decide +kernel
theorem dX11_path_2 : decode cX11_path 2 = .ok (.invokevirtual 106, 3) := by decide +kernel
theorem dX11_path_5 : decode cX11_path 5 = .ok (.iload_n 2, 1) := by decide +kernel
theorem dX11_path_6 : decode cX11_path 6 = .ok (.iconst 0, 1) := by decide +kernel
theorem dX11_path_7 : decode cX11_path 7 = .ok (.bipush 8, 2) := by decide +kernel
theorem dX11_path_9 : decode cX11_path 9 = .ok (.invokestatic 186, 3) := by decide +kernel
theorem dX11_path_12 : decode cX11_path 12 = .ok (.aload_n 0, 1) := by decide +kernel
theorem dX11_path_13 : decode cX11_path 13 = .ok (.getfield 12, 3) := by decide +kernel
theorem dX11_path_16 : decode cX11_path 16 = .ok (.iload_n 1, 1) := by decide +kernel
theorem dX11_path_17 : decode cX11_path 17 = .ok (.invokevirtual 115, 3) := by decide +kernel
theorem dX11_path_20 : decode cX11_path 20 = .ok (.astore_n 3, 1) := by decide +kernel
theorem dX11_path_21 : decode cX11_path 21 = .ok (.iload_n 2, 1) := by decide +kernel
theorem dX11_path_22 : decode cX11_path 22 = .ok (.tableswitch 104 0 7 #[46, 51, 56, 65, 70, 75, 87, 99], 46) := by decide +kernel
theorem dX11_path_68 : decode cX11_path 68 = .ok (.aload_n 3, 1) := by decide +kernel
theorem dX11_path_69 : decode cX11_path 69 = .ok (.invokevirtual 119, 3) := by decide +kernel
theorem dX11_path_72 : decode cX11_path 72 = .ok (.ireturn, 1) := by decide +kernel
theorem dX11_path_73 : decode cX11_path 73 = .ok (.aload_n 3, 1) := by decide +kernel
theorem dX11_path_74 : decode cX11_path 74 = .ok (.invokevirtual 254, 3) := by decide +kernel
theorem dX11_path_77 : decode cX11_path 77 = .ok (.ireturn, 1) := by decide +kernel
theorem dX11_path_78 : decode cX11_path 78 = .ok (.aload_n 0, 1) := by decide +kernel
theorem dX11_path_79 : decode cX11_path 79 = .ok (.getfield 12, 3) := by decide +kernel
theorem dX11_path_82 : decode cX11_path 82 = .ok (.iload_n 1, 1) := by decide +kernel
theorem dX11_path_83 : decode cX11_path 83 = .ok (.invokevirtual 257, 3) := by decide +kernel
theorem dX11_path_86 : decode cX11_path 86 = .ok (.ireturn, 1) := by decide +kernel
theorem dX11_path_87 : decode cX11_path 87 = .ok (.aload_n 3, 1) := by decide +kernel
theorem dX11_path_88 : decode cX11_path 88 = .ok (.invokevirtual 260, 3) := by decide +kernel
theorem dX11_path_91 : decode cX11_path 91 = .ok (.ireturn, 1) := by decide +kernel
theorem dX11_path_92 : decode cX11_path 92 = .ok (.aload_n 3, 1) := by decide +kernel
theorem dX11_path_93 : decode cX11_path 93 = .ok (.invokevirtual 263, 3) := by decide +kernel
theorem dX11_path_96 : decode cX11_path 96 = .ok (.ireturn, 1) := by decide +kernel
theorem dX11_path_97 : decode cX11_path 97 = .ok (.aload_n 3, 1) := by decide +kernel
theorem dX11_path_98 : decode cX11_path 98 = .ok (.invokevirtual 266, 3) := by decide +kernel
theorem dX11_path_101 : decode cX11_path 101 = .ok (.aload_n 3, 1) := by decide +kernel
theorem dX11_path_102 : decode cX11_path 102 = .ok (.invokevirtual 156, 3) := by decide +kernel
theorem dX11_path_105 : decode cX11_path 105 = .ok (.invokestatic 269, 3) := by decide +kernel
theorem dX11_path_108 : decode cX11_path 108 = .ok (.ireturn, 1) := by decide +kernel
theorem dX11_path_109 : decode cX11_path 109 = .ok (.aload_n 0, 1) := by decide +kernel
theorem dX11_path_110 : decode cX11_path 110 = .ok (.getfield 12, 3) := by decide +kernel
theorem dX11_path_113 : decode cX11_path 113 = .ok (.aload_n 3, 1) := by decide +kernel
theorem dX11_path_114 : decode cX11_path 114 = .ok (.invokevirtual 156, 3) := by decide +kernel
theorem dX11_path_117 : decode cX11_path 117 = .ok (.invokevirtual 248, 3) := by decide +kernel
theorem dX11_path_120 : decode cX11_path 120 = .ok (.ireturn, 1) := by decide +kernel
theorem dX11_path_121 : decode cX11_path 121 = .ok (.aload_n 3, 1) := by decide +kernel
theorem dX11_path_122 : decode cX11_path 122 = .ok (.invokevirtual 272, 3) := by decide +kernel
theorem dX11_path_125 : decode cX11_path 125 = .ok (.ireturn, 1) := by decide +kernel
theorem dX11_path_126 : decode cX11_path 126 = .ok (.aload_n 0, 1) := by decide +kernel
theorem dX11_path_127 : decode cX11_path 127 = .ok (.getfield 12, 3) := by decide +kernel
theorem dX11_path_130 : decode cX11_path 130 = .ok (.iload_n 1, 1) := by decide +kernel
theorem dX11_path_131 : decode cX11_path 131 = .ok (.invokevirtual 275, 3) := by decide +kernel
theorem dX11_path_134 : decode cX11_path 134 = .ok (.ireturn, 1) := by decide +kernel
theorem dX11_trapped_0 : decode cX11_trapped 0 = .ok (.iconst 0, 1) := by decide +kernel
theorem dX11_trapped_1 : decode cX11_trapped 1 = .ok (.istore_n 1, 1) := by decide +kernel
theorem dX11_trapped_2 : decode cX11_trapped 2 = .ok (.iconst 0, 1) := by decide +kernel
theorem dX11_trapped_3 : decode cX11_trapped 3 = .ok (.istore_n 2, 1) := by decide +kernel
theorem dX11_trapped_4 : decode cX11_trapped 4 = .ok (.iload_n 2, 1) := by decide +kernel
theorem dX11_trapped_5 : decode cX11_trapped 5 = .ok (.aload_n 0, 1) := by decide +kernel
theorem dX11_trapped_6 : decode cX11_trapped 6 = .ok (.getfield 12, 3) := by decide +kernel
theorem dX11_trapped_9 : decode cX11_trapped 9 = .ok (.invokevirtual 183, 3) := by decide +kernel
theorem dX11_trapped_12 : decode cX11_trapped 12 = .ok (.if_icmp .ge 36, 3) := by decide +kernel
theorem dX11_trapped_15 : decode cX11_trapped 15 = .ok (.aload_n 0, 1) := by decide +kernel
theorem dX11_trapped_16 : decode cX11_trapped 16 = .ok (.getfield 12, 3) := by decide +kernel
theorem dX11_trapped_19 : decode cX11_trapped 19 = .ok (.aload_n 0, 1) := by decide +kernel
theorem dX11_trapped_20 : decode cX11_trapped 20 = .ok (.getfield 12, 3) := by decide +kernel
theorem dX11_trapped_23 : decode cX11_trapped 23 = .ok (.iload_n 2, 1) := by decide +kernel
theorem dX11_trapped_24 : decode cX11_trapped 24 = .ok (.invokevirtual 115, 3) := by decide +kernel
theorem dX11_trapped_27 : decode cX11_trapped 27 = .ok (.invokevirtual 156, 3) := by decide +kernel
theorem dX11_trapped_30 : decode cX11_trapped 30 = .ok (.invokevirtual 248, 3) := by decide +kernel
theorem dX11_trapped_33 : decode cX11_trapped 33 = .ok (.ifCond .ne 9, 3) := by decide +kernel
theorem dX11_trapped_36 : decode cX11_trapped 36 = .ok (.iload_n 1, 1) := by decide +kernel
theorem dX11_trapped_37 : decode cX11_trapped 37 = .ok (.iconst 1, 1) := by decide +kernel
theorem dX11_trapped_38 : decode cX11_trapped 38 = .ok (.iload_n 2, 1) := by decide +kernel
theorem dX11_trapped_39 : decode cX11_trapped 39 = .ok (.ishl, 1) := by decide +kernel
theorem dX11_trapped_40 : decode cX11_trapped 40 = .ok (.ior, 1) := by decide +kernel
theorem dX11_trapped_41 : decode cX11_trapped 41 = .ok (.istore_n 1, 1) := by decide +kernel
theorem dX11_trapped_42 : decode cX11_trapped 42 = .ok (.iinc 2 1, 3) := by decide +kernel
theorem dX11_trapped_45 : decode cX11_trapped 45 = .ok (.goto (-41), 3) := by decide +kernel
theorem dX11_trapped_48 : decode cX11_trapped 48 = .ok (.iload_n 1, 1) := by decide +kernel
theorem dX11_trapped_49 : decode cX11_trapped 49 = .ok (.ireturn, 1) := by decide +kernel
theorem dX11_touching_0 : decode cX11_touching 0 = .ok (.aload_n 0, 1) := by decide +kernel
theorem dX11_touching_1 : decode cX11_touching 1 = .ok (.iload_n 1, 1) := by decide +kernel
theorem dX11_touching_2 : decode cX11_touching 2 = .ok (.iload_n 2, 1) := by decide +kernel
theorem dX11_touching_3 : decode cX11_touching 3 = .ok (.invokevirtual 153, 3) := by decide +kernel
theorem dX11_touching_6 : decode cX11_touching 6 = .ok (.aload_n 0, 1) := by decide +kernel
theorem dX11_touching_7 : decode cX11_touching 7 = .ok (.getfield 12, 3) := by decide +kernel
theorem dX11_touching_10 : decode cX11_touching 10 = .ok (.iload_n 1, 1) := by decide +kernel
theorem dX11_touching_11 : decode cX11_touching 11 = .ok (.iload_n 2, 1) := by decide +kernel
theorem dX11_touching_12 : decode cX11_touching 12 = .ok (.invokevirtual 278, 3) := by decide +kernel
theorem dX11_touching_15 : decode cX11_touching 15 = .ok (.ireturn, 1) := by decide +kernel
theorem dX11_ifTurned_0 : decode cX11_ifTurned 0 = .ok (.aload_n 0, 1) := by decide +kernel
theorem dX11_ifTurned_1 : decode cX11_ifTurned 1 = .ok (.iload_n 1, 1) := by decide +kernel
theorem dX11_ifTurned_2 : decode cX11_ifTurned 2 = .ok (.iload_n 2, 1) := by decide +kernel
theorem dX11_ifTurned_3 : decode cX11_ifTurned 3 = .ok (.invokevirtual 132, 3) := by decide +kernel
theorem dX11_ifTurned_6 : decode cX11_ifTurned 6 = .ok (.iload_n 3, 1) := by decide +kernel
theorem dX11_ifTurned_7 : decode cX11_ifTurned 7 = .ok (.invokestatic 136, 3) := by decide +kernel
theorem dX11_ifTurned_10 : decode cX11_ifTurned 10 = .ok (.aload_n 0, 1) := by decide +kernel
theorem dX11_ifTurned_11 : decode cX11_ifTurned 11 = .ok (.getfield 47, 3) := by decide +kernel
theorem dX11_ifTurned_14 : decode cX11_ifTurned 14 = .ok (.aload_n 0, 1) := by decide +kernel
theorem dX11_ifTurned_15 : decode cX11_ifTurned 15 = .ok (.getfield 12, 3) := by decide +kernel
theorem dX11_ifTurned_18 : decode cX11_ifTurned 18 = .ok (.iload_n 1, 1) := by decide +kernel
theorem dX11_ifTurned_19 : decode cX11_ifTurned 19 = .ok (.iload_n 2, 1) := by decide +kernel
theorem dX11_ifTurned_20 : decode cX11_ifTurned 20 = .ok (.iload_n 3, 1) := by decide +kernel
theorem dX11_ifTurned_21 : decode cX11_ifTurned 21 = .ok (.invokevirtual 139, 3) := by decide +kernel
theorem dX11_ifTurned_24 : decode cX11_ifTurned 24 = .ok (.ireturn, 1) := by decide +kernel
theorem dX11_count_0 : decode cX11_count 0 = .ok (.iload_n 1, 1) := by decide +kernel
theorem dX11_count_1 : decode cX11_count 1 = .ok (.iconst 0, 1) := by decide +kernel
theorem dX11_count_2 : decode cX11_count 2 = .ok (.bipush 6, 2) := by decide +kernel
theorem dX11_count_4 : decode cX11_count 4 = .ok (.invokestatic 186, 3) := by decide +kernel
theorem dX11_count_7 : decode cX11_count 7 = .ok (.iload_n 1, 1) := by decide +kernel
theorem dX11_count_8 : decode cX11_count 8 = .ok (.tableswitch 88 0 5 #[40, 48, 56, 64, 72, 80], 40) := by decide +kernel
theorem dX11_count_48 : decode cX11_count 48 = .ok (.aload_n 0, 1) := by decide +kernel
theorem dX11_count_49 : decode cX11_count 49 = .ok (.getfield 12, 3) := by decide +kernel
theorem dX11_count_52 : decode cX11_count 52 = .ok (.invokevirtual 183, 3) := by decide +kernel
theorem dX11_count_55 : decode cX11_count 55 = .ok (.ireturn, 1) := by decide +kernel
theorem dX11_count_56 : decode cX11_count 56 = .ok (.aload_n 0, 1) := by decide +kernel
theorem dX11_count_57 : decode cX11_count 57 = .ok (.getfield 12, 3) := by decide +kernel
theorem dX11_count_60 : decode cX11_count 60 = .ok (.invokevirtual 296, 3) := by decide +kernel
theorem dX11_count_63 : decode cX11_count 63 = .ok (.ireturn, 1) := by decide +kernel
theorem dX11_count_64 : decode cX11_count 64 = .ok (.aload_n 0, 1) := by decide +kernel
theorem dX11_count_65 : decode cX11_count 65 = .ok (.getfield 12, 3) := by decide +kernel
theorem dX11_count_68 : decode cX11_count 68 = .ok (.invokevirtual 323, 3) := by decide +kernel
theorem dX11_count_71 : decode cX11_count 71 = .ok (.ireturn, 1) := by decide +kernel
theorem dX11_count_72 : decode cX11_count 72 = .ok (.aload_n 0, 1) := by decide +kernel
theorem dX11_count_73 : decode cX11_count 73 = .ok (.getfield 12, 3) := by decide +kernel
theorem dX11_count_76 : decode cX11_count 76 = .ok (.invokevirtual 326, 3) := by decide +kernel
theorem dX11_count_79 : decode cX11_count 79 = .ok (.ireturn, 1) := by decide +kernel
theorem dX11_count_80 : decode cX11_count 80 = .ok (.aload_n 0, 1) := by decide +kernel
theorem dX11_count_81 : decode cX11_count 81 = .ok (.getfield 12, 3) := by decide +kernel
theorem dX11_count_84 : decode cX11_count 84 = .ok (.invokevirtual 329, 3) := by decide +kernel
theorem dX11_count_87 : decode cX11_count 87 = .ok (.ireturn, 1) := by decide +kernel
theorem dX11_count_88 : decode cX11_count 88 = .ok (.aload_n 0, 1) := by decide +kernel
theorem dX11_count_89 : decode cX11_count 89 = .ok (.getfield 19, 3) := by decide +kernel
theorem dX11_count_92 : decode cX11_count 92 = .ok (.invokevirtual 221, 3) := by decide +kernel
theorem dX11_count_95 : decode cX11_count 95 = .ok (.ireturn, 1) := by decide +kernel
theorem dX11_count_96 : decode cX11_count 96 = .ok (.aload_n 0, 1) := by decide +kernel
theorem dX11_count_97 : decode cX11_count 97 = .ok (.getfield 33, 3) := by decide +kernel
theorem dX11_count_100 : decode cX11_count 100 = .ok (.invokevirtual 196, 3) := by decide +kernel
theorem dX11_count_103 : decode cX11_count 103 = .ok (.ireturn, 1) := by decide +kernel
theorem dX11_spread_0 : decode cX11_spread 0 = .ok (.aload_n 0, 1) := by decide +kernel
theorem dX11_spread_1 : decode cX11_spread 1 = .ok (.iload_n 1, 1) := by decide +kernel
theorem dX11_spread_2 : decode cX11_spread 2 = .ok (.invokevirtual 106, 3) := by decide +kernel
theorem dX11_spread_5 : decode cX11_spread 5 = .ok (.aload_n 0, 1) := by decide +kernel
theorem dX11_spread_6 : decode cX11_spread 6 = .ok (.getfield 12, 3) := by decide +kernel
theorem dX11_spread_9 : decode cX11_spread 9 = .ok (.iload_n 1, 1) := by decide +kernel
theorem dX11_spread_10 : decode cX11_spread 10 = .ok (.invokevirtual 115, 3) := by decide +kernel
theorem dX11_spread_13 : decode cX11_spread 13 = .ok (.astore_n 2, 1) := by decide +kernel
theorem dX11_spread_14 : decode cX11_spread 14 = .ok (.aload_n 2, 1) := by decide +kernel
theorem dX11_spread_15 : decode cX11_spread 15 = .ok (.invokevirtual 119, 3) := by decide +kernel
theorem dX11_spread_18 : decode cX11_spread 18 = .ok (.i2d, 1) := by decide +kernel
theorem dX11_spread_19 : decode cX11_spread 19 = .ok (.dstore_n 3, 1) := by decide +kernel
theorem dX11_spread_20 : decode cX11_spread 20 = .ok (.aload_n 2, 1) := by decide +kernel
theorem dX11_spread_21 : decode cX11_spread 21 = .ok (.invokevirtual 272, 3) := by decide +kernel
theorem dX11_spread_24 : decode cX11_spread 24 = .ok (.i2d, 1) := by decide +kernel
theorem dX11_spread_25 : decode cX11_spread 25 = .ok (.dload_n 3, 1) := by decide +kernel
theorem dX11_spread_26 : decode cX11_spread 26 = .ok (.dload_n 3, 1) := by decide +kernel
theorem dX11_spread_27 : decode cX11_spread 27 = .ok (.dmul, 1) := by decide +kernel
theorem dX11_spread_28 : decode cX11_spread 28 = .ok (.ddiv, 1) := by decide +kernel
theorem dX11_spread_29 : decode cX11_spread 29 = .ok (.dreturn, 1) := by decide +kernel
theorem dX11_share_0 : decode cX11_share 0 = .ok (.aload_n 0, 1) := by decide +kernel
theorem dX11_share_1 : decode cX11_share 1 = .ok (.getfield 12, 3) := by decide +kernel
theorem dX11_share_4 : decode cX11_share 4 = .ok (.invokevirtual 296, 3) := by decide +kernel
theorem dX11_share_7 : decode cX11_share 7 = .ok (.i2f, 1) := by decide +kernel
theorem dX11_share_8 : decode cX11_share 8 = .ok (.ldc_w 332, 3) := by decide +kernel
theorem dX11_share_11 : decode cX11_share 11 = .ok (.fdiv, 1) := by decide +kernel
theorem dX11_share_12 : decode cX11_share 12 = .ok (.freturn, 1) := by decide +kernel
theorem dX11_checkedSite_0 : decode cX11_checkedSite 0 = .ok (.iload_n 0, 1) := by decide +kernel
theorem dX11_checkedSite_1 : decode cX11_checkedSite 1 = .ok (.iload_n 1, 1) := by decide +kernel
theorem dX11_checkedSite_2 : decode cX11_checkedSite 2 = .ok (.invokestatic 336, 3) := by decide +kernel
theorem dX11_checkedSite_5 : decode cX11_checkedSite 5 = .ok (.istore_n 2, 1) := by decide +kernel
theorem dX11_checkedSite_6 : decode cX11_checkedSite 6 = .ok (.iload_n 2, 1) := by decide +kernel
theorem dX11_checkedSite_7 : decode cX11_checkedSite 7 = .ok (.iconst (-1), 1) := by decide +kernel
theorem dX11_checkedSite_8 : decode cX11_checkedSite 8 = .ok (.if_icmp .ne 14, 3) := by decide +kernel
theorem dX11_checkedSite_11 : decode cX11_checkedSite 11 = .ok (.new 170, 3) := by decide +kernel
theorem dX11_checkedSite_14 : decode cX11_checkedSite 14 = .ok (.dup, 1) := by decide +kernel
theorem dX11_checkedSite_15 : decode cX11_checkedSite 15 = .ok (.ldc_w 339, 3) := by decide +kernel
theorem dX11_checkedSite_18 : decode cX11_checkedSite 18 = .ok (.invokespecial 174, 3) := by decide +kernel
theorem dX11_checkedSite_21 : decode cX11_checkedSite 21 = .ok (.athrow, 1) := by decide +kernel
theorem dX11_checkedSite_22 : decode cX11_checkedSite 22 = .ok (.iload_n 2, 1) := by decide +kernel
theorem dX11_checkedSite_23 : decode cX11_checkedSite 23 = .ok (.ireturn, 1) := by decide +kernel
theorem dX11_checkPath_0 : decode cX11_checkPath 0 = .ok (.iload_n 1, 1) := by decide +kernel
theorem dX11_checkPath_1 : decode cX11_checkPath 1 = .ok (.ifCond .lt 14, 3) := by decide +kernel
theorem dX11_checkPath_4 : decode cX11_checkPath 4 = .ok (.iload_n 1, 1) := by decide +kernel
theorem dX11_checkPath_5 : decode cX11_checkPath 5 = .ok (.aload_n 0, 1) := by decide +kernel
theorem dX11_checkPath_6 : decode cX11_checkPath 6 = .ok (.getfield 12, 3) := by decide +kernel
theorem dX11_checkPath_9 : decode cX11_checkPath 9 = .ok (.invokevirtual 183, 3) := by decide +kernel
theorem dX11_checkPath_12 : decode cX11_checkPath 12 = .ok (.if_icmp .lt 14, 3) := by decide +kernel
theorem dX11_checkPath_15 : decode cX11_checkPath 15 = .ok (.new 170, 3) := by decide +kernel
theorem dX11_checkPath_18 : decode cX11_checkPath 18 = .ok (.dup, 1) := by decide +kernel
theorem dX11_checkPath_19 : decode cX11_checkPath 19 = .ok (.ldc_w 341, 3) := by decide +kernel
theorem dX11_checkPath_22 : decode cX11_checkPath 22 = .ok (.invokespecial 174, 3) := by decide +kernel
theorem dX11_checkPath_25 : decode cX11_checkPath 25 = .ok (.athrow, 1) := by decide +kernel
theorem dX11_checkPath_26 : decode cX11_checkPath 26 = .ok (.return_, 1) := by decide +kernel
theorem dX11_checkPlace_0 : decode cX11_checkPlace 0 = .ok (.aload_n 0, 1) := by decide +kernel
theorem dX11_checkPlace_1 : decode cX11_checkPlace 1 = .ok (.iload_n 1, 1) := by decide +kernel
theorem dX11_checkPlace_2 : decode cX11_checkPlace 2 = .ok (.invokevirtual 106, 3) := by decide +kernel
theorem dX11_checkPlace_5 : decode cX11_checkPlace 5 = .ok (.aload_n 0, 1) := by decide +kernel
theorem dX11_checkPlace_6 : decode cX11_checkPlace 6 = .ok (.getfield 12, 3) := by decide +kernel
theorem dX11_checkPlace_9 : decode cX11_checkPlace 9 = .ok (.iload_n 1, 1) := by decide +kernel
theorem dX11_checkPlace_10 : decode cX11_checkPlace 10 = .ok (.invokevirtual 115, 3) := by decide +kernel
theorem dX11_checkPlace_13 : decode cX11_checkPlace 13 = .ok (.iload_n 2, 1) := by decide +kernel
theorem dX11_checkPlace_14 : decode cX11_checkPlace 14 = .ok (.invokevirtual 343, 3) := by decide +kernel
theorem dX11_checkPlace_17 : decode cX11_checkPlace 17 = .ok (.ifCond .ne 14, 3) := by decide +kernel
theorem dX11_checkPlace_20 : decode cX11_checkPlace 20 = .ok (.new 170, 3) := by decide +kernel
theorem dX11_checkPlace_23 : decode cX11_checkPlace 23 = .ok (.dup, 1) := by decide +kernel
theorem dX11_checkPlace_24 : decode cX11_checkPlace 24 = .ok (.ldc_w 346, 3) := by decide +kernel
theorem dX11_checkPlace_27 : decode cX11_checkPlace 27 = .ok (.invokespecial 174, 3) := by decide +kernel
theorem dX11_checkPlace_30 : decode cX11_checkPlace 30 = .ok (.athrow, 1) := by decide +kernel
theorem dX11_checkPlace_31 : decode cX11_checkPlace 31 = .ok (.return_, 1) := by decide +kernel
theorem dX11_checkTwoPaths_0 : decode cX11_checkTwoPaths 0 = .ok (.aload_n 0, 1) := by decide +kernel
theorem dX11_checkTwoPaths_1 : decode cX11_checkTwoPaths 1 = .ok (.iload_n 1, 1) := by decide +kernel
theorem dX11_checkTwoPaths_2 : decode cX11_checkTwoPaths 2 = .ok (.invokevirtual 106, 3) := by decide +kernel
theorem dX11_checkTwoPaths_5 : decode cX11_checkTwoPaths 5 = .ok (.aload_n 0, 1) := by decide +kernel
theorem dX11_checkTwoPaths_6 : decode cX11_checkTwoPaths 6 = .ok (.iload_n 2, 1) := by decide +kernel
theorem dX11_checkTwoPaths_7 : decode cX11_checkTwoPaths 7 = .ok (.invokevirtual 106, 3) := by decide +kernel
theorem dX11_checkTwoPaths_10 : decode cX11_checkTwoPaths 10 = .ok (.iload_n 1, 1) := by decide +kernel
theorem dX11_checkTwoPaths_11 : decode cX11_checkTwoPaths 11 = .ok (.iload_n 2, 1) := by decide +kernel
theorem dX11_checkTwoPaths_12 : decode cX11_checkTwoPaths 12 = .ok (.if_icmp .ne 14, 3) := by decide +kernel
theorem dX11_checkTwoPaths_15 : decode cX11_checkTwoPaths 15 = .ok (.new 206, 3) := by decide +kernel
theorem dX11_checkTwoPaths_18 : decode cX11_checkTwoPaths 18 = .ok (.dup, 1) := by decide +kernel
theorem dX11_checkTwoPaths_19 : decode cX11_checkTwoPaths 19 = .ok (.ldc_w 348, 3) := by decide +kernel
theorem dX11_checkTwoPaths_22 : decode cX11_checkTwoPaths 22 = .ok (.invokespecial 210, 3) := by decide +kernel
theorem dX11_checkTwoPaths_25 : decode cX11_checkTwoPaths 25 = .ok (.athrow, 1) := by decide +kernel
theorem dX11_checkTwoPaths_26 : decode cX11_checkTwoPaths 26 = .ok (.return_, 1) := by decide +kernel
theorem dX11_checkDirection_0 : decode cX11_checkDirection 0 = .ok (.iload_n 0, 1) := by decide +kernel
theorem dX11_checkDirection_1 : decode cX11_checkDirection 1 = .ok (.iconst 0, 1) := by decide +kernel
theorem dX11_checkDirection_2 : decode cX11_checkDirection 2 = .ok (.iconst 3, 1) := by decide +kernel
theorem dX11_checkDirection_3 : decode cX11_checkDirection 3 = .ok (.invokestatic 186, 3) := by decide +kernel
theorem dX11_checkDirection_6 : decode cX11_checkDirection 6 = .ok (.return_, 1) := by decide +kernel
theorem dX11_checkQuarters_0 : decode cX11_checkQuarters 0 = .ok (.iload_n 0, 1) := by decide +kernel
theorem dX11_checkQuarters_1 : decode cX11_checkQuarters 1 = .ok (.iconst 1, 1) := by decide +kernel
theorem dX11_checkQuarters_2 : decode cX11_checkQuarters 2 = .ok (.iconst 3, 1) := by decide +kernel
theorem dX11_checkQuarters_3 : decode cX11_checkQuarters 3 = .ok (.invokestatic 186, 3) := by decide +kernel
theorem dX11_checkQuarters_6 : decode cX11_checkQuarters 6 = .ok (.return_, 1) := by decide +kernel
theorem dX11_checkRange_0 : decode cX11_checkRange 0 = .ok (.iload_n 0, 1) := by decide +kernel
theorem dX11_checkRange_1 : decode cX11_checkRange 1 = .ok (.iload_n 1, 1) := by decide +kernel
theorem dX11_checkRange_2 : decode cX11_checkRange 2 = .ok (.if_icmp .lt 8, 3) := by decide +kernel
theorem dX11_checkRange_5 : decode cX11_checkRange 5 = .ok (.iload_n 0, 1) := by decide +kernel
theorem dX11_checkRange_6 : decode cX11_checkRange 6 = .ok (.iload_n 2, 1) := by decide +kernel
theorem dX11_checkRange_7 : decode cX11_checkRange 7 = .ok (.if_icmp .le 14, 3) := by decide +kernel
theorem dX11_checkRange_10 : decode cX11_checkRange 10 = .ok (.new 206, 3) := by decide +kernel
theorem dX11_checkRange_13 : decode cX11_checkRange 13 = .ok (.dup, 1) := by decide +kernel
theorem dX11_checkRange_14 : decode cX11_checkRange 14 = .ok (.ldc_w 350, 3) := by decide +kernel
theorem dX11_checkRange_17 : decode cX11_checkRange 17 = .ok (.invokespecial 210, 3) := by decide +kernel
theorem dX11_checkRange_20 : decode cX11_checkRange 20 = .ok (.athrow, 1) := by decide +kernel
theorem dX11_checkRange_21 : decode cX11_checkRange 21 = .ok (.return_, 1) := by decide +kernel
theorem dJ9_abs_0f7a4_0 : decode cJ9_abs_0f7a4 0 = .ok (.iload_n 0, 1) := by decide +kernel
theorem dJ9_abs_0f7a4_1 : decode cJ9_abs_0f7a4 1 = .ok (.ifCond .ge 8, 3) := by decide +kernel
theorem dJ9_abs_0f7a4_4 : decode cJ9_abs_0f7a4 4 = .ok (.iload_n 0, 1) := by decide +kernel
theorem dJ9_abs_0f7a4_5 : decode cJ9_abs_0f7a4 5 = .ok (.ineg, 1) := by decide +kernel
theorem dJ9_abs_0f7a4_6 : decode cJ9_abs_0f7a4 6 = .ok (.goto 4, 3) := by decide +kernel
theorem dJ9_abs_0f7a4_9 : decode cJ9_abs_0f7a4 9 = .ok (.iload_n 0, 1) := by decide +kernel
theorem dJ9_abs_0f7a4_10 : decode cJ9_abs_0f7a4 10 = .ok (.ireturn, 1) := by decide +kernel
theorem dJ9_max_7cf53_0 : decode cJ9_max_7cf53 0 = .ok (.iload_n 0, 1) := by decide +kernel
theorem dJ9_max_7cf53_1 : decode cJ9_max_7cf53 1 = .ok (.iload_n 1, 1) := by decide +kernel
theorem dJ9_max_7cf53_2 : decode cJ9_max_7cf53 2 = .ok (.if_icmp .lt 7, 3) := by decide +kernel
theorem dJ9_max_7cf53_5 : decode cJ9_max_7cf53 5 = .ok (.iload_n 0, 1) := by decide +kernel
theorem dJ9_max_7cf53_6 : decode cJ9_max_7cf53 6 = .ok (.goto 4, 3) := by decide +kernel
theorem dJ9_max_7cf53_9 : decode cJ9_max_7cf53 9 = .ok (.iload_n 1, 1) := by decide +kernel
theorem dJ9_max_7cf53_10 : decode cJ9_max_7cf53 10 = .ok (.ireturn, 1) := by decide +kernel
theorem dJ9_min_7cf53_0 : decode cJ9_min_7cf53 0 = .ok (.iload_n 0, 1) := by decide +kernel
theorem dJ9_min_7cf53_1 : decode cJ9_min_7cf53 1 = .ok (.iload_n 1, 1) := by decide +kernel
theorem dJ9_min_7cf53_2 : decode cJ9_min_7cf53 2 = .ok (.if_icmp .gt 7, 3) := by decide +kernel
theorem dJ9_min_7cf53_5 : decode cJ9_min_7cf53 5 = .ok (.iload_n 0, 1) := by decide +kernel
theorem dJ9_min_7cf53_6 : decode cJ9_min_7cf53 6 = .ok (.goto 4, 3) := by decide +kernel
theorem dJ9_min_7cf53_9 : decode cJ9_min_7cf53 9 = .ok (.iload_n 1, 1) := by decide +kernel
theorem dJ9_min_7cf53_10 : decode cJ9_min_7cf53 10 = .ok (.ireturn, 1) := by decide +kernel
theorem dJ7_fill_53178_0 : decode cJ7_fill_53178 0 = .ok (.iconst 0, 1) := by decide +kernel
theorem dJ7_fill_53178_1 : decode cJ7_fill_53178 1 = .ok (.istore_n 2, 1) := by decide +kernel
theorem dJ7_fill_53178_2 : decode cJ7_fill_53178 2 = .ok (.aload_n 0, 1) := by decide +kernel
theorem dJ7_fill_53178_3 : decode cJ7_fill_53178 3 = .ok (.arraylength, 1) := by decide +kernel
theorem dJ7_fill_53178_4 : decode cJ7_fill_53178 4 = .ok (.istore_n 3, 1) := by decide +kernel
theorem dJ7_fill_53178_5 : decode cJ7_fill_53178 5 = .ok (.iload_n 2, 1) := by decide +kernel
theorem dJ7_fill_53178_6 : decode cJ7_fill_53178 6 = .ok (.iload_n 3, 1) := by decide +kernel
theorem dJ7_fill_53178_7 : decode cJ7_fill_53178 7 = .ok (.if_icmp .ge 13, 3) := by decide +kernel
theorem dJ7_fill_53178_10 : decode cJ7_fill_53178 10 = .ok (.aload_n 0, 1) := by decide +kernel
theorem dJ7_fill_53178_11 : decode cJ7_fill_53178 11 = .ok (.iload_n 2, 1) := by decide +kernel
theorem dJ7_fill_53178_12 : decode cJ7_fill_53178 12 = .ok (.iload_n 1, 1) := by decide +kernel
theorem dJ7_fill_53178_13 : decode cJ7_fill_53178 13 = .ok (.iastore, 1) := by decide +kernel
theorem dJ7_fill_53178_14 : decode cJ7_fill_53178 14 = .ok (.iinc 2 1, 3) := by decide +kernel
theorem dJ7_fill_53178_17 : decode cJ7_fill_53178 17 = .ok (.goto (-12), 3) := by decide +kernel
theorem dJ7_fill_53178_20 : decode cJ7_fill_53178 20 = .ok (.return_, 1) := by decide +kernel
theorem dL_cell_0 : decode cL_cell 0 = .ok (.iload_n 1, 1) := by decide +kernel
theorem dL_cell_1 : decode cL_cell 1 = .ok (.aload_n 0, 1) := by decide +kernel
theorem dL_cell_2 : decode cL_cell 2 = .ok (.arraylength, 1) := by decide +kernel
theorem dL_cell_3 : decode cL_cell 3 = .ok (.if_icmp .ge 9, 3) := by decide +kernel
theorem dL_cell_6 : decode cL_cell 6 = .ok (.aload_n 0, 1) := by decide +kernel
theorem dL_cell_7 : decode cL_cell 7 = .ok (.iload_n 1, 1) := by decide +kernel
theorem dL_cell_8 : decode cL_cell 8 = .ok (.iaload, 1) := by decide +kernel
theorem dL_cell_9 : decode cL_cell 9 = .ok (.goto 13, 3) := by decide +kernel
theorem dL_cell_12 : decode cL_cell 12 = .ok (.ldc 7, 2) := by decide +kernel
theorem dL_cell_14 : decode cL_cell 14 = .ok (.iload_n 1, 1) := by decide +kernel
theorem dL_cell_15 : decode cL_cell 15 = .ok (.bipush 7, 2) := by decide +kernel
theorem dL_cell_17 : decode cL_cell 17 = .ok (.iadd, 1) := by decide +kernel
theorem dL_cell_18 : decode cL_cell 18 = .ok (.imul, 1) := by decide +kernel
theorem dL_cell_19 : decode cL_cell 19 = .ok (.ldc 8, 2) := by decide +kernel
theorem dL_cell_21 : decode cL_cell 21 = .ok (.iadd, 1) := by decide +kernel
theorem dL_cell_22 : decode cL_cell 22 = .ok (.ireturn, 1) := by decide +kernel
theorem dL_low_0 : decode cL_low 0 = .ok (.iload_n 0, 1) := by decide +kernel
theorem dL_low_1 : decode cL_low 1 = .ok (.ldc 9, 2) := by decide +kernel
theorem dL_low_3 : decode cL_low 3 = .ok (.iand, 1) := by decide +kernel
theorem dL_low_4 : decode cL_low 4 = .ok (.iload_n 1, 1) := by decide +kernel
theorem dL_low_5 : decode cL_low 5 = .ok (.irem, 1) := by decide +kernel
theorem dL_low_6 : decode cL_low 6 = .ok (.ireturn, 1) := by decide +kernel
theorem dL_start_0 : decode cL_start 0 = .ok (.aload_n 0, 1) := by decide +kernel
theorem dL_start_1 : decode cL_start 1 = .ok (.iload_n 1, 1) := by decide +kernel
theorem dL_start_2 : decode cL_start 2 = .ok (.iload_n 2, 1) := by decide +kernel
theorem dL_start_3 : decode cL_start 3 = .ok (.invokevirtual 10, 3) := by decide +kernel
theorem dL_start_6 : decode cL_start 6 = .ok (.ireturn, 1) := by decide +kernel
theorem dL_start_7 : decode cL_start 7 = .ok (.astore_n 3, 1) := by decide +kernel
theorem dL_start_8 : decode cL_start 8 = .ok (.bipush (-101), 2) := by decide +kernel
theorem dL_start_10 : decode cL_start 10 = .ok (.ireturn, 1) := by decide +kernel
theorem dL_start_11 : decode cL_start 11 = .ok (.astore_n 3, 1) := by decide +kernel
theorem dL_start_12 : decode cL_start 12 = .ok (.bipush (-103), 2) := by decide +kernel
theorem dL_start_14 : decode cL_start 14 = .ok (.ireturn, 1) := by decide +kernel
theorem dL_step_0 : decode cL_step 0 = .ok (.aload_n 0, 1) := by decide +kernel
theorem dL_step_1 : decode cL_step 1 = .ok (.iload_n 1, 1) := by decide +kernel
theorem dL_step_2 : decode cL_step 2 = .ok (.iload_n 2, 1) := by decide +kernel
theorem dL_step_3 : decode cL_step 3 = .ok (.invokevirtual 20, 3) := by decide +kernel
theorem dL_step_6 : decode cL_step 6 = .ok (.ireturn, 1) := by decide +kernel
theorem dL_step_7 : decode cL_step 7 = .ok (.astore_n 3, 1) := by decide +kernel
theorem dL_step_8 : decode cL_step 8 = .ok (.bipush (-101), 2) := by decide +kernel
theorem dL_step_10 : decode cL_step 10 = .ok (.ireturn, 1) := by decide +kernel
theorem dL_step_11 : decode cL_step 11 = .ok (.astore_n 3, 1) := by decide +kernel
theorem dL_step_12 : decode cL_step 12 = .ok (.bipush (-102), 2) := by decide +kernel
theorem dL_step_14 : decode cL_step 14 = .ok (.ireturn, 1) := by decide +kernel
theorem dL_back_0 : decode cL_back 0 = .ok (.aload_n 0, 1) := by decide +kernel
theorem dL_back_1 : decode cL_back 1 = .ok (.iload_n 1, 1) := by decide +kernel
theorem dL_back_2 : decode cL_back 2 = .ok (.invokevirtual 25, 3) := by decide +kernel
theorem dL_back_5 : decode cL_back 5 = .ok (.ireturn, 1) := by decide +kernel
theorem dL_back_6 : decode cL_back 6 = .ok (.astore_n 2, 1) := by decide +kernel
theorem dL_back_7 : decode cL_back 7 = .ok (.bipush (-101), 2) := by decide +kernel
theorem dL_back_9 : decode cL_back 9 = .ok (.ireturn, 1) := by decide +kernel
theorem dL_back_10 : decode cL_back 10 = .ok (.astore_n 2, 1) := by decide +kernel
theorem dL_back_11 : decode cL_back 11 = .ok (.bipush (-103), 2) := by decide +kernel
theorem dL_back_13 : decode cL_back 13 = .ok (.ireturn, 1) := by decide +kernel
theorem dL_slither_0 : decode cL_slither 0 = .ok (.aload_n 0, 1) := by decide +kernel
theorem dL_slither_1 : decode cL_slither 1 = .ok (.iload_n 1, 1) := by decide +kernel
theorem dL_slither_2 : decode cL_slither 2 = .ok (.iload_n 2, 1) := by decide +kernel
theorem dL_slither_3 : decode cL_slither 3 = .ok (.invokevirtual 29, 3) := by decide +kernel
theorem dL_slither_6 : decode cL_slither 6 = .ok (.ireturn, 1) := by decide +kernel
theorem dL_slither_7 : decode cL_slither 7 = .ok (.astore_n 3, 1) := by decide +kernel
theorem dL_slither_8 : decode cL_slither 8 = .ok (.bipush (-101), 2) := by decide +kernel
theorem dL_slither_10 : decode cL_slither 10 = .ok (.ireturn, 1) := by decide +kernel
theorem dL_slither_11 : decode cL_slither 11 = .ok (.astore_n 3, 1) := by decide +kernel
theorem dL_slither_12 : decode cL_slither 12 = .ok (.bipush (-102), 2) := by decide +kernel
theorem dL_slither_14 : decode cL_slither 14 = .ok (.ireturn, 1) := by decide +kernel
theorem dL_turn_0 : decode cL_turn 0 = .ok (.aload_n 0, 1) := by decide +kernel
theorem dL_turn_1 : decode cL_turn 1 = .ok (.iload_n 1, 1) := by decide +kernel
theorem dL_turn_2 : decode cL_turn 2 = .ok (.iload_n 2, 1) := by decide +kernel
theorem dL_turn_3 : decode cL_turn 3 = .ok (.iload_n 3, 1) := by decide +kernel
theorem dL_turn_4 : decode cL_turn 4 = .ok (.invokevirtual 32, 3) := by decide +kernel
theorem dL_turn_7 : decode cL_turn 7 = .ok (.ireturn, 1) := by decide +kernel
theorem dL_turn_8 : decode cL_turn 8 = .ok (.astore 4, 2) := by decide +kernel
theorem dL_turn_10 : decode cL_turn 10 = .ok (.bipush (-101), 2) := by decide +kernel
theorem dL_turn_12 : decode cL_turn 12 = .ok (.ireturn, 1) := by decide +kernel
theorem dL_turn_13 : decode cL_turn 13 = .ok (.astore 4, 2) := by decide +kernel
theorem dL_turn_15 : decode cL_turn 15 = .ok (.bipush (-102), 2) := by decide +kernel
theorem dL_turn_17 : decode cL_turn 17 = .ok (.ireturn, 1) := by decide +kernel
theorem dL_reverse_0 : decode cL_reverse 0 = .ok (.aload_n 0, 1) := by decide +kernel
theorem dL_reverse_1 : decode cL_reverse 1 = .ok (.iload_n 1, 1) := by decide +kernel
theorem dL_reverse_2 : decode cL_reverse 2 = .ok (.invokevirtual 36, 3) := by decide +kernel
theorem dL_reverse_5 : decode cL_reverse 5 = .ok (.ireturn, 1) := by decide +kernel
theorem dL_reverse_6 : decode cL_reverse 6 = .ok (.astore_n 2, 1) := by decide +kernel
theorem dL_reverse_7 : decode cL_reverse 7 = .ok (.bipush (-101), 2) := by decide +kernel
theorem dL_reverse_9 : decode cL_reverse 9 = .ok (.ireturn, 1) := by decide +kernel
theorem dL_join_0 : decode cL_join 0 = .ok (.aload_n 0, 1) := by decide +kernel
theorem dL_join_1 : decode cL_join 1 = .ok (.iload_n 1, 1) := by decide +kernel
theorem dL_join_2 : decode cL_join 2 = .ok (.iload_n 2, 1) := by decide +kernel
theorem dL_join_3 : decode cL_join 3 = .ok (.invokevirtual 39, 3) := by decide +kernel
theorem dL_join_6 : decode cL_join 6 = .ok (.ireturn, 1) := by decide +kernel
theorem dL_join_7 : decode cL_join 7 = .ok (.astore_n 3, 1) := by decide +kernel
theorem dL_join_8 : decode cL_join 8 = .ok (.bipush (-101), 2) := by decide +kernel
theorem dL_join_10 : decode cL_join 10 = .ok (.ireturn, 1) := by decide +kernel
theorem dL_join_11 : decode cL_join 11 = .ok (.astore_n 3, 1) := by decide +kernel
theorem dL_join_12 : decode cL_join 12 = .ok (.bipush (-102), 2) := by decide +kernel
theorem dL_join_14 : decode cL_join 14 = .ok (.ireturn, 1) := by decide +kernel
theorem dL_join_15 : decode cL_join 15 = .ok (.astore_n 3, 1) := by decide +kernel
theorem dL_join_16 : decode cL_join 16 = .ok (.bipush (-103), 2) := by decide +kernel
theorem dL_join_18 : decode cL_join 18 = .ok (.ireturn, 1) := by decide +kernel
theorem dL_split_0 : decode cL_split 0 = .ok (.aload_n 0, 1) := by decide +kernel
theorem dL_split_1 : decode cL_split 1 = .ok (.iload_n 1, 1) := by decide +kernel
theorem dL_split_2 : decode cL_split 2 = .ok (.iload_n 2, 1) := by decide +kernel
theorem dL_split_3 : decode cL_split 3 = .ok (.invokevirtual 42, 3) := by decide +kernel
theorem dL_split_6 : decode cL_split 6 = .ok (.ireturn, 1) := by decide +kernel
theorem dL_split_7 : decode cL_split 7 = .ok (.astore_n 3, 1) := by decide +kernel
theorem dL_split_8 : decode cL_split 8 = .ok (.bipush (-101), 2) := by decide +kernel
theorem dL_split_10 : decode cL_split 10 = .ok (.ireturn, 1) := by decide +kernel
theorem dL_split_11 : decode cL_split 11 = .ok (.astore_n 3, 1) := by decide +kernel
theorem dL_split_12 : decode cL_split 12 = .ok (.bipush (-103), 2) := by decide +kernel
theorem dL_split_14 : decode cL_split 14 = .ok (.ireturn, 1) := by decide +kernel
theorem dL_remove_0 : decode cL_remove 0 = .ok (.aload_n 0, 1) := by decide +kernel
theorem dL_remove_1 : decode cL_remove 1 = .ok (.iload_n 1, 1) := by decide +kernel
theorem dL_remove_2 : decode cL_remove 2 = .ok (.invokevirtual 45, 3) := by decide +kernel
theorem dL_remove_5 : decode cL_remove 5 = .ok (.ireturn, 1) := by decide +kernel
theorem dL_remove_6 : decode cL_remove 6 = .ok (.astore_n 2, 1) := by decide +kernel
theorem dL_remove_7 : decode cL_remove 7 = .ok (.bipush (-101), 2) := by decide +kernel
theorem dL_remove_9 : decode cL_remove 9 = .ok (.ireturn, 1) := by decide +kernel
theorem dL_undo_0 : decode cL_undo 0 = .ok (.aload_n 0, 1) := by decide +kernel
theorem dL_undo_1 : decode cL_undo 1 = .ok (.invokevirtual 48, 3) := by decide +kernel
theorem dL_undo_4 : decode cL_undo 4 = .ok (.ireturn, 1) := by decide +kernel
theorem dL_undo_5 : decode cL_undo 5 = .ok (.astore_n 1, 1) := by decide +kernel
theorem dL_undo_6 : decode cL_undo 6 = .ok (.bipush (-103), 2) := by decide +kernel
theorem dL_undo_8 : decode cL_undo 8 = .ok (.ireturn, 1) := by decide +kernel
theorem dL_site_0 : decode cL_site 0 = .ok (.aload_n 0, 1) := by decide +kernel
theorem dL_site_1 : decode cL_site 1 = .ok (.iload_n 1, 1) := by decide +kernel
theorem dL_site_2 : decode cL_site 2 = .ok (.iload_n 2, 1) := by decide +kernel
theorem dL_site_3 : decode cL_site 3 = .ok (.iload_n 3, 1) := by decide +kernel
theorem dL_site_4 : decode cL_site 4 = .ok (.invokevirtual 52, 3) := by decide +kernel
theorem dL_site_7 : decode cL_site 7 = .ok (.ireturn, 1) := by decide +kernel
theorem dL_site_8 : decode cL_site 8 = .ok (.astore 4, 2) := by decide +kernel
theorem dL_site_10 : decode cL_site 10 = .ok (.bipush (-101), 2) := by decide +kernel
theorem dL_site_12 : decode cL_site 12 = .ok (.ireturn, 1) := by decide +kernel
theorem dL_site_13 : decode cL_site 13 = .ok (.astore 4, 2) := by decide +kernel
theorem dL_site_15 : decode cL_site 15 = .ok (.bipush (-102), 2) := by decide +kernel
theorem dL_site_17 : decode cL_site 17 = .ok (.ireturn, 1) := by decide +kernel
theorem dL_place_0 : decode cL_place 0 = .ok (.aload_n 0, 1) := by decide +kernel
theorem dL_place_1 : decode cL_place 1 = .ok (.iload_n 1, 1) := by decide +kernel
theorem dL_place_2 : decode cL_place 2 = .ok (.iload_n 2, 1) := by decide +kernel
theorem dL_place_3 : decode cL_place 3 = .ok (.invokevirtual 55, 3) := by decide +kernel
theorem dL_place_6 : decode cL_place 6 = .ok (.ireturn, 1) := by decide +kernel
theorem dL_place_7 : decode cL_place 7 = .ok (.astore_n 3, 1) := by decide +kernel
theorem dL_place_8 : decode cL_place 8 = .ok (.bipush (-101), 2) := by decide +kernel
theorem dL_place_10 : decode cL_place 10 = .ok (.ireturn, 1) := by decide +kernel
theorem dL_path_0 : decode cL_path 0 = .ok (.aload_n 0, 1) := by decide +kernel
theorem dL_path_1 : decode cL_path 1 = .ok (.iload_n 1, 1) := by decide +kernel
theorem dL_path_2 : decode cL_path 2 = .ok (.iload_n 2, 1) := by decide +kernel
theorem dL_path_3 : decode cL_path 3 = .ok (.invokevirtual 58, 3) := by decide +kernel
theorem dL_path_6 : decode cL_path 6 = .ok (.ireturn, 1) := by decide +kernel
theorem dL_path_7 : decode cL_path 7 = .ok (.astore_n 3, 1) := by decide +kernel
theorem dL_path_8 : decode cL_path 8 = .ok (.bipush (-101), 2) := by decide +kernel
theorem dL_path_10 : decode cL_path 10 = .ok (.ireturn, 1) := by decide +kernel
theorem dL_path_11 : decode cL_path 11 = .ok (.astore_n 3, 1) := by decide +kernel
theorem dL_path_12 : decode cL_path 12 = .ok (.bipush (-102), 2) := by decide +kernel
theorem dL_path_14 : decode cL_path 14 = .ok (.ireturn, 1) := by decide +kernel
theorem dL_touching_0 : decode cL_touching 0 = .ok (.aload_n 0, 1) := by decide +kernel
theorem dL_touching_1 : decode cL_touching 1 = .ok (.iload_n 1, 1) := by decide +kernel
theorem dL_touching_2 : decode cL_touching 2 = .ok (.iload_n 2, 1) := by decide +kernel
theorem dL_touching_3 : decode cL_touching 3 = .ok (.invokevirtual 61, 3) := by decide +kernel
theorem dL_touching_6 : decode cL_touching 6 = .ok (.ireturn, 1) := by decide +kernel
theorem dL_touching_7 : decode cL_touching 7 = .ok (.astore_n 3, 1) := by decide +kernel
theorem dL_touching_8 : decode cL_touching 8 = .ok (.bipush (-101), 2) := by decide +kernel
theorem dL_touching_10 : decode cL_touching 10 = .ok (.ireturn, 1) := by decide +kernel
theorem dL_touching_11 : decode cL_touching 11 = .ok (.astore_n 3, 1) := by decide +kernel
theorem dL_touching_12 : decode cL_touching 12 = .ok (.bipush (-102), 2) := by decide +kernel
theorem dL_touching_14 : decode cL_touching 14 = .ok (.ireturn, 1) := by decide +kernel
theorem dL_count_0 : decode cL_count 0 = .ok (.aload_n 0, 1) := by decide +kernel
theorem dL_count_1 : decode cL_count 1 = .ok (.iload_n 1, 1) := by decide +kernel
theorem dL_count_2 : decode cL_count 2 = .ok (.invokevirtual 64, 3) := by decide +kernel
theorem dL_count_5 : decode cL_count 5 = .ok (.ireturn, 1) := by decide +kernel
theorem dL_count_6 : decode cL_count 6 = .ok (.astore_n 2, 1) := by decide +kernel
theorem dL_count_7 : decode cL_count 7 = .ok (.bipush (-102), 2) := by decide +kernel
theorem dL_count_9 : decode cL_count 9 = .ok (.ireturn, 1) := by decide +kernel
theorem dL_ifTurned_0 : decode cL_ifTurned 0 = .ok (.aload_n 0, 1) := by decide +kernel
theorem dL_ifTurned_1 : decode cL_ifTurned 1 = .ok (.iload_n 1, 1) := by decide +kernel
theorem dL_ifTurned_2 : decode cL_ifTurned 2 = .ok (.iload_n 2, 1) := by decide +kernel
theorem dL_ifTurned_3 : decode cL_ifTurned 3 = .ok (.iload_n 3, 1) := by decide +kernel
theorem dL_ifTurned_4 : decode cL_ifTurned 4 = .ok (.invokevirtual 67, 3) := by decide +kernel
theorem dL_ifTurned_7 : decode cL_ifTurned 7 = .ok (.ireturn, 1) := by decide +kernel
theorem dL_ifTurned_8 : decode cL_ifTurned 8 = .ok (.astore 4, 2) := by decide +kernel
theorem dL_ifTurned_10 : decode cL_ifTurned 10 = .ok (.bipush (-101), 2) := by decide +kernel
theorem dL_ifTurned_12 : decode cL_ifTurned 12 = .ok (.ireturn, 1) := by decide +kernel
theorem dL_ifTurned_13 : decode cL_ifTurned 13 = .ok (.astore 4, 2) := by decide +kernel
theorem dL_ifTurned_15 : decode cL_ifTurned 15 = .ok (.bipush (-102), 2) := by decide +kernel
theorem dL_ifTurned_17 : decode cL_ifTurned 17 = .ok (.ireturn, 1) := by decide +kernel
theorem dL_at_0 : decode cL_at 0 = .ok (.aload_n 2, 1) := by decide +kernel
theorem dL_at_1 : decode cL_at 1 = .ok (.bipush 12, 2) := by decide +kernel
theorem dL_at_3 : decode cL_at 3 = .ok (.iload_n 0, 1) := by decide +kernel
theorem dL_at_4 : decode cL_at 4 = .ok (.imul, 1) := by decide +kernel
theorem dL_at_5 : decode cL_at 5 = .ok (.iload_n 1, 1) := by decide +kernel
theorem dL_at_6 : decode cL_at 6 = .ok (.iconst 4, 1) := by decide +kernel
theorem dL_at_7 : decode cL_at 7 = .ok (.idiv, 1) := by decide +kernel
theorem dL_at_8 : decode cL_at 8 = .ok (.iadd, 1) := by decide +kernel
theorem dL_at_9 : decode cL_at 9 = .ok (.iaload, 1) := by decide +kernel
theorem dL_at_10 : decode cL_at 10 = .ok (.bipush 7, 2) := by decide +kernel
theorem dL_at_12 : decode cL_at 12 = .ok (.iload_n 1, 1) := by decide +kernel
theorem dL_at_13 : decode cL_at 13 = .ok (.iconst 4, 1) := by decide +kernel
theorem dL_at_14 : decode cL_at 14 = .ok (.irem, 1) := by decide +kernel
theorem dL_at_15 : decode cL_at 15 = .ok (.imul, 1) := by decide +kernel
theorem dL_at_16 : decode cL_at 16 = .ok (.ishr, 1) := by decide +kernel
theorem dL_at_17 : decode cL_at 17 = .ok (.bipush 127, 2) := by decide +kernel
theorem dL_at_19 : decode cL_at 19 = .ok (.iand, 1) := by decide +kernel
theorem dL_at_20 : decode cL_at 20 = .ok (.ireturn, 1) := by decide +kernel
theorem dL_puts_0 : decode cL_puts 0 = .ok (.bipush 12, 2) := by decide +kernel
theorem dL_puts_2 : decode cL_puts 2 = .ok (.iload_n 0, 1) := by decide +kernel
theorem dL_puts_3 : decode cL_puts 3 = .ok (.imul, 1) := by decide +kernel
theorem dL_puts_4 : decode cL_puts 4 = .ok (.iload_n 1, 1) := by decide +kernel
theorem dL_puts_5 : decode cL_puts 5 = .ok (.iconst 4, 1) := by decide +kernel
theorem dL_puts_6 : decode cL_puts 6 = .ok (.idiv, 1) := by decide +kernel
theorem dL_puts_7 : decode cL_puts 7 = .ok (.iadd, 1) := by decide +kernel
theorem dL_puts_8 : decode cL_puts 8 = .ok (.istore 4, 2) := by decide +kernel
theorem dL_puts_10 : decode cL_puts 10 = .ok (.aload_n 3, 1) := by decide +kernel
theorem dL_puts_11 : decode cL_puts 11 = .ok (.iload 4, 2) := by decide +kernel
theorem dL_puts_13 : decode cL_puts 13 = .ok (.aload_n 3, 1) := by decide +kernel
theorem dL_puts_14 : decode cL_puts 14 = .ok (.iload 4, 2) := by decide +kernel
theorem dL_puts_16 : decode cL_puts 16 = .ok (.iaload, 1) := by decide +kernel
theorem dL_puts_17 : decode cL_puts 17 = .ok (.bipush 127, 2) := by decide +kernel
theorem dL_puts_19 : decode cL_puts 19 = .ok (.bipush 7, 2) := by decide +kernel
theorem dL_puts_21 : decode cL_puts 21 = .ok (.iload_n 1, 1) := by decide +kernel
theorem dL_puts_22 : decode cL_puts 22 = .ok (.iconst 4, 1) := by decide +kernel
theorem dL_puts_23 : decode cL_puts 23 = .ok (.irem, 1) := by decide +kernel
theorem dL_puts_24 : decode cL_puts 24 = .ok (.imul, 1) := by decide +kernel
theorem dL_puts_25 : decode cL_puts 25 = .ok (.ishl, 1) := by decide +kernel
theorem dL_puts_26 : decode cL_puts 26 = .ok (.iconst (-1), 1) := by decide +kernel
theorem dL_puts_27 : decode cL_puts 27 = .ok (.ixor, 1) := by decide +kernel
theorem dL_puts_28 : decode cL_puts 28 = .ok (.iand, 1) := by decide +kernel
theorem dL_puts_29 : decode cL_puts 29 = .ok (.iload_n 2, 1) := by decide +kernel
theorem dL_puts_30 : decode cL_puts 30 = .ok (.bipush 7, 2) := by decide +kernel
theorem dL_puts_32 : decode cL_puts 32 = .ok (.iload_n 1, 1) := by decide +kernel
theorem dL_puts_33 : decode cL_puts 33 = .ok (.iconst 4, 1) := by decide +kernel
theorem dL_puts_34 : decode cL_puts 34 = .ok (.irem, 1) := by decide +kernel
theorem dL_puts_35 : decode cL_puts 35 = .ok (.imul, 1) := by decide +kernel
theorem dL_puts_36 : decode cL_puts 36 = .ok (.ishl, 1) := by decide +kernel
theorem dL_puts_37 : decode cL_puts 37 = .ok (.ior, 1) := by decide +kernel
theorem dL_puts_38 : decode cL_puts 38 = .ok (.iastore, 1) := by decide +kernel
theorem dL_puts_39 : decode cL_puts 39 = .ok (.return_, 1) := by decide +kernel
theorem dL_go_0 : decode cL_go 0 = .ok (.iload_n 1, 1) := by decide +kernel
theorem dL_go_1 : decode cL_go 1 = .ok (.ifCond .ne 18, 3) := by decide +kernel
theorem dL_go_4 : decode cL_go 4 = .ok (.iload_n 0, 1) := by decide +kernel
theorem dL_go_5 : decode cL_go 5 = .ok (.bipush 10, 2) := by decide +kernel
theorem dL_go_7 : decode cL_go 7 = .ok (.if_icmp .ge 7, 3) := by decide +kernel
theorem dL_go_10 : decode cL_go 10 = .ok (.iconst (-1), 1) := by decide +kernel
theorem dL_go_11 : decode cL_go 11 = .ok (.goto 7, 3) := by decide +kernel
theorem dL_go_14 : decode cL_go 14 = .ok (.iload_n 0, 1) := by decide +kernel
theorem dL_go_15 : decode cL_go 15 = .ok (.bipush 10, 2) := by decide +kernel
theorem dL_go_17 : decode cL_go 17 = .ok (.isub, 1) := by decide +kernel
theorem dL_go_18 : decode cL_go 18 = .ok (.ireturn, 1) := by decide +kernel
theorem dL_go_19 : decode cL_go 19 = .ok (.iload_n 1, 1) := by decide +kernel
theorem dL_go_20 : decode cL_go 20 = .ok (.iconst 1, 1) := by decide +kernel
theorem dL_go_21 : decode cL_go 21 = .ok (.if_icmp .ne 20, 3) := by decide +kernel
theorem dL_go_24 : decode cL_go 24 = .ok (.iload_n 0, 1) := by decide +kernel
theorem dL_go_25 : decode cL_go 25 = .ok (.bipush 10, 2) := by decide +kernel
theorem dL_go_27 : decode cL_go 27 = .ok (.irem, 1) := by decide +kernel
theorem dL_go_28 : decode cL_go 28 = .ok (.bipush 9, 2) := by decide +kernel
theorem dL_go_30 : decode cL_go 30 = .ok (.if_icmp .ne 7, 3) := by decide +kernel
theorem dL_go_33 : decode cL_go 33 = .ok (.iconst (-1), 1) := by decide +kernel
theorem dL_go_34 : decode cL_go 34 = .ok (.goto 6, 3) := by decide +kernel
theorem dL_go_37 : decode cL_go 37 = .ok (.iload_n 0, 1) := by decide +kernel
theorem dL_go_38 : decode cL_go 38 = .ok (.iconst 1, 1) := by decide +kernel
theorem dL_go_39 : decode cL_go 39 = .ok (.iadd, 1) := by decide +kernel
theorem dL_go_40 : decode cL_go 40 = .ok (.ireturn, 1) := by decide +kernel
theorem dL_go_41 : decode cL_go 41 = .ok (.iload_n 1, 1) := by decide +kernel
theorem dL_go_42 : decode cL_go 42 = .ok (.iconst 2, 1) := by decide +kernel
theorem dL_go_43 : decode cL_go 43 = .ok (.if_icmp .ne 20, 3) := by decide +kernel
theorem dL_go_46 : decode cL_go 46 = .ok (.iload_n 0, 1) := by decide +kernel
theorem dL_go_47 : decode cL_go 47 = .ok (.bipush 89, 2) := by decide +kernel
theorem dL_go_49 : decode cL_go 49 = .ok (.if_icmp .le 7, 3) := by decide +kernel
theorem dL_go_52 : decode cL_go 52 = .ok (.iconst (-1), 1) := by decide +kernel
theorem dL_go_53 : decode cL_go 53 = .ok (.goto 24, 3) := by decide +kernel
theorem dL_go_56 : decode cL_go 56 = .ok (.iload_n 0, 1) := by decide +kernel
theorem dL_go_57 : decode cL_go 57 = .ok (.bipush 10, 2) := by decide +kernel
theorem dL_go_59 : decode cL_go 59 = .ok (.iadd, 1) := by decide +kernel
theorem dL_go_60 : decode cL_go 60 = .ok (.goto 17, 3) := by decide +kernel
theorem dL_go_63 : decode cL_go 63 = .ok (.iload_n 0, 1) := by decide +kernel
theorem dL_go_64 : decode cL_go 64 = .ok (.bipush 10, 2) := by decide +kernel
theorem dL_go_66 : decode cL_go 66 = .ok (.irem, 1) := by decide +kernel
theorem dL_go_67 : decode cL_go 67 = .ok (.ifCond .ne 7, 3) := by decide +kernel
theorem dL_go_70 : decode cL_go 70 = .ok (.iconst (-1), 1) := by decide +kernel
theorem dL_go_71 : decode cL_go 71 = .ok (.goto 6, 3) := by decide +kernel
theorem dL_go_74 : decode cL_go 74 = .ok (.iload_n 0, 1) := by decide +kernel
theorem dL_go_75 : decode cL_go 75 = .ok (.iconst 1, 1) := by decide +kernel
theorem dL_go_76 : decode cL_go 76 = .ok (.isub, 1) := by decide +kernel
theorem dL_go_77 : decode cL_go 77 = .ok (.ireturn, 1) := by decide +kernel
theorem dL_whose_0 : decode cL_whose 0 = .ok (.iconst 0, 1) := by decide +kernel
theorem dL_whose_1 : decode cL_whose 1 = .ok (.istore_n 3, 1) := by decide +kernel
theorem dL_whose_2 : decode cL_whose 2 = .ok (.iload_n 3, 1) := by decide +kernel
theorem dL_whose_3 : decode cL_whose 3 = .ok (.aload_n 1, 1) := by decide +kernel
theorem dL_whose_4 : decode cL_whose 4 = .ok (.iconst 5, 1) := by decide +kernel
theorem dL_whose_5 : decode cL_whose 5 = .ok (.iaload, 1) := by decide +kernel
theorem dL_whose_6 : decode cL_whose 6 = .ok (.if_icmp .ge 45, 3) := by decide +kernel
theorem dL_whose_9 : decode cL_whose 9 = .ok (.iconst 0, 1) := by decide +kernel
theorem dL_whose_10 : decode cL_whose 10 = .ok (.istore 4, 2) := by decide +kernel
theorem dL_whose_12 : decode cL_whose 12 = .ok (.iload 4, 2) := by decide +kernel
theorem dL_whose_14 : decode cL_whose 14 = .ok (.aload_n 1, 1) := by decide +kernel
theorem dL_whose_15 : decode cL_whose 15 = .ok (.iload_n 3, 1) := by decide +kernel
theorem dL_whose_16 : decode cL_whose 16 = .ok (.iaload, 1) := by decide +kernel
theorem dL_whose_17 : decode cL_whose 17 = .ok (.if_icmp .ge 28, 3) := by decide +kernel
theorem dL_whose_20 : decode cL_whose 20 = .ok (.iload_n 3, 1) := by decide +kernel
theorem dL_whose_21 : decode cL_whose 21 = .ok (.iload 4, 2) := by decide +kernel
theorem dL_whose_23 : decode cL_whose 23 = .ok (.aload_n 2, 1) := by decide +kernel
theorem dL_whose_24 : decode cL_whose 24 = .ok (.invokestatic 70, 3) := by decide +kernel
theorem dL_whose_27 : decode cL_whose 27 = .ok (.iload_n 0, 1) := by decide +kernel
theorem dL_whose_28 : decode cL_whose 28 = .ok (.if_icmp .ne 11, 3) := by decide +kernel
theorem dL_whose_31 : decode cL_whose 31 = .ok (.bipush 100, 2) := by decide +kernel
theorem dL_whose_33 : decode cL_whose 33 = .ok (.iload_n 3, 1) := by decide +kernel
theorem dL_whose_34 : decode cL_whose 34 = .ok (.imul, 1) := by decide +kernel
theorem dL_whose_35 : decode cL_whose 35 = .ok (.iload 4, 2) := by decide +kernel
theorem dL_whose_37 : decode cL_whose 37 = .ok (.iadd, 1) := by decide +kernel
theorem dL_whose_38 : decode cL_whose 38 = .ok (.ireturn, 1) := by decide +kernel
theorem dL_whose_39 : decode cL_whose 39 = .ok (.iinc 4 1, 3) := by decide +kernel
theorem dL_whose_42 : decode cL_whose 42 = .ok (.goto (-30), 3) := by decide +kernel
theorem dL_whose_45 : decode cL_whose 45 = .ok (.iinc 3 1, 3) := by decide +kernel
theorem dL_whose_48 : decode cL_whose 48 = .ok (.goto (-46), 3) := by decide +kernel
theorem dL_whose_51 : decode cL_whose 51 = .ok (.iconst (-1), 1) := by decide +kernel
theorem dL_whose_52 : decode cL_whose 52 = .ok (.ireturn, 1) := by decide +kernel
theorem dL_why_0 : decode cL_why 0 = .ok (.iload_n 1, 1) := by decide +kernel
theorem dL_why_1 : decode cL_why 1 = .ok (.ifCond .ge 5, 3) := by decide +kernel
theorem dL_why_4 : decode cL_why 4 = .ok (.iconst 1, 1) := by decide +kernel
theorem dL_why_5 : decode cL_why 5 = .ok (.ireturn, 1) := by decide +kernel
theorem dL_why_6 : decode cL_why 6 = .ok (.iload_n 1, 1) := by decide +kernel
theorem dL_why_7 : decode cL_why 7 = .ok (.aload_n 3, 1) := by decide +kernel
theorem dL_why_8 : decode cL_why 8 = .ok (.aload 4, 2) := by decide +kernel
theorem dL_why_10 : decode cL_why 10 = .ok (.invokestatic 76, 3) := by decide +kernel
theorem dL_why_13 : decode cL_why 13 = .ok (.istore 5, 2) := by decide +kernel
theorem dL_why_15 : decode cL_why 15 = .ok (.iload 5, 2) := by decide +kernel
theorem dL_why_17 : decode cL_why 17 = .ok (.ifCond .lt 9, 3) := by decide +kernel
theorem dL_why_20 : decode cL_why 20 = .ok (.iload 5, 2) := by decide +kernel
theorem dL_why_22 : decode cL_why 22 = .ok (.iload_n 2, 1) := by decide +kernel
theorem dL_why_23 : decode cL_why 23 = .ok (.if_icmp .ne 7, 3) := by decide +kernel
theorem dL_why_26 : decode cL_why 26 = .ok (.iconst 0, 1) := by decide +kernel
theorem dL_why_27 : decode cL_why 27 = .ok (.goto 17, 3) := by decide +kernel
theorem dL_why_30 : decode cL_why 30 = .ok (.iload 5, 2) := by decide +kernel
theorem dL_why_32 : decode cL_why 32 = .ok (.bipush 100, 2) := by decide +kernel
theorem dL_why_34 : decode cL_why 34 = .ok (.idiv, 1) := by decide +kernel
theorem dL_why_35 : decode cL_why 35 = .ok (.iload_n 0, 1) := by decide +kernel
theorem dL_why_36 : decode cL_why 36 = .ok (.if_icmp .ne 7, 3) := by decide +kernel
theorem dL_why_39 : decode cL_why 39 = .ok (.iconst 2, 1) := by decide +kernel
theorem dL_why_40 : decode cL_why 40 = .ok (.goto 4, 3) := by decide +kernel
theorem dL_why_43 : decode cL_why 43 = .ok (.iconst 3, 1) := by decide +kernel
theorem dL_why_44 : decode cL_why 44 = .ok (.ireturn, 1) := by decide +kernel
theorem dL_turned_0 : decode cL_turned 0 = .ok (.iload_n 0, 1) := by decide +kernel
theorem dL_turned_1 : decode cL_turned 1 = .ok (.bipush 10, 2) := by decide +kernel
theorem dL_turned_3 : decode cL_turned 3 = .ok (.irem, 1) := by decide +kernel
theorem dL_turned_4 : decode cL_turned 4 = .ok (.iload_n 1, 1) := by decide +kernel
theorem dL_turned_5 : decode cL_turned 5 = .ok (.bipush 10, 2) := by decide +kernel
theorem dL_turned_7 : decode cL_turned 7 = .ok (.irem, 1) := by decide +kernel
theorem dL_turned_8 : decode cL_turned 8 = .ok (.isub, 1) := by decide +kernel
theorem dL_turned_9 : decode cL_turned 9 = .ok (.istore_n 3, 1) := by decide +kernel
theorem dL_turned_10 : decode cL_turned 10 = .ok (.iload_n 0, 1) := by decide +kernel
theorem dL_turned_11 : decode cL_turned 11 = .ok (.bipush 10, 2) := by decide +kernel
theorem dL_turned_13 : decode cL_turned 13 = .ok (.idiv, 1) := by decide +kernel
theorem dL_turned_14 : decode cL_turned 14 = .ok (.iload_n 1, 1) := by decide +kernel
theorem dL_turned_15 : decode cL_turned 15 = .ok (.bipush 10, 2) := by decide +kernel
theorem dL_turned_17 : decode cL_turned 17 = .ok (.idiv, 1) := by decide +kernel
theorem dL_turned_18 : decode cL_turned 18 = .ok (.isub, 1) := by decide +kernel
theorem dL_turned_19 : decode cL_turned 19 = .ok (.istore 4, 2) := by decide +kernel
theorem dL_turned_21 : decode cL_turned 21 = .ok (.iload_n 1, 1) := by decide +kernel
theorem dL_turned_22 : decode cL_turned 22 = .ok (.bipush 10, 2) := by decide +kernel
theorem dL_turned_24 : decode cL_turned 24 = .ok (.irem, 1) := by decide +kernel
theorem dL_turned_25 : decode cL_turned 25 = .ok (.iload_n 2, 1) := by decide +kernel
theorem dL_turned_26 : decode cL_turned 26 = .ok (.iconst 1, 1) := by decide +kernel
theorem dL_turned_27 : decode cL_turned 27 = .ok (.if_icmp .ne 9, 3) := by decide +kernel
theorem dL_turned_30 : decode cL_turned 30 = .ok (.iload 4, 2) := by decide +kernel
theorem dL_turned_32 : decode cL_turned 32 = .ok (.ineg, 1) := by decide +kernel
theorem dL_turned_33 : decode cL_turned 33 = .ok (.goto 15, 3) := by decide +kernel
theorem dL_turned_36 : decode cL_turned 36 = .ok (.iload_n 2, 1) := by decide +kernel
theorem dL_turned_37 : decode cL_turned 37 = .ok (.iconst 2, 1) := by decide +kernel
theorem dL_turned_38 : decode cL_turned 38 = .ok (.if_icmp .ne 8, 3) := by decide +kernel
theorem dL_turned_41 : decode cL_turned 41 = .ok (.iload_n 3, 1) := by decide +kernel
theorem dL_turned_42 : decode cL_turned 42 = .ok (.ineg, 1) := by decide +kernel
theorem dL_turned_43 : decode cL_turned 43 = .ok (.goto 5, 3) := by decide +kernel
theorem dL_turned_46 : decode cL_turned 46 = .ok (.iload 4, 2) := by decide +kernel
theorem dL_turned_48 : decode cL_turned 48 = .ok (.iadd, 1) := by decide +kernel
theorem dL_turned_49 : decode cL_turned 49 = .ok (.istore 5, 2) := by decide +kernel
theorem dL_turned_51 : decode cL_turned 51 = .ok (.iload_n 1, 1) := by decide +kernel
theorem dL_turned_52 : decode cL_turned 52 = .ok (.bipush 10, 2) := by decide +kernel
theorem dL_turned_54 : decode cL_turned 54 = .ok (.idiv, 1) := by decide +kernel
theorem dL_turned_55 : decode cL_turned 55 = .ok (.iload_n 2, 1) := by decide +kernel
theorem dL_turned_56 : decode cL_turned 56 = .ok (.iconst 1, 1) := by decide +kernel
theorem dL_turned_57 : decode cL_turned 57 = .ok (.if_icmp .ne 7, 3) := by decide +kernel
theorem dL_turned_60 : decode cL_turned 60 = .ok (.iload_n 3, 1) := by decide +kernel
theorem dL_turned_61 : decode cL_turned 61 = .ok (.goto 16, 3) := by decide +kernel
theorem dL_turned_64 : decode cL_turned 64 = .ok (.iload_n 2, 1) := by decide +kernel
theorem dL_turned_65 : decode cL_turned 65 = .ok (.iconst 2, 1) := by decide +kernel
theorem dL_turned_66 : decode cL_turned 66 = .ok (.if_icmp .ne 9, 3) := by decide +kernel
theorem dL_turned_69 : decode cL_turned 69 = .ok (.iload 4, 2) := by decide +kernel
theorem dL_turned_71 : decode cL_turned 71 = .ok (.ineg, 1) := by decide +kernel
theorem dL_turned_72 : decode cL_turned 72 = .ok (.goto 5, 3) := by decide +kernel
theorem dL_turned_75 : decode cL_turned 75 = .ok (.iload_n 3, 1) := by decide +kernel
theorem dL_turned_76 : decode cL_turned 76 = .ok (.ineg, 1) := by decide +kernel
theorem dL_turned_77 : decode cL_turned 77 = .ok (.iadd, 1) := by decide +kernel
theorem dL_turned_78 : decode cL_turned 78 = .ok (.istore 6, 2) := by decide +kernel
theorem dL_turned_80 : decode cL_turned 80 = .ok (.iload 5, 2) := by decide +kernel
theorem dL_turned_82 : decode cL_turned 82 = .ok (.ifCond .lt 22, 3) := by decide +kernel
theorem dL_turned_85 : decode cL_turned 85 = .ok (.iload 5, 2) := by decide +kernel
theorem dL_turned_87 : decode cL_turned 87 = .ok (.bipush 9, 2) := by decide +kernel
theorem dL_turned_89 : decode cL_turned 89 = .ok (.if_icmp .gt 15, 3) := by decide +kernel
theorem dL_turned_92 : decode cL_turned 92 = .ok (.iload 6, 2) := by decide +kernel
theorem dL_turned_94 : decode cL_turned 94 = .ok (.ifCond .lt 10, 3) := by decide +kernel
theorem dL_turned_97 : decode cL_turned 97 = .ok (.iload 6, 2) := by decide +kernel
theorem dL_turned_99 : decode cL_turned 99 = .ok (.bipush 9, 2) := by decide +kernel
theorem dL_turned_101 : decode cL_turned 101 = .ok (.if_icmp .le 7, 3) := by decide +kernel
theorem dL_turned_104 : decode cL_turned 104 = .ok (.iconst (-1), 1) := by decide +kernel
theorem dL_turned_105 : decode cL_turned 105 = .ok (.goto 11, 3) := by decide +kernel
theorem dL_turned_108 : decode cL_turned 108 = .ok (.bipush 10, 2) := by decide +kernel
theorem dL_turned_110 : decode cL_turned 110 = .ok (.iload 6, 2) := by decide +kernel
theorem dL_turned_112 : decode cL_turned 112 = .ok (.imul, 1) := by decide +kernel
theorem dL_turned_113 : decode cL_turned 113 = .ok (.iload 5, 2) := by decide +kernel
theorem dL_turned_115 : decode cL_turned 115 = .ok (.iadd, 1) := by decide +kernel
theorem dL_turned_116 : decode cL_turned 116 = .ok (.ireturn, 1) := by decide +kernel
theorem dL_whyNotTurned_0 : decode cL_whyNotTurned 0 = .ok (.iconst 0, 1) := by decide +kernel
theorem dL_whyNotTurned_1 : decode cL_whyNotTurned 1 = .ok (.istore 5, 2) := by decide +kernel
theorem dL_whyNotTurned_3 : decode cL_whyNotTurned 3 = .ok (.iconst 0, 1) := by decide +kernel
theorem dL_whyNotTurned_4 : decode cL_whyNotTurned 4 = .ok (.istore 6, 2) := by decide +kernel
theorem dL_whyNotTurned_6 : decode cL_whyNotTurned 6 = .ok (.iconst 0, 1) := by decide +kernel
theorem dL_whyNotTurned_7 : decode cL_whyNotTurned 7 = .ok (.istore 7, 2) := by decide +kernel
theorem dL_whyNotTurned_9 : decode cL_whyNotTurned 9 = .ok (.iload_n 1, 1) := by decide +kernel
theorem dL_whyNotTurned_10 : decode cL_whyNotTurned 10 = .ok (.iconst 1, 1) := by decide +kernel
theorem dL_whyNotTurned_11 : decode cL_whyNotTurned 11 = .ok (.iadd, 1) := by decide +kernel
theorem dL_whyNotTurned_12 : decode cL_whyNotTurned 12 = .ok (.istore 8, 2) := by decide +kernel
theorem dL_whyNotTurned_14 : decode cL_whyNotTurned 14 = .ok (.iload 8, 2) := by decide +kernel
theorem dL_whyNotTurned_16 : decode cL_whyNotTurned 16 = .ok (.aload_n 3, 1) := by decide +kernel
theorem dL_whyNotTurned_17 : decode cL_whyNotTurned 17 = .ok (.iload_n 0, 1) := by decide +kernel
theorem dL_whyNotTurned_18 : decode cL_whyNotTurned 18 = .ok (.iaload, 1) := by decide +kernel
theorem dL_whyNotTurned_19 : decode cL_whyNotTurned 19 = .ok (.if_icmp .ge 127, 3) := by decide +kernel
theorem dL_whyNotTurned_22 : decode cL_whyNotTurned 22 = .ok (.iload_n 0, 1) := by decide +kernel
theorem dL_whyNotTurned_23 : decode cL_whyNotTurned 23 = .ok (.iload 8, 2) := by decide +kernel
theorem dL_whyNotTurned_25 : decode cL_whyNotTurned 25 = .ok (.aload 4, 2) := by decide +kernel
theorem dL_whyNotTurned_27 : decode cL_whyNotTurned 27 = .ok (.invokestatic 70, 3) := by decide +kernel
theorem dL_whyNotTurned_30 : decode cL_whyNotTurned 30 = .ok (.iload_n 0, 1) := by decide +kernel
theorem dL_whyNotTurned_31 : decode cL_whyNotTurned 31 = .ok (.iload_n 1, 1) := by decide +kernel
theorem dL_whyNotTurned_32 : decode cL_whyNotTurned 32 = .ok (.aload 4, 2) := by decide +kernel
theorem dL_whyNotTurned_34 : decode cL_whyNotTurned 34 = .ok (.invokestatic 70, 3) := by decide +kernel
theorem dL_whyNotTurned_37 : decode cL_whyNotTurned 37 = .ok (.iload_n 2, 1) := by decide +kernel
theorem dL_whyNotTurned_38 : decode cL_whyNotTurned 38 = .ok (.invokestatic 80, 3) := by decide +kernel
theorem dL_whyNotTurned_41 : decode cL_whyNotTurned 41 = .ok (.istore 9, 2) := by decide +kernel
theorem dL_whyNotTurned_43 : decode cL_whyNotTurned 43 = .ok (.iload 9, 2) := by decide +kernel
theorem dL_whyNotTurned_45 : decode cL_whyNotTurned 45 = .ok (.ifCond .ge 7, 3) := by decide +kernel
theorem dL_whyNotTurned_48 : decode cL_whyNotTurned 48 = .ok (.iconst (-1), 1) := by decide +kernel
theorem dL_whyNotTurned_49 : decode cL_whyNotTurned 49 = .ok (.goto 11, 3) := by decide +kernel
theorem dL_whyNotTurned_52 : decode cL_whyNotTurned 52 = .ok (.iload 9, 2) := by decide +kernel
theorem dL_whyNotTurned_54 : decode cL_whyNotTurned 54 = .ok (.aload_n 3, 1) := by decide +kernel
theorem dL_whyNotTurned_55 : decode cL_whyNotTurned 55 = .ok (.aload 4, 2) := by decide +kernel
theorem dL_whyNotTurned_57 : decode cL_whyNotTurned 57 = .ok (.invokestatic 76, 3) := by decide +kernel
theorem dL_whyNotTurned_60 : decode cL_whyNotTurned 60 = .ok (.istore 10, 2) := by decide +kernel
theorem dL_whyNotTurned_62 : decode cL_whyNotTurned 62 = .ok (.iload 5, 2) := by decide +kernel
theorem dL_whyNotTurned_64 : decode cL_whyNotTurned 64 = .ok (.ifCond .ne 8, 3) := by decide +kernel
theorem dL_whyNotTurned_67 : decode cL_whyNotTurned 67 = .ok (.iload 9, 2) := by decide +kernel
theorem dL_whyNotTurned_69 : decode cL_whyNotTurned 69 = .ok (.ifCond .ge 7, 3) := by decide +kernel
theorem dL_whyNotTurned_72 : decode cL_whyNotTurned 72 = .ok (.iconst 1, 1) := by decide +kernel
theorem dL_whyNotTurned_73 : decode cL_whyNotTurned 73 = .ok (.goto 4, 3) := by decide +kernel
theorem dL_whyNotTurned_76 : decode cL_whyNotTurned 76 = .ok (.iconst 0, 1) := by decide +kernel
theorem dL_whyNotTurned_77 : decode cL_whyNotTurned 77 = .ok (.istore 5, 2) := by decide +kernel
theorem dL_whyNotTurned_79 : decode cL_whyNotTurned 79 = .ok (.iload 6, 2) := by decide +kernel
theorem dL_whyNotTurned_81 : decode cL_whyNotTurned 81 = .ok (.ifCond .ne 26, 3) := by decide +kernel
theorem dL_whyNotTurned_84 : decode cL_whyNotTurned 84 = .ok (.iload 10, 2) := by decide +kernel
theorem dL_whyNotTurned_86 : decode cL_whyNotTurned 86 = .ok (.ifCond .lt 25, 3) := by decide +kernel
theorem dL_whyNotTurned_89 : decode cL_whyNotTurned 89 = .ok (.iload 10, 2) := by decide +kernel
theorem dL_whyNotTurned_91 : decode cL_whyNotTurned 91 = .ok (.bipush 100, 2) := by decide +kernel
theorem dL_whyNotTurned_93 : decode cL_whyNotTurned 93 = .ok (.idiv, 1) := by decide +kernel
theorem dL_whyNotTurned_94 : decode cL_whyNotTurned 94 = .ok (.iload_n 0, 1) := by decide +kernel
theorem dL_whyNotTurned_95 : decode cL_whyNotTurned 95 = .ok (.if_icmp .ne 16, 3) := by decide +kernel
theorem dL_whyNotTurned_98 : decode cL_whyNotTurned 98 = .ok (.iload 10, 2) := by decide +kernel
theorem dL_whyNotTurned_100 : decode cL_whyNotTurned 100 = .ok (.bipush 100, 2) := by decide +kernel
theorem dL_whyNotTurned_102 : decode cL_whyNotTurned 102 = .ok (.irem, 1) := by decide +kernel
theorem dL_whyNotTurned_103 : decode cL_whyNotTurned 103 = .ok (.iload_n 1, 1) := by decide +kernel
theorem dL_whyNotTurned_104 : decode cL_whyNotTurned 104 = .ok (.if_icmp .gt 7, 3) := by decide +kernel
theorem dL_whyNotTurned_107 : decode cL_whyNotTurned 107 = .ok (.iconst 1, 1) := by decide +kernel
theorem dL_whyNotTurned_108 : decode cL_whyNotTurned 108 = .ok (.goto 4, 3) := by decide +kernel
theorem dL_whyNotTurned_111 : decode cL_whyNotTurned 111 = .ok (.iconst 0, 1) := by decide +kernel
theorem dL_whyNotTurned_112 : decode cL_whyNotTurned 112 = .ok (.istore 6, 2) := by decide +kernel
theorem dL_whyNotTurned_114 : decode cL_whyNotTurned 114 = .ok (.iload 7, 2) := by decide +kernel
theorem dL_whyNotTurned_116 : decode cL_whyNotTurned 116 = .ok (.ifCond .ne 17, 3) := by decide +kernel
theorem dL_whyNotTurned_119 : decode cL_whyNotTurned 119 = .ok (.iload 10, 2) := by decide +kernel
theorem dL_whyNotTurned_121 : decode cL_whyNotTurned 121 = .ok (.ifCond .lt 16, 3) := by decide +kernel
theorem dL_whyNotTurned_124 : decode cL_whyNotTurned 124 = .ok (.iload 10, 2) := by decide +kernel
theorem dL_whyNotTurned_126 : decode cL_whyNotTurned 126 = .ok (.bipush 100, 2) := by decide +kernel
theorem dL_whyNotTurned_128 : decode cL_whyNotTurned 128 = .ok (.idiv, 1) := by decide +kernel
theorem dL_whyNotTurned_129 : decode cL_whyNotTurned 129 = .ok (.iload_n 0, 1) := by decide +kernel
theorem dL_whyNotTurned_130 : decode cL_whyNotTurned 130 = .ok (.if_icmp .eq 7, 3) := by decide +kernel
theorem dL_whyNotTurned_133 : decode cL_whyNotTurned 133 = .ok (.iconst 1, 1) := by decide +kernel
theorem dL_whyNotTurned_134 : decode cL_whyNotTurned 134 = .ok (.goto 4, 3) := by decide +kernel
theorem dL_whyNotTurned_137 : decode cL_whyNotTurned 137 = .ok (.iconst 0, 1) := by decide +kernel
theorem dL_whyNotTurned_138 : decode cL_whyNotTurned 138 = .ok (.istore 7, 2) := by decide +kernel
theorem dL_whyNotTurned_140 : decode cL_whyNotTurned 140 = .ok (.iinc 8 1, 3) := by decide +kernel
theorem dL_whyNotTurned_143 : decode cL_whyNotTurned 143 = .ok (.goto (-129), 3) := by decide +kernel
theorem dL_whyNotTurned_146 : decode cL_whyNotTurned 146 = .ok (.iload 5, 2) := by decide +kernel
theorem dL_whyNotTurned_148 : decode cL_whyNotTurned 148 = .ok (.ifCond .eq 7, 3) := by decide +kernel
theorem dL_whyNotTurned_151 : decode cL_whyNotTurned 151 = .ok (.iconst 1, 1) := by decide +kernel
theorem dL_whyNotTurned_152 : decode cL_whyNotTurned 152 = .ok (.goto 22, 3) := by decide +kernel
theorem dL_whyNotTurned_155 : decode cL_whyNotTurned 155 = .ok (.iload 6, 2) := by decide +kernel
theorem dL_whyNotTurned_157 : decode cL_whyNotTurned 157 = .ok (.ifCond .eq 7, 3) := by decide +kernel
theorem dL_whyNotTurned_160 : decode cL_whyNotTurned 160 = .ok (.iconst 2, 1) := by decide +kernel
theorem dL_whyNotTurned_161 : decode cL_whyNotTurned 161 = .ok (.goto 13, 3) := by decide +kernel
theorem dL_whyNotTurned_164 : decode cL_whyNotTurned 164 = .ok (.iload 7, 2) := by decide +kernel
theorem dL_whyNotTurned_166 : decode cL_whyNotTurned 166 = .ok (.ifCond .eq 7, 3) := by decide +kernel
theorem dL_whyNotTurned_169 : decode cL_whyNotTurned 169 = .ok (.iconst 3, 1) := by decide +kernel
theorem dL_whyNotTurned_170 : decode cL_whyNotTurned 170 = .ok (.goto 4, 3) := by decide +kernel
theorem dL_whyNotTurned_173 : decode cL_whyNotTurned 173 = .ok (.iconst 0, 1) := by decide +kernel
theorem dL_whyNotTurned_174 : decode cL_whyNotTurned 174 = .ok (.ireturn, 1) := by decide +kernel
theorem dL_drops_0 : decode cL_drops 0 = .ok (.iload_n 0, 1) := by decide +kernel
theorem dL_drops_1 : decode cL_drops 1 = .ok (.istore_n 3, 1) := by decide +kernel
theorem dL_drops_2 : decode cL_drops 2 = .ok (.iload_n 3, 1) := by decide +kernel
theorem dL_drops_3 : decode cL_drops 3 = .ok (.iconst 4, 1) := by decide +kernel
theorem dL_drops_4 : decode cL_drops 4 = .ok (.if_icmp .ge 53, 3) := by decide +kernel
theorem dL_drops_7 : decode cL_drops 7 = .ok (.aload_n 1, 1) := by decide +kernel
theorem dL_drops_8 : decode cL_drops 8 = .ok (.iload_n 3, 1) := by decide +kernel
theorem dL_drops_9 : decode cL_drops 9 = .ok (.aload_n 1, 1) := by decide +kernel
theorem dL_drops_10 : decode cL_drops 10 = .ok (.iload_n 3, 1) := by decide +kernel
theorem dL_drops_11 : decode cL_drops 11 = .ok (.iconst 1, 1) := by decide +kernel
theorem dL_drops_12 : decode cL_drops 12 = .ok (.iadd, 1) := by decide +kernel
theorem dL_drops_13 : decode cL_drops 13 = .ok (.iaload, 1) := by decide +kernel
theorem dL_drops_14 : decode cL_drops 14 = .ok (.iastore, 1) := by decide +kernel
theorem dL_drops_15 : decode cL_drops 15 = .ok (.iconst 0, 1) := by decide +kernel
theorem dL_drops_16 : decode cL_drops 16 = .ok (.istore 4, 2) := by decide +kernel
theorem dL_drops_18 : decode cL_drops 18 = .ok (.iload 4, 2) := by decide +kernel
theorem dL_drops_20 : decode cL_drops 20 = .ok (.bipush 12, 2) := by decide +kernel
theorem dL_drops_22 : decode cL_drops 22 = .ok (.if_icmp .ge 29, 3) := by decide +kernel
theorem dL_drops_25 : decode cL_drops 25 = .ok (.aload_n 2, 1) := by decide +kernel
theorem dL_drops_26 : decode cL_drops 26 = .ok (.bipush 12, 2) := by decide +kernel
theorem dL_drops_28 : decode cL_drops 28 = .ok (.iload_n 3, 1) := by decide +kernel
theorem dL_drops_29 : decode cL_drops 29 = .ok (.imul, 1) := by decide +kernel
theorem dL_drops_30 : decode cL_drops 30 = .ok (.iload 4, 2) := by decide +kernel
theorem dL_drops_32 : decode cL_drops 32 = .ok (.iadd, 1) := by decide +kernel
theorem dL_drops_33 : decode cL_drops 33 = .ok (.aload_n 2, 1) := by decide +kernel
theorem dL_drops_34 : decode cL_drops 34 = .ok (.bipush 12, 2) := by decide +kernel
theorem dL_drops_36 : decode cL_drops 36 = .ok (.iload_n 3, 1) := by decide +kernel
theorem dL_drops_37 : decode cL_drops 37 = .ok (.iconst 1, 1) := by decide +kernel
theorem dL_drops_38 : decode cL_drops 38 = .ok (.iadd, 1) := by decide +kernel
theorem dL_drops_39 : decode cL_drops 39 = .ok (.imul, 1) := by decide +kernel
theorem dL_drops_40 : decode cL_drops 40 = .ok (.iload 4, 2) := by decide +kernel
theorem dL_drops_42 : decode cL_drops 42 = .ok (.iadd, 1) := by decide +kernel
theorem dL_drops_43 : decode cL_drops 43 = .ok (.iaload, 1) := by decide +kernel
theorem dL_drops_44 : decode cL_drops 44 = .ok (.iastore, 1) := by decide +kernel
theorem dL_drops_45 : decode cL_drops 45 = .ok (.iinc 4 1, 3) := by decide +kernel
theorem dL_drops_48 : decode cL_drops 48 = .ok (.goto (-30), 3) := by decide +kernel
theorem dL_drops_51 : decode cL_drops 51 = .ok (.iinc 3 1, 3) := by decide +kernel
theorem dL_drops_54 : decode cL_drops 54 = .ok (.goto (-52), 3) := by decide +kernel
theorem dL_drops_57 : decode cL_drops 57 = .ok (.aload_n 1, 1) := by decide +kernel
theorem dL_drops_58 : decode cL_drops 58 = .ok (.iconst 4, 1) := by decide +kernel
theorem dL_drops_59 : decode cL_drops 59 = .ok (.iconst 0, 1) := by decide +kernel
theorem dL_drops_60 : decode cL_drops 60 = .ok (.iastore, 1) := by decide +kernel
theorem dL_drops_61 : decode cL_drops 61 = .ok (.aload_n 1, 1) := by decide +kernel
theorem dL_drops_62 : decode cL_drops 62 = .ok (.iconst 5, 1) := by decide +kernel
theorem dL_drops_63 : decode cL_drops 63 = .ok (.dup2, 1) := by decide +kernel
theorem dL_drops_64 : decode cL_drops 64 = .ok (.iaload, 1) := by decide +kernel
theorem dL_drops_65 : decode cL_drops 65 = .ok (.iconst 1, 1) := by decide +kernel
theorem dL_drops_66 : decode cL_drops 66 = .ok (.isub, 1) := by decide +kernel
theorem dL_drops_67 : decode cL_drops 67 = .ok (.iastore, 1) := by decide +kernel
theorem dL_drops_68 : decode cL_drops 68 = .ok (.return_, 1) := by decide +kernel
theorem dL_told_0 : decode cL_told 0 = .ok (.ldc2_w 83, 3) := by decide +kernel
theorem dL_told_3 : decode cL_told 3 = .ok (.lstore_n 1, 1) := by decide +kernel
theorem dL_told_4 : decode cL_told 4 = .ok (.iconst 0, 1) := by decide +kernel
theorem dL_told_5 : decode cL_told 5 = .ok (.istore_n 3, 1) := by decide +kernel
theorem dL_told_6 : decode cL_told 6 = .ok (.iload_n 3, 1) := by decide +kernel
theorem dL_told_7 : decode cL_told 7 = .ok (.iconst 5, 1) := by decide +kernel
theorem dL_told_8 : decode cL_told 8 = .ok (.if_icmp .ge 22, 3) := by decide +kernel
theorem dL_told_11 : decode cL_told 11 = .ok (.ldc2_w 85, 3) := by decide +kernel
theorem dL_told_14 : decode cL_told 14 = .ok (.lload_n 1, 1) := by decide +kernel
theorem dL_told_15 : decode cL_told 15 = .ok (.lmul, 1) := by decide +kernel
theorem dL_told_16 : decode cL_told 16 = .ok (.aload_n 0, 1) := by decide +kernel
theorem dL_told_17 : decode cL_told 17 = .ok (.iload_n 3, 1) := by decide +kernel
theorem dL_told_18 : decode cL_told 18 = .ok (.invokestatic 87, 3) := by decide +kernel
theorem dL_told_21 : decode cL_told 21 = .ok (.i2l, 1) := by decide +kernel
theorem dL_told_22 : decode cL_told 22 = .ok (.ladd, 1) := by decide +kernel
theorem dL_told_23 : decode cL_told 23 = .ok (.lstore_n 1, 1) := by decide +kernel
theorem dL_told_24 : decode cL_told 24 = .ok (.iinc 3 1, 3) := by decide +kernel
theorem dL_told_27 : decode cL_told 27 = .ok (.goto (-21), 3) := by decide +kernel
theorem dL_told_30 : decode cL_told 30 = .ok (.iconst 0, 1) := by decide +kernel
theorem dL_told_31 : decode cL_told 31 = .ok (.istore_n 3, 1) := by decide +kernel
theorem dL_told_32 : decode cL_told 32 = .ok (.iload_n 3, 1) := by decide +kernel
theorem dL_told_33 : decode cL_told 33 = .ok (.bipush 100, 2) := by decide +kernel
theorem dL_told_35 : decode cL_told 35 = .ok (.if_icmp .ge 49, 3) := by decide +kernel
theorem dL_told_38 : decode cL_told 38 = .ok (.ldc2_w 85, 3) := by decide +kernel
theorem dL_told_41 : decode cL_told 41 = .ok (.lload_n 1, 1) := by decide +kernel
theorem dL_told_42 : decode cL_told 42 = .ok (.lmul, 1) := by decide +kernel
theorem dL_told_43 : decode cL_told 43 = .ok (.ldc2_w 90, 3) := by decide +kernel
theorem dL_told_46 : decode cL_told 46 = .ok (.aload_n 0, 1) := by decide +kernel
theorem dL_told_47 : decode cL_told 47 = .ok (.iload_n 3, 1) := by decide +kernel
theorem dL_told_48 : decode cL_told 48 = .ok (.bipush 10, 2) := by decide +kernel
theorem dL_told_50 : decode cL_told 50 = .ok (.irem, 1) := by decide +kernel
theorem dL_told_51 : decode cL_told 51 = .ok (.iload_n 3, 1) := by decide +kernel
theorem dL_told_52 : decode cL_told 52 = .ok (.bipush 10, 2) := by decide +kernel
theorem dL_told_54 : decode cL_told 54 = .ok (.idiv, 1) := by decide +kernel
theorem dL_told_55 : decode cL_told 55 = .ok (.iconst 0, 1) := by decide +kernel
theorem dL_told_56 : decode cL_told 56 = .ok (.invokestatic 92, 3) := by decide +kernel
theorem dL_told_59 : decode cL_told 59 = .ok (.i2l, 1) := by decide +kernel
theorem dL_told_60 : decode cL_told 60 = .ok (.lmul, 1) := by decide +kernel
theorem dL_told_61 : decode cL_told 61 = .ok (.ladd, 1) := by decide +kernel
theorem dL_told_62 : decode cL_told 62 = .ok (.aload_n 0, 1) := by decide +kernel
theorem dL_told_63 : decode cL_told 63 = .ok (.iload_n 3, 1) := by decide +kernel
theorem dL_told_64 : decode cL_told 64 = .ok (.bipush 10, 2) := by decide +kernel
theorem dL_told_66 : decode cL_told 66 = .ok (.irem, 1) := by decide +kernel
theorem dL_told_67 : decode cL_told 67 = .ok (.iload_n 3, 1) := by decide +kernel
theorem dL_told_68 : decode cL_told 68 = .ok (.bipush 10, 2) := by decide +kernel
theorem dL_told_70 : decode cL_told 70 = .ok (.idiv, 1) := by decide +kernel
theorem dL_told_71 : decode cL_told 71 = .ok (.iconst 1, 1) := by decide +kernel
theorem dL_told_72 : decode cL_told 72 = .ok (.invokestatic 92, 3) := by decide +kernel
theorem dL_told_75 : decode cL_told 75 = .ok (.i2l, 1) := by decide +kernel
theorem dL_told_76 : decode cL_told 76 = .ok (.ladd, 1) := by decide +kernel
theorem dL_told_77 : decode cL_told 77 = .ok (.lstore_n 1, 1) := by decide +kernel
theorem dL_told_78 : decode cL_told 78 = .ok (.iinc 3 1, 3) := by decide +kernel
theorem dL_told_81 : decode cL_told 81 = .ok (.goto (-49), 3) := by decide +kernel
theorem dL_told_84 : decode cL_told 84 = .ok (.lload_n 1, 1) := by decide +kernel
theorem dL_told_85 : decode cL_told 85 = .ok (.lreturn, 1) := by decide +kernel
theorem dL_call_0 : decode cL_call 0 = .ok (.iload_n 1, 1) := by decide +kernel
theorem dL_call_1 : decode cL_call 1 = .ok (.tableswitch 103 0 7 #[47, 54, 61, 67, 74, 83, 89, 96], 47) := by decide +kernel
theorem dL_call_48 : decode cL_call 48 = .ok (.aload_n 0, 1) := by decide +kernel
theorem dL_call_49 : decode cL_call 49 = .ok (.iload_n 2, 1) := by decide +kernel
theorem dL_call_50 : decode cL_call 50 = .ok (.iload_n 3, 1) := by decide +kernel
theorem dL_call_51 : decode cL_call 51 = .ok (.invokestatic 95, 3) := by decide +kernel
theorem dL_call_54 : decode cL_call 54 = .ok (.ireturn, 1) := by decide +kernel
theorem dL_call_55 : decode cL_call 55 = .ok (.aload_n 0, 1) := by decide +kernel
theorem dL_call_56 : decode cL_call 56 = .ok (.iload_n 2, 1) := by decide +kernel
theorem dL_call_57 : decode cL_call 57 = .ok (.iload_n 3, 1) := by decide +kernel
theorem dL_call_58 : decode cL_call 58 = .ok (.invokestatic 98, 3) := by decide +kernel
theorem dL_call_61 : decode cL_call 61 = .ok (.ireturn, 1) := by decide +kernel
theorem dL_call_62 : decode cL_call 62 = .ok (.aload_n 0, 1) := by decide +kernel
theorem dL_call_63 : decode cL_call 63 = .ok (.iload_n 2, 1) := by decide +kernel
theorem dL_call_64 : decode cL_call 64 = .ok (.invokestatic 100, 3) := by decide +kernel
theorem dL_call_67 : decode cL_call 67 = .ok (.ireturn, 1) := by decide +kernel
theorem dL_call_68 : decode cL_call 68 = .ok (.aload_n 0, 1) := by decide +kernel
theorem dL_call_69 : decode cL_call 69 = .ok (.iload_n 2, 1) := by decide +kernel
theorem dL_call_70 : decode cL_call 70 = .ok (.iload_n 3, 1) := by decide +kernel
theorem dL_call_71 : decode cL_call 71 = .ok (.invokestatic 102, 3) := by decide +kernel
theorem dL_call_74 : decode cL_call 74 = .ok (.ireturn, 1) := by decide +kernel
theorem dL_call_75 : decode cL_call 75 = .ok (.aload_n 0, 1) := by decide +kernel
theorem dL_call_76 : decode cL_call 76 = .ok (.iload_n 2, 1) := by decide +kernel
theorem dL_call_77 : decode cL_call 77 = .ok (.iload_n 3, 1) := by decide +kernel
theorem dL_call_78 : decode cL_call 78 = .ok (.iload 4, 2) := by decide +kernel
theorem dL_call_80 : decode cL_call 80 = .ok (.invokestatic 104, 3) := by decide +kernel
theorem dL_call_83 : decode cL_call 83 = .ok (.ireturn, 1) := by decide +kernel
theorem dL_call_84 : decode cL_call 84 = .ok (.aload_n 0, 1) := by decide +kernel
theorem dL_call_85 : decode cL_call 85 = .ok (.iload_n 2, 1) := by decide +kernel
theorem dL_call_86 : decode cL_call 86 = .ok (.invokestatic 106, 3) := by decide +kernel
theorem dL_call_89 : decode cL_call 89 = .ok (.ireturn, 1) := by decide +kernel
theorem dL_call_90 : decode cL_call 90 = .ok (.aload_n 0, 1) := by decide +kernel
theorem dL_call_91 : decode cL_call 91 = .ok (.iload_n 2, 1) := by decide +kernel
theorem dL_call_92 : decode cL_call 92 = .ok (.iload_n 3, 1) := by decide +kernel
theorem dL_call_93 : decode cL_call 93 = .ok (.invokestatic 108, 3) := by decide +kernel
theorem dL_call_96 : decode cL_call 96 = .ok (.ireturn, 1) := by decide +kernel
theorem dL_call_97 : decode cL_call 97 = .ok (.aload_n 0, 1) := by decide +kernel
theorem dL_call_98 : decode cL_call 98 = .ok (.iload_n 2, 1) := by decide +kernel
theorem dL_call_99 : decode cL_call 99 = .ok (.iload_n 3, 1) := by decide +kernel
theorem dL_call_100 : decode cL_call 100 = .ok (.invokestatic 110, 3) := by decide +kernel
theorem dL_call_103 : decode cL_call 103 = .ok (.ireturn, 1) := by decide +kernel
theorem dL_call_104 : decode cL_call 104 = .ok (.aload_n 0, 1) := by decide +kernel
theorem dL_call_105 : decode cL_call 105 = .ok (.iload_n 2, 1) := by decide +kernel
theorem dL_call_106 : decode cL_call 106 = .ok (.invokestatic 112, 3) := by decide +kernel
theorem dL_call_109 : decode cL_call 109 = .ok (.ireturn, 1) := by decide +kernel
theorem dL_stepped_0 : decode cL_stepped 0 = .ok (.iload_n 0, 1) := by decide +kernel
theorem dL_stepped_1 : decode cL_stepped 1 = .ok (.aload_n 3, 1) := by decide +kernel
theorem dL_stepped_2 : decode cL_stepped 2 = .ok (.iload_n 0, 1) := by decide +kernel
theorem dL_stepped_3 : decode cL_stepped 3 = .ok (.iaload, 1) := by decide +kernel
theorem dL_stepped_4 : decode cL_stepped 4 = .ok (.iconst 1, 1) := by decide +kernel
theorem dL_stepped_5 : decode cL_stepped 5 = .ok (.isub, 1) := by decide +kernel
theorem dL_stepped_6 : decode cL_stepped 6 = .ok (.aload 4, 2) := by decide +kernel
theorem dL_stepped_8 : decode cL_stepped 8 = .ok (.invokestatic 70, 3) := by decide +kernel
theorem dL_stepped_11 : decode cL_stepped 11 = .ok (.iload_n 1, 1) := by decide +kernel
theorem dL_stepped_12 : decode cL_stepped 12 = .ok (.invokestatic 114, 3) := by decide +kernel
theorem dL_stepped_15 : decode cL_stepped 15 = .ok (.istore 5, 2) := by decide +kernel
theorem dL_stepped_17 : decode cL_stepped 17 = .ok (.iload_n 0, 1) := by decide +kernel
theorem dL_stepped_18 : decode cL_stepped 18 = .ok (.iload 5, 2) := by decide +kernel
theorem dL_stepped_20 : decode cL_stepped 20 = .ok (.iload_n 2, 1) := by decide +kernel
theorem dL_stepped_21 : decode cL_stepped 21 = .ok (.ifCond .eq 10, 3) := by decide +kernel
theorem dL_stepped_24 : decode cL_stepped 24 = .ok (.bipush 100, 2) := by decide +kernel
theorem dL_stepped_26 : decode cL_stepped 26 = .ok (.iload_n 0, 1) := by decide +kernel
theorem dL_stepped_27 : decode cL_stepped 27 = .ok (.imul, 1) := by decide +kernel
theorem dL_stepped_28 : decode cL_stepped 28 = .ok (.goto 5, 3) := by decide +kernel
theorem dL_stepped_31 : decode cL_stepped 31 = .ok (.bipush (-5), 2) := by decide +kernel
theorem dL_stepped_33 : decode cL_stepped 33 = .ok (.aload_n 3, 1) := by decide +kernel
theorem dL_stepped_34 : decode cL_stepped 34 = .ok (.aload 4, 2) := by decide +kernel
theorem dL_stepped_36 : decode cL_stepped 36 = .ok (.invokestatic 117, 3) := by decide +kernel
theorem dL_stepped_39 : decode cL_stepped 39 = .ok (.istore 6, 2) := by decide +kernel
theorem dL_stepped_41 : decode cL_stepped 41 = .ok (.iload 6, 2) := by decide +kernel
theorem dL_stepped_43 : decode cL_stepped 43 = .ok (.ifCond .le 14, 3) := by decide +kernel
theorem dL_stepped_46 : decode cL_stepped 46 = .ok (.aload_n 3, 1) := by decide +kernel
theorem dL_stepped_47 : decode cL_stepped 47 = .ok (.bipush 7, 2) := by decide +kernel
theorem dL_stepped_49 : decode cL_stepped 49 = .ok (.dup2, 1) := by decide +kernel
theorem dL_stepped_50 : decode cL_stepped 50 = .ok (.iaload, 1) := by decide +kernel
theorem dL_stepped_51 : decode cL_stepped 51 = .ok (.iconst 1, 1) := by decide +kernel
theorem dL_stepped_52 : decode cL_stepped 52 = .ok (.iadd, 1) := by decide +kernel
theorem dL_stepped_53 : decode cL_stepped 53 = .ok (.iastore, 1) := by decide +kernel
theorem dL_stepped_54 : decode cL_stepped 54 = .ok (.iload 6, 2) := by decide +kernel
theorem dL_stepped_56 : decode cL_stepped 56 = .ok (.ireturn, 1) := by decide +kernel
theorem dL_stepped_57 : decode cL_stepped 57 = .ok (.iload_n 2, 1) := by decide +kernel
theorem dL_stepped_58 : decode cL_stepped 58 = .ok (.ifCond .eq 56, 3) := by decide +kernel
theorem dL_stepped_61 : decode cL_stepped 61 = .ok (.iconst 0, 1) := by decide +kernel
theorem dL_stepped_62 : decode cL_stepped 62 = .ok (.istore 7, 2) := by decide +kernel
theorem dL_stepped_64 : decode cL_stepped 64 = .ok (.iload 7, 2) := by decide +kernel
theorem dL_stepped_66 : decode cL_stepped 66 = .ok (.aload_n 3, 1) := by decide +kernel
theorem dL_stepped_67 : decode cL_stepped 67 = .ok (.iload_n 0, 1) := by decide +kernel
theorem dL_stepped_68 : decode cL_stepped 68 = .ok (.iaload, 1) := by decide +kernel
theorem dL_stepped_69 : decode cL_stepped 69 = .ok (.iconst 1, 1) := by decide +kernel
theorem dL_stepped_70 : decode cL_stepped 70 = .ok (.isub, 1) := by decide +kernel
theorem dL_stepped_71 : decode cL_stepped 71 = .ok (.if_icmp .ge 27, 3) := by decide +kernel
theorem dL_stepped_74 : decode cL_stepped 74 = .ok (.iload_n 0, 1) := by decide +kernel
theorem dL_stepped_75 : decode cL_stepped 75 = .ok (.iload 7, 2) := by decide +kernel
theorem dL_stepped_77 : decode cL_stepped 77 = .ok (.iload_n 0, 1) := by decide +kernel
theorem dL_stepped_78 : decode cL_stepped 78 = .ok (.iload 7, 2) := by decide +kernel
theorem dL_stepped_80 : decode cL_stepped 80 = .ok (.iconst 1, 1) := by decide +kernel
theorem dL_stepped_81 : decode cL_stepped 81 = .ok (.iadd, 1) := by decide +kernel
theorem dL_stepped_82 : decode cL_stepped 82 = .ok (.aload 4, 2) := by decide +kernel
theorem dL_stepped_84 : decode cL_stepped 84 = .ok (.invokestatic 70, 3) := by decide +kernel
theorem dL_stepped_87 : decode cL_stepped 87 = .ok (.aload 4, 2) := by decide +kernel
theorem dL_stepped_89 : decode cL_stepped 89 = .ok (.invokestatic 121, 3) := by decide +kernel
theorem dL_stepped_92 : decode cL_stepped 92 = .ok (.iinc 7 1, 3) := by decide +kernel
theorem dL_stepped_95 : decode cL_stepped 95 = .ok (.goto (-31), 3) := by decide +kernel
theorem dL_stepped_98 : decode cL_stepped 98 = .ok (.iload_n 0, 1) := by decide +kernel
theorem dL_stepped_99 : decode cL_stepped 99 = .ok (.aload_n 3, 1) := by decide +kernel
theorem dL_stepped_100 : decode cL_stepped 100 = .ok (.iload_n 0, 1) := by decide +kernel
theorem dL_stepped_101 : decode cL_stepped 101 = .ok (.iaload, 1) := by decide +kernel
theorem dL_stepped_102 : decode cL_stepped 102 = .ok (.iconst 1, 1) := by decide +kernel
theorem dL_stepped_103 : decode cL_stepped 103 = .ok (.isub, 1) := by decide +kernel
theorem dL_stepped_104 : decode cL_stepped 104 = .ok (.iload 5, 2) := by decide +kernel
theorem dL_stepped_106 : decode cL_stepped 106 = .ok (.aload 4, 2) := by decide +kernel
theorem dL_stepped_108 : decode cL_stepped 108 = .ok (.invokestatic 121, 3) := by decide +kernel
theorem dL_stepped_111 : decode cL_stepped 111 = .ok (.goto 21, 3) := by decide +kernel
theorem dL_stepped_114 : decode cL_stepped 114 = .ok (.iload_n 0, 1) := by decide +kernel
theorem dL_stepped_115 : decode cL_stepped 115 = .ok (.aload_n 3, 1) := by decide +kernel
theorem dL_stepped_116 : decode cL_stepped 116 = .ok (.iload_n 0, 1) := by decide +kernel
theorem dL_stepped_117 : decode cL_stepped 117 = .ok (.iaload, 1) := by decide +kernel
theorem dL_stepped_118 : decode cL_stepped 118 = .ok (.iload 5, 2) := by decide +kernel
theorem dL_stepped_120 : decode cL_stepped 120 = .ok (.aload 4, 2) := by decide +kernel
theorem dL_stepped_122 : decode cL_stepped 122 = .ok (.invokestatic 121, 3) := by decide +kernel
theorem dL_stepped_125 : decode cL_stepped 125 = .ok (.aload_n 3, 1) := by decide +kernel
theorem dL_stepped_126 : decode cL_stepped 126 = .ok (.iload_n 0, 1) := by decide +kernel
theorem dL_stepped_127 : decode cL_stepped 127 = .ok (.dup2, 1) := by decide +kernel
theorem dL_stepped_128 : decode cL_stepped 128 = .ok (.iaload, 1) := by decide +kernel
theorem dL_stepped_129 : decode cL_stepped 129 = .ok (.iconst 1, 1) := by decide +kernel
theorem dL_stepped_130 : decode cL_stepped 130 = .ok (.iadd, 1) := by decide +kernel
theorem dL_stepped_131 : decode cL_stepped 131 = .ok (.iastore, 1) := by decide +kernel
theorem dL_stepped_132 : decode cL_stepped 132 = .ok (.aload_n 3, 1) := by decide +kernel
theorem dL_stepped_133 : decode cL_stepped 133 = .ok (.bipush 6, 2) := by decide +kernel
theorem dL_stepped_135 : decode cL_stepped 135 = .ok (.dup2, 1) := by decide +kernel
theorem dL_stepped_136 : decode cL_stepped 136 = .ok (.iaload, 1) := by decide +kernel
theorem dL_stepped_137 : decode cL_stepped 137 = .ok (.iconst 1, 1) := by decide +kernel
theorem dL_stepped_138 : decode cL_stepped 138 = .ok (.iadd, 1) := by decide +kernel
theorem dL_stepped_139 : decode cL_stepped 139 = .ok (.iastore, 1) := by decide +kernel
theorem dL_stepped_140 : decode cL_stepped 140 = .ok (.iconst 0, 1) := by decide +kernel
theorem dL_stepped_141 : decode cL_stepped 141 = .ok (.ireturn, 1) := by decide +kernel
theorem dL_turns_0 : decode cL_turns 0 = .ok (.iload_n 0, 1) := by decide +kernel
theorem dL_turns_1 : decode cL_turns 1 = .ok (.iload_n 1, 1) := by decide +kernel
theorem dL_turns_2 : decode cL_turns 2 = .ok (.iload_n 2, 1) := by decide +kernel
theorem dL_turns_3 : decode cL_turns 3 = .ok (.aload_n 3, 1) := by decide +kernel
theorem dL_turns_4 : decode cL_turns 4 = .ok (.aload 4, 2) := by decide +kernel
theorem dL_turns_6 : decode cL_turns 6 = .ok (.invokestatic 125, 3) := by decide +kernel
theorem dL_turns_9 : decode cL_turns 9 = .ok (.istore 5, 2) := by decide +kernel
theorem dL_turns_11 : decode cL_turns 11 = .ok (.iload 5, 2) := by decide +kernel
theorem dL_turns_13 : decode cL_turns 13 = .ok (.ifCond .le 14, 3) := by decide +kernel
theorem dL_turns_16 : decode cL_turns 16 = .ok (.aload_n 3, 1) := by decide +kernel
theorem dL_turns_17 : decode cL_turns 17 = .ok (.bipush 7, 2) := by decide +kernel
theorem dL_turns_19 : decode cL_turns 19 = .ok (.dup2, 1) := by decide +kernel
theorem dL_turns_20 : decode cL_turns 20 = .ok (.iaload, 1) := by decide +kernel
theorem dL_turns_21 : decode cL_turns 21 = .ok (.iconst 1, 1) := by decide +kernel
theorem dL_turns_22 : decode cL_turns 22 = .ok (.iadd, 1) := by decide +kernel
theorem dL_turns_23 : decode cL_turns 23 = .ok (.iastore, 1) := by decide +kernel
theorem dL_turns_24 : decode cL_turns 24 = .ok (.iload 5, 2) := by decide +kernel
theorem dL_turns_26 : decode cL_turns 26 = .ok (.ireturn, 1) := by decide +kernel
theorem dL_turns_27 : decode cL_turns 27 = .ok (.iload_n 1, 1) := by decide +kernel
theorem dL_turns_28 : decode cL_turns 28 = .ok (.iconst 1, 1) := by decide +kernel
theorem dL_turns_29 : decode cL_turns 29 = .ok (.iadd, 1) := by decide +kernel
theorem dL_turns_30 : decode cL_turns 30 = .ok (.istore 6, 2) := by decide +kernel
theorem dL_turns_32 : decode cL_turns 32 = .ok (.iload 6, 2) := by decide +kernel
theorem dL_turns_34 : decode cL_turns 34 = .ok (.aload_n 3, 1) := by decide +kernel
theorem dL_turns_35 : decode cL_turns 35 = .ok (.iload_n 0, 1) := by decide +kernel
theorem dL_turns_36 : decode cL_turns 36 = .ok (.iaload, 1) := by decide +kernel
theorem dL_turns_37 : decode cL_turns 37 = .ok (.if_icmp .ge 36, 3) := by decide +kernel
theorem dL_turns_40 : decode cL_turns 40 = .ok (.iload_n 0, 1) := by decide +kernel
theorem dL_turns_41 : decode cL_turns 41 = .ok (.iload 6, 2) := by decide +kernel
theorem dL_turns_43 : decode cL_turns 43 = .ok (.iload_n 0, 1) := by decide +kernel
theorem dL_turns_44 : decode cL_turns 44 = .ok (.iload 6, 2) := by decide +kernel
theorem dL_turns_46 : decode cL_turns 46 = .ok (.aload 4, 2) := by decide +kernel
theorem dL_turns_48 : decode cL_turns 48 = .ok (.invokestatic 70, 3) := by decide +kernel
theorem dL_turns_51 : decode cL_turns 51 = .ok (.iload_n 0, 1) := by decide +kernel
theorem dL_turns_52 : decode cL_turns 52 = .ok (.iload_n 1, 1) := by decide +kernel
theorem dL_turns_53 : decode cL_turns 53 = .ok (.aload 4, 2) := by decide +kernel
theorem dL_turns_55 : decode cL_turns 55 = .ok (.invokestatic 70, 3) := by decide +kernel
theorem dL_turns_58 : decode cL_turns 58 = .ok (.iload_n 2, 1) := by decide +kernel
theorem dL_turns_59 : decode cL_turns 59 = .ok (.invokestatic 80, 3) := by decide +kernel
theorem dL_turns_62 : decode cL_turns 62 = .ok (.aload 4, 2) := by decide +kernel
theorem dL_turns_64 : decode cL_turns 64 = .ok (.invokestatic 121, 3) := by decide +kernel
theorem dL_turns_67 : decode cL_turns 67 = .ok (.iinc 6 1, 3) := by decide +kernel
theorem dL_turns_70 : decode cL_turns 70 = .ok (.goto (-38), 3) := by decide +kernel
theorem dL_turns_73 : decode cL_turns 73 = .ok (.aload_n 3, 1) := by decide +kernel
theorem dL_turns_74 : decode cL_turns 74 = .ok (.bipush 8, 2) := by decide +kernel
theorem dL_turns_76 : decode cL_turns 76 = .ok (.dup2, 1) := by decide +kernel
theorem dL_turns_77 : decode cL_turns 77 = .ok (.iaload, 1) := by decide +kernel
theorem dL_turns_78 : decode cL_turns 78 = .ok (.iconst 1, 1) := by decide +kernel
theorem dL_turns_79 : decode cL_turns 79 = .ok (.iadd, 1) := by decide +kernel
theorem dL_turns_80 : decode cL_turns 80 = .ok (.iastore, 1) := by decide +kernel
theorem dL_turns_81 : decode cL_turns 81 = .ok (.iconst 0, 1) := by decide +kernel
theorem dL_turns_82 : decode cL_turns 82 = .ok (.ireturn, 1) := by decide +kernel
theorem dL_joined_0 : decode cL_joined 0 = .ok (.iload_n 0, 1) := by decide +kernel
theorem dL_joined_1 : decode cL_joined 1 = .ok (.aload_n 2, 1) := by decide +kernel
theorem dL_joined_2 : decode cL_joined 2 = .ok (.iload_n 0, 1) := by decide +kernel
theorem dL_joined_3 : decode cL_joined 3 = .ok (.iaload, 1) := by decide +kernel
theorem dL_joined_4 : decode cL_joined 4 = .ok (.iconst 1, 1) := by decide +kernel
theorem dL_joined_5 : decode cL_joined 5 = .ok (.isub, 1) := by decide +kernel
theorem dL_joined_6 : decode cL_joined 6 = .ok (.aload_n 3, 1) := by decide +kernel
theorem dL_joined_7 : decode cL_joined 7 = .ok (.invokestatic 70, 3) := by decide +kernel
theorem dL_joined_10 : decode cL_joined 10 = .ok (.istore 4, 2) := by decide +kernel
theorem dL_joined_12 : decode cL_joined 12 = .ok (.iconst 0, 1) := by decide +kernel
theorem dL_joined_13 : decode cL_joined 13 = .ok (.istore 5, 2) := by decide +kernel
theorem dL_joined_15 : decode cL_joined 15 = .ok (.iconst 0, 1) := by decide +kernel
theorem dL_joined_16 : decode cL_joined 16 = .ok (.istore 6, 2) := by decide +kernel
theorem dL_joined_18 : decode cL_joined 18 = .ok (.iload 6, 2) := by decide +kernel
theorem dL_joined_20 : decode cL_joined 20 = .ok (.iconst 4, 1) := by decide +kernel
theorem dL_joined_21 : decode cL_joined 21 = .ok (.if_icmp .ge 41, 3) := by decide +kernel
theorem dL_joined_24 : decode cL_joined 24 = .ok (.iload 5, 2) := by decide +kernel
theorem dL_joined_26 : decode cL_joined 26 = .ok (.ifCond .ne 23, 3) := by decide +kernel
theorem dL_joined_29 : decode cL_joined 29 = .ok (.iload 4, 2) := by decide +kernel
theorem dL_joined_31 : decode cL_joined 31 = .ok (.iload 6, 2) := by decide +kernel
theorem dL_joined_33 : decode cL_joined 33 = .ok (.invokestatic 114, 3) := by decide +kernel
theorem dL_joined_36 : decode cL_joined 36 = .ok (.iload_n 1, 1) := by decide +kernel
theorem dL_joined_37 : decode cL_joined 37 = .ok (.aload_n 2, 1) := by decide +kernel
theorem dL_joined_38 : decode cL_joined 38 = .ok (.iload_n 1, 1) := by decide +kernel
theorem dL_joined_39 : decode cL_joined 39 = .ok (.iaload, 1) := by decide +kernel
theorem dL_joined_40 : decode cL_joined 40 = .ok (.iconst 1, 1) := by decide +kernel
theorem dL_joined_41 : decode cL_joined 41 = .ok (.isub, 1) := by decide +kernel
theorem dL_joined_42 : decode cL_joined 42 = .ok (.aload_n 3, 1) := by decide +kernel
theorem dL_joined_43 : decode cL_joined 43 = .ok (.invokestatic 70, 3) := by decide +kernel
theorem dL_joined_46 : decode cL_joined 46 = .ok (.if_icmp .ne 7, 3) := by decide +kernel
theorem dL_joined_49 : decode cL_joined 49 = .ok (.iconst 1, 1) := by decide +kernel
theorem dL_joined_50 : decode cL_joined 50 = .ok (.goto 4, 3) := by decide +kernel
theorem dL_joined_53 : decode cL_joined 53 = .ok (.iconst 0, 1) := by decide +kernel
theorem dL_joined_54 : decode cL_joined 54 = .ok (.istore 5, 2) := by decide +kernel
theorem dL_joined_56 : decode cL_joined 56 = .ok (.iinc 6 1, 3) := by decide +kernel
theorem dL_joined_59 : decode cL_joined 59 = .ok (.goto (-41), 3) := by decide +kernel
theorem dL_joined_62 : decode cL_joined 62 = .ok (.iload 5, 2) := by decide +kernel
theorem dL_joined_64 : decode cL_joined 64 = .ok (.ifCond .ne 6, 3) := by decide +kernel
theorem dL_joined_67 : decode cL_joined 67 = .ok (.bipush (-103), 2) := by decide +kernel
theorem dL_joined_69 : decode cL_joined 69 = .ok (.ireturn, 1) := by decide +kernel
theorem dL_joined_70 : decode cL_joined 70 = .ok (.aload_n 2, 1) := by decide +kernel
theorem dL_joined_71 : decode cL_joined 71 = .ok (.iload_n 1, 1) := by decide +kernel
theorem dL_joined_72 : decode cL_joined 72 = .ok (.iaload, 1) := by decide +kernel
theorem dL_joined_73 : decode cL_joined 73 = .ok (.iconst 1, 1) := by decide +kernel
theorem dL_joined_74 : decode cL_joined 74 = .ok (.isub, 1) := by decide +kernel
theorem dL_joined_75 : decode cL_joined 75 = .ok (.istore 6, 2) := by decide +kernel
theorem dL_joined_77 : decode cL_joined 77 = .ok (.iload 6, 2) := by decide +kernel
theorem dL_joined_79 : decode cL_joined 79 = .ok (.ifCond .lt 31, 3) := by decide +kernel
theorem dL_joined_82 : decode cL_joined 82 = .ok (.iload_n 0, 1) := by decide +kernel
theorem dL_joined_83 : decode cL_joined 83 = .ok (.aload_n 2, 1) := by decide +kernel
theorem dL_joined_84 : decode cL_joined 84 = .ok (.iload_n 0, 1) := by decide +kernel
theorem dL_joined_85 : decode cL_joined 85 = .ok (.iaload, 1) := by decide +kernel
theorem dL_joined_86 : decode cL_joined 86 = .ok (.iload_n 1, 1) := by decide +kernel
theorem dL_joined_87 : decode cL_joined 87 = .ok (.iload 6, 2) := by decide +kernel
theorem dL_joined_89 : decode cL_joined 89 = .ok (.aload_n 3, 1) := by decide +kernel
theorem dL_joined_90 : decode cL_joined 90 = .ok (.invokestatic 70, 3) := by decide +kernel
theorem dL_joined_93 : decode cL_joined 93 = .ok (.aload_n 3, 1) := by decide +kernel
theorem dL_joined_94 : decode cL_joined 94 = .ok (.invokestatic 121, 3) := by decide +kernel
theorem dL_joined_97 : decode cL_joined 97 = .ok (.aload_n 2, 1) := by decide +kernel
theorem dL_joined_98 : decode cL_joined 98 = .ok (.iload_n 0, 1) := by decide +kernel
theorem dL_joined_99 : decode cL_joined 99 = .ok (.dup2, 1) := by decide +kernel
theorem dL_joined_100 : decode cL_joined 100 = .ok (.iaload, 1) := by decide +kernel
theorem dL_joined_101 : decode cL_joined 101 = .ok (.iconst 1, 1) := by decide +kernel
theorem dL_joined_102 : decode cL_joined 102 = .ok (.iadd, 1) := by decide +kernel
theorem dL_joined_103 : decode cL_joined 103 = .ok (.iastore, 1) := by decide +kernel
theorem dL_joined_104 : decode cL_joined 104 = .ok (.iinc 6 (-1), 3) := by decide +kernel
theorem dL_joined_107 : decode cL_joined 107 = .ok (.goto (-30), 3) := by decide +kernel
theorem dL_joined_110 : decode cL_joined 110 = .ok (.aload_n 2, 1) := by decide +kernel
theorem dL_joined_111 : decode cL_joined 111 = .ok (.iload_n 0, 1) := by decide +kernel
theorem dL_joined_112 : decode cL_joined 112 = .ok (.iaload, 1) := by decide +kernel
theorem dL_joined_113 : decode cL_joined 113 = .ok (.istore 6, 2) := by decide +kernel
theorem dL_joined_115 : decode cL_joined 115 = .ok (.iload_n 1, 1) := by decide +kernel
theorem dL_joined_116 : decode cL_joined 116 = .ok (.aload_n 2, 1) := by decide +kernel
theorem dL_joined_117 : decode cL_joined 117 = .ok (.aload_n 3, 1) := by decide +kernel
theorem dL_joined_118 : decode cL_joined 118 = .ok (.invokestatic 128, 3) := by decide +kernel
theorem dL_joined_121 : decode cL_joined 121 = .ok (.iload 6, 2) := by decide +kernel
theorem dL_joined_123 : decode cL_joined 123 = .ok (.ireturn, 1) := by decide +kernel
theorem dL_due_0 : decode cL_due 0 = .ok (.iload_n 0, 1) := by decide +kernel
theorem dL_due_1 : decode cL_due 1 = .ok (.ifCond .ne 69, 3) := by decide +kernel
theorem dL_due_4 : decode cL_due 4 = .ok (.aload 4, 2) := by decide +kernel
theorem dL_due_6 : decode cL_due 6 = .ok (.iconst 5, 1) := by decide +kernel
theorem dL_due_7 : decode cL_due 7 = .ok (.iaload, 1) := by decide +kernel
theorem dL_due_8 : decode cL_due 8 = .ok (.iconst 5, 1) := by decide +kernel
theorem dL_due_9 : decode cL_due 9 = .ok (.if_icmp .eq 19, 3) := by decide +kernel
theorem dL_due_12 : decode cL_due 12 = .ok (.bipush 10, 2) := by decide +kernel
theorem dL_due_14 : decode cL_due 14 = .ok (.iload_n 2, 1) := by decide +kernel
theorem dL_due_15 : decode cL_due 15 = .ok (.imul, 1) := by decide +kernel
theorem dL_due_16 : decode cL_due 16 = .ok (.iload_n 1, 1) := by decide +kernel
theorem dL_due_17 : decode cL_due 17 = .ok (.iadd, 1) := by decide +kernel
theorem dL_due_18 : decode cL_due 18 = .ok (.aload 4, 2) := by decide +kernel
theorem dL_due_20 : decode cL_due 20 = .ok (.aload 5, 2) := by decide +kernel
theorem dL_due_22 : decode cL_due 22 = .ok (.invokestatic 76, 3) := by decide +kernel
theorem dL_due_25 : decode cL_due 25 = .ok (.ifCond .lt 6, 3) := by decide +kernel
theorem dL_due_28 : decode cL_due 28 = .ok (.bipush (-103), 2) := by decide +kernel
theorem dL_due_30 : decode cL_due 30 = .ok (.ireturn, 1) := by decide +kernel
theorem dL_due_31 : decode cL_due 31 = .ok (.aload 4, 2) := by decide +kernel
theorem dL_due_33 : decode cL_due 33 = .ok (.iconst 5, 1) := by decide +kernel
theorem dL_due_34 : decode cL_due 34 = .ok (.iaload, 1) := by decide +kernel
theorem dL_due_35 : decode cL_due 35 = .ok (.iconst 0, 1) := by decide +kernel
theorem dL_due_36 : decode cL_due 36 = .ok (.bipush 10, 2) := by decide +kernel
theorem dL_due_38 : decode cL_due 38 = .ok (.iload_n 2, 1) := by decide +kernel
theorem dL_due_39 : decode cL_due 39 = .ok (.imul, 1) := by decide +kernel
theorem dL_due_40 : decode cL_due 40 = .ok (.iload_n 1, 1) := by decide +kernel
theorem dL_due_41 : decode cL_due 41 = .ok (.iadd, 1) := by decide +kernel
theorem dL_due_42 : decode cL_due 42 = .ok (.aload 5, 2) := by decide +kernel
theorem dL_due_44 : decode cL_due 44 = .ok (.invokestatic 121, 3) := by decide +kernel
theorem dL_due_47 : decode cL_due 47 = .ok (.aload 4, 2) := by decide +kernel
theorem dL_due_49 : decode cL_due 49 = .ok (.aload 4, 2) := by decide +kernel
theorem dL_due_51 : decode cL_due 51 = .ok (.iconst 5, 1) := by decide +kernel
theorem dL_due_52 : decode cL_due 52 = .ok (.iaload, 1) := by decide +kernel
theorem dL_due_53 : decode cL_due 53 = .ok (.iconst 1, 1) := by decide +kernel
theorem dL_due_54 : decode cL_due 54 = .ok (.iastore, 1) := by decide +kernel
theorem dL_due_55 : decode cL_due 55 = .ok (.aload 4, 2) := by decide +kernel
theorem dL_due_57 : decode cL_due 57 = .ok (.iconst 5, 1) := by decide +kernel
theorem dL_due_58 : decode cL_due 58 = .ok (.dup2, 1) := by decide +kernel
theorem dL_due_59 : decode cL_due 59 = .ok (.iaload, 1) := by decide +kernel
theorem dL_due_60 : decode cL_due 60 = .ok (.iconst 1, 1) := by decide +kernel
theorem dL_due_61 : decode cL_due 61 = .ok (.iadd, 1) := by decide +kernel
theorem dL_due_62 : decode cL_due 62 = .ok (.iastore, 1) := by decide +kernel
theorem dL_due_63 : decode cL_due 63 = .ok (.aload 4, 2) := by decide +kernel
theorem dL_due_65 : decode cL_due 65 = .ok (.iconst 5, 1) := by decide +kernel
theorem dL_due_66 : decode cL_due 66 = .ok (.iaload, 1) := by decide +kernel
theorem dL_due_67 : decode cL_due 67 = .ok (.iconst 1, 1) := by decide +kernel
theorem dL_due_68 : decode cL_due 68 = .ok (.isub, 1) := by decide +kernel
theorem dL_due_69 : decode cL_due 69 = .ok (.ireturn, 1) := by decide +kernel
theorem dL_due_70 : decode cL_due 70 = .ok (.iload_n 1, 1) := by decide +kernel
theorem dL_due_71 : decode cL_due 71 = .ok (.aload 4, 2) := by decide +kernel
theorem dL_due_73 : decode cL_due 73 = .ok (.iconst 5, 1) := by decide +kernel
theorem dL_due_74 : decode cL_due 74 = .ok (.iaload, 1) := by decide +kernel
theorem dL_due_75 : decode cL_due 75 = .ok (.if_icmp .ge 17, 3) := by decide +kernel
theorem dL_due_78 : decode cL_due 78 = .ok (.iload_n 0, 1) := by decide +kernel
theorem dL_due_79 : decode cL_due 79 = .ok (.bipush 6, 2) := by decide +kernel
theorem dL_due_81 : decode cL_due 81 = .ok (.if_icmp .ne 14, 3) := by decide +kernel
theorem dL_due_84 : decode cL_due 84 = .ok (.iload_n 2, 1) := by decide +kernel
theorem dL_due_85 : decode cL_due 85 = .ok (.aload 4, 2) := by decide +kernel
theorem dL_due_87 : decode cL_due 87 = .ok (.iconst 5, 1) := by decide +kernel
theorem dL_due_88 : decode cL_due 88 = .ok (.iaload, 1) := by decide +kernel
theorem dL_due_89 : decode cL_due 89 = .ok (.if_icmp .lt 6, 3) := by decide +kernel
theorem dL_due_92 : decode cL_due 92 = .ok (.bipush (-101), 2) := by decide +kernel
theorem dL_due_94 : decode cL_due 94 = .ok (.ireturn, 1) := by decide +kernel
theorem dL_due_95 : decode cL_due 95 = .ok (.iload_n 0, 1) := by decide +kernel
theorem dL_due_96 : decode cL_due 96 = .ok (.tableswitch 322 1 7 #[44, 64, 44, 88, 112, 198, 218], 44) := by decide +kernel
theorem dL_due_140 : decode cL_due 140 = .ok (.iload_n 1, 1) := by decide +kernel
theorem dL_due_141 : decode cL_due 141 = .ok (.iload_n 2, 1) := by decide +kernel
theorem dL_due_142 : decode cL_due 142 = .ok (.iload_n 0, 1) := by decide +kernel
theorem dL_due_143 : decode cL_due 143 = .ok (.iconst 3, 1) := by decide +kernel
theorem dL_due_144 : decode cL_due 144 = .ok (.if_icmp .ne 7, 3) := by decide +kernel
theorem dL_due_147 : decode cL_due 147 = .ok (.iconst 1, 1) := by decide +kernel
theorem dL_due_148 : decode cL_due 148 = .ok (.goto 4, 3) := by decide +kernel
theorem dL_due_151 : decode cL_due 151 = .ok (.iconst 0, 1) := by decide +kernel
theorem dL_due_152 : decode cL_due 152 = .ok (.aload 4, 2) := by decide +kernel
theorem dL_due_154 : decode cL_due 154 = .ok (.aload 5, 2) := by decide +kernel
theorem dL_due_156 : decode cL_due 156 = .ok (.invokestatic 132, 3) := by decide +kernel
theorem dL_due_159 : decode cL_due 159 = .ok (.ireturn, 1) := by decide +kernel
theorem dL_due_160 : decode cL_due 160 = .ok (.aload 4, 2) := by decide +kernel
theorem dL_due_162 : decode cL_due 162 = .ok (.iload_n 1, 1) := by decide +kernel
theorem dL_due_163 : decode cL_due 163 = .ok (.iaload, 1) := by decide +kernel
theorem dL_due_164 : decode cL_due 164 = .ok (.iconst 1, 1) := by decide +kernel
theorem dL_due_165 : decode cL_due 165 = .ok (.if_icmp .ne 6, 3) := by decide +kernel
theorem dL_due_168 : decode cL_due 168 = .ok (.bipush (-103), 2) := by decide +kernel
theorem dL_due_170 : decode cL_due 170 = .ok (.ireturn, 1) := by decide +kernel
theorem dL_due_171 : decode cL_due 171 = .ok (.aload 4, 2) := by decide +kernel
theorem dL_due_173 : decode cL_due 173 = .ok (.iload_n 1, 1) := by decide +kernel
theorem dL_due_174 : decode cL_due 174 = .ok (.dup2, 1) := by decide +kernel
theorem dL_due_175 : decode cL_due 175 = .ok (.iaload, 1) := by decide +kernel
theorem dL_due_176 : decode cL_due 176 = .ok (.iconst 1, 1) := by decide +kernel
theorem dL_due_177 : decode cL_due 177 = .ok (.isub, 1) := by decide +kernel
theorem dL_due_178 : decode cL_due 178 = .ok (.iastore, 1) := by decide +kernel
theorem dL_due_179 : decode cL_due 179 = .ok (.aload 4, 2) := by decide +kernel
theorem dL_due_181 : decode cL_due 181 = .ok (.iload_n 1, 1) := by decide +kernel
theorem dL_due_182 : decode cL_due 182 = .ok (.iaload, 1) := by decide +kernel
theorem dL_due_183 : decode cL_due 183 = .ok (.ireturn, 1) := by decide +kernel
theorem dL_due_184 : decode cL_due 184 = .ok (.iload_n 2, 1) := by decide +kernel
theorem dL_due_185 : decode cL_due 185 = .ok (.aload 4, 2) := by decide +kernel
theorem dL_due_187 : decode cL_due 187 = .ok (.iload_n 1, 1) := by decide +kernel
theorem dL_due_188 : decode cL_due 188 = .ok (.iaload, 1) := by decide +kernel
theorem dL_due_189 : decode cL_due 189 = .ok (.if_icmp .lt 8, 3) := by decide +kernel
theorem dL_due_192 : decode cL_due 192 = .ok (.bipush (-101), 2) := by decide +kernel
theorem dL_due_194 : decode cL_due 194 = .ok (.goto 13, 3) := by decide +kernel
theorem dL_due_197 : decode cL_due 197 = .ok (.iload_n 1, 1) := by decide +kernel
theorem dL_due_198 : decode cL_due 198 = .ok (.iload_n 2, 1) := by decide +kernel
theorem dL_due_199 : decode cL_due 199 = .ok (.iload_n 3, 1) := by decide +kernel
theorem dL_due_200 : decode cL_due 200 = .ok (.aload 4, 2) := by decide +kernel
theorem dL_due_202 : decode cL_due 202 = .ok (.aload 5, 2) := by decide +kernel
theorem dL_due_204 : decode cL_due 204 = .ok (.invokestatic 136, 3) := by decide +kernel
theorem dL_due_207 : decode cL_due 207 = .ok (.ireturn, 1) := by decide +kernel
theorem dL_due_208 : decode cL_due 208 = .ok (.iconst 0, 1) := by decide +kernel
theorem dL_due_209 : decode cL_due 209 = .ok (.istore 6, 2) := by decide +kernel
theorem dL_due_211 : decode cL_due 211 = .ok (.iload 6, 2) := by decide +kernel
theorem dL_due_213 : decode cL_due 213 = .ok (.aload 4, 2) := by decide +kernel
theorem dL_due_215 : decode cL_due 215 = .ok (.iload_n 1, 1) := by decide +kernel
theorem dL_due_216 : decode cL_due 216 = .ok (.iaload, 1) := by decide +kernel
theorem dL_due_217 : decode cL_due 217 = .ok (.iconst 1, 1) := by decide +kernel
theorem dL_due_218 : decode cL_due 218 = .ok (.isub, 1) := by decide +kernel
theorem dL_due_219 : decode cL_due 219 = .ok (.iload 6, 2) := by decide +kernel
theorem dL_due_221 : decode cL_due 221 = .ok (.isub, 1) := by decide +kernel
theorem dL_due_222 : decode cL_due 222 = .ok (.if_icmp .ge 59, 3) := by decide +kernel
theorem dL_due_225 : decode cL_due 225 = .ok (.iload_n 1, 1) := by decide +kernel
theorem dL_due_226 : decode cL_due 226 = .ok (.iload 6, 2) := by decide +kernel
theorem dL_due_228 : decode cL_due 228 = .ok (.aload 5, 2) := by decide +kernel
theorem dL_due_230 : decode cL_due 230 = .ok (.invokestatic 70, 3) := by decide +kernel
theorem dL_due_233 : decode cL_due 233 = .ok (.istore 7, 2) := by decide +kernel
theorem dL_due_235 : decode cL_due 235 = .ok (.iload_n 1, 1) := by decide +kernel
theorem dL_due_236 : decode cL_due 236 = .ok (.iload 6, 2) := by decide +kernel
theorem dL_due_238 : decode cL_due 238 = .ok (.iload_n 1, 1) := by decide +kernel
theorem dL_due_239 : decode cL_due 239 = .ok (.aload 4, 2) := by decide +kernel
theorem dL_due_241 : decode cL_due 241 = .ok (.iload_n 1, 1) := by decide +kernel
theorem dL_due_242 : decode cL_due 242 = .ok (.iaload, 1) := by decide +kernel
theorem dL_due_243 : decode cL_due 243 = .ok (.iconst 1, 1) := by decide +kernel
theorem dL_due_244 : decode cL_due 244 = .ok (.isub, 1) := by decide +kernel
theorem dL_due_245 : decode cL_due 245 = .ok (.iload 6, 2) := by decide +kernel
theorem dL_due_247 : decode cL_due 247 = .ok (.isub, 1) := by decide +kernel
theorem dL_due_248 : decode cL_due 248 = .ok (.aload 5, 2) := by decide +kernel
theorem dL_due_250 : decode cL_due 250 = .ok (.invokestatic 70, 3) := by decide +kernel
theorem dL_due_253 : decode cL_due 253 = .ok (.aload 5, 2) := by decide +kernel
theorem dL_due_255 : decode cL_due 255 = .ok (.invokestatic 121, 3) := by decide +kernel
theorem dL_due_258 : decode cL_due 258 = .ok (.iload_n 1, 1) := by decide +kernel
theorem dL_due_259 : decode cL_due 259 = .ok (.aload 4, 2) := by decide +kernel
theorem dL_due_261 : decode cL_due 261 = .ok (.iload_n 1, 1) := by decide +kernel
theorem dL_due_262 : decode cL_due 262 = .ok (.iaload, 1) := by decide +kernel
theorem dL_due_263 : decode cL_due 263 = .ok (.iconst 1, 1) := by decide +kernel
theorem dL_due_264 : decode cL_due 264 = .ok (.isub, 1) := by decide +kernel
theorem dL_due_265 : decode cL_due 265 = .ok (.iload 6, 2) := by decide +kernel
theorem dL_due_267 : decode cL_due 267 = .ok (.isub, 1) := by decide +kernel
theorem dL_due_268 : decode cL_due 268 = .ok (.iload 7, 2) := by decide +kernel
theorem dL_due_270 : decode cL_due 270 = .ok (.aload 5, 2) := by decide +kernel
theorem dL_due_272 : decode cL_due 272 = .ok (.invokestatic 121, 3) := by decide +kernel
theorem dL_due_275 : decode cL_due 275 = .ok (.iinc 6 1, 3) := by decide +kernel
theorem dL_due_278 : decode cL_due 278 = .ok (.goto (-67), 3) := by decide +kernel
theorem dL_due_281 : decode cL_due 281 = .ok (.iload_n 1, 1) := by decide +kernel
theorem dL_due_282 : decode cL_due 282 = .ok (.aload 4, 2) := by decide +kernel
theorem dL_due_284 : decode cL_due 284 = .ok (.iload_n 1, 1) := by decide +kernel
theorem dL_due_285 : decode cL_due 285 = .ok (.iaload, 1) := by decide +kernel
theorem dL_due_286 : decode cL_due 286 = .ok (.iconst 1, 1) := by decide +kernel
theorem dL_due_287 : decode cL_due 287 = .ok (.isub, 1) := by decide +kernel
theorem dL_due_288 : decode cL_due 288 = .ok (.aload 5, 2) := by decide +kernel
theorem dL_due_290 : decode cL_due 290 = .ok (.invokestatic 70, 3) := by decide +kernel
theorem dL_due_293 : decode cL_due 293 = .ok (.ireturn, 1) := by decide +kernel
theorem dL_due_294 : decode cL_due 294 = .ok (.iload_n 1, 1) := by decide +kernel
theorem dL_due_295 : decode cL_due 295 = .ok (.iload_n 2, 1) := by decide +kernel
theorem dL_due_296 : decode cL_due 296 = .ok (.if_icmp .ne 8, 3) := by decide +kernel
theorem dL_due_299 : decode cL_due 299 = .ok (.bipush (-102), 2) := by decide +kernel
theorem dL_due_301 : decode cL_due 301 = .ok (.goto 12, 3) := by decide +kernel
theorem dL_due_304 : decode cL_due 304 = .ok (.iload_n 1, 1) := by decide +kernel
theorem dL_due_305 : decode cL_due 305 = .ok (.iload_n 2, 1) := by decide +kernel
theorem dL_due_306 : decode cL_due 306 = .ok (.aload 4, 2) := by decide +kernel
theorem dL_due_308 : decode cL_due 308 = .ok (.aload 5, 2) := by decide +kernel
theorem dL_due_310 : decode cL_due 310 = .ok (.invokestatic 139, 3) := by decide +kernel
theorem dL_due_313 : decode cL_due 313 = .ok (.ireturn, 1) := by decide +kernel
theorem dL_due_314 : decode cL_due 314 = .ok (.iload_n 2, 1) := by decide +kernel
theorem dL_due_315 : decode cL_due 315 = .ok (.aload 4, 2) := by decide +kernel
theorem dL_due_317 : decode cL_due 317 = .ok (.iload_n 1, 1) := by decide +kernel
theorem dL_due_318 : decode cL_due 318 = .ok (.iaload, 1) := by decide +kernel
theorem dL_due_319 : decode cL_due 319 = .ok (.iconst 1, 1) := by decide +kernel
theorem dL_due_320 : decode cL_due 320 = .ok (.isub, 1) := by decide +kernel
theorem dL_due_321 : decode cL_due 321 = .ok (.if_icmp .lt 6, 3) := by decide +kernel
theorem dL_due_324 : decode cL_due 324 = .ok (.bipush (-101), 2) := by decide +kernel
theorem dL_due_326 : decode cL_due 326 = .ok (.ireturn, 1) := by decide +kernel
theorem dL_due_327 : decode cL_due 327 = .ok (.aload 4, 2) := by decide +kernel
theorem dL_due_329 : decode cL_due 329 = .ok (.iconst 5, 1) := by decide +kernel
theorem dL_due_330 : decode cL_due 330 = .ok (.iaload, 1) := by decide +kernel
theorem dL_due_331 : decode cL_due 331 = .ok (.iconst 5, 1) := by decide +kernel
theorem dL_due_332 : decode cL_due 332 = .ok (.if_icmp .ne 6, 3) := by decide +kernel
theorem dL_due_335 : decode cL_due 335 = .ok (.bipush (-103), 2) := by decide +kernel
theorem dL_due_337 : decode cL_due 337 = .ok (.ireturn, 1) := by decide +kernel
theorem dL_due_338 : decode cL_due 338 = .ok (.iload_n 2, 1) := by decide +kernel
theorem dL_due_339 : decode cL_due 339 = .ok (.iconst 1, 1) := by decide +kernel
theorem dL_due_340 : decode cL_due 340 = .ok (.iadd, 1) := by decide +kernel
theorem dL_due_341 : decode cL_due 341 = .ok (.istore 6, 2) := by decide +kernel
theorem dL_due_343 : decode cL_due 343 = .ok (.iload 6, 2) := by decide +kernel
theorem dL_due_345 : decode cL_due 345 = .ok (.aload 4, 2) := by decide +kernel
theorem dL_due_347 : decode cL_due 347 = .ok (.iload_n 1, 1) := by decide +kernel
theorem dL_due_348 : decode cL_due 348 = .ok (.iaload, 1) := by decide +kernel
theorem dL_due_349 : decode cL_due 349 = .ok (.if_icmp .ge 32, 3) := by decide +kernel
theorem dL_due_352 : decode cL_due 352 = .ok (.aload 4, 2) := by decide +kernel
theorem dL_due_354 : decode cL_due 354 = .ok (.iconst 5, 1) := by decide +kernel
theorem dL_due_355 : decode cL_due 355 = .ok (.iaload, 1) := by decide +kernel
theorem dL_due_356 : decode cL_due 356 = .ok (.iload 6, 2) := by decide +kernel
theorem dL_due_358 : decode cL_due 358 = .ok (.iload_n 2, 1) := by decide +kernel
theorem dL_due_359 : decode cL_due 359 = .ok (.isub, 1) := by decide +kernel
theorem dL_due_360 : decode cL_due 360 = .ok (.iconst 1, 1) := by decide +kernel
theorem dL_due_361 : decode cL_due 361 = .ok (.isub, 1) := by decide +kernel
theorem dL_due_362 : decode cL_due 362 = .ok (.iload_n 1, 1) := by decide +kernel
theorem dL_due_363 : decode cL_due 363 = .ok (.iload 6, 2) := by decide +kernel
theorem dL_due_365 : decode cL_due 365 = .ok (.aload 5, 2) := by decide +kernel
theorem dL_due_367 : decode cL_due 367 = .ok (.invokestatic 70, 3) := by decide +kernel
theorem dL_due_370 : decode cL_due 370 = .ok (.aload 5, 2) := by decide +kernel
theorem dL_due_372 : decode cL_due 372 = .ok (.invokestatic 121, 3) := by decide +kernel
theorem dL_due_375 : decode cL_due 375 = .ok (.iinc 6 1, 3) := by decide +kernel
theorem dL_due_378 : decode cL_due 378 = .ok (.goto (-35), 3) := by decide +kernel
theorem dL_due_381 : decode cL_due 381 = .ok (.aload 4, 2) := by decide +kernel
theorem dL_due_383 : decode cL_due 383 = .ok (.aload 4, 2) := by decide +kernel
theorem dL_due_385 : decode cL_due 385 = .ok (.iconst 5, 1) := by decide +kernel
theorem dL_due_386 : decode cL_due 386 = .ok (.iaload, 1) := by decide +kernel
theorem dL_due_387 : decode cL_due 387 = .ok (.aload 4, 2) := by decide +kernel
theorem dL_due_389 : decode cL_due 389 = .ok (.iload_n 1, 1) := by decide +kernel
theorem dL_due_390 : decode cL_due 390 = .ok (.iaload, 1) := by decide +kernel
theorem dL_due_391 : decode cL_due 391 = .ok (.iload_n 2, 1) := by decide +kernel
theorem dL_due_392 : decode cL_due 392 = .ok (.isub, 1) := by decide +kernel
theorem dL_due_393 : decode cL_due 393 = .ok (.iconst 1, 1) := by decide +kernel
theorem dL_due_394 : decode cL_due 394 = .ok (.isub, 1) := by decide +kernel
theorem dL_due_395 : decode cL_due 395 = .ok (.iastore, 1) := by decide +kernel
theorem dL_due_396 : decode cL_due 396 = .ok (.aload 4, 2) := by decide +kernel
theorem dL_due_398 : decode cL_due 398 = .ok (.iload_n 1, 1) := by decide +kernel
theorem dL_due_399 : decode cL_due 399 = .ok (.iload_n 2, 1) := by decide +kernel
theorem dL_due_400 : decode cL_due 400 = .ok (.iconst 1, 1) := by decide +kernel
theorem dL_due_401 : decode cL_due 401 = .ok (.iadd, 1) := by decide +kernel
theorem dL_due_402 : decode cL_due 402 = .ok (.iastore, 1) := by decide +kernel
theorem dL_due_403 : decode cL_due 403 = .ok (.aload 4, 2) := by decide +kernel
theorem dL_due_405 : decode cL_due 405 = .ok (.iconst 5, 1) := by decide +kernel
theorem dL_due_406 : decode cL_due 406 = .ok (.dup2, 1) := by decide +kernel
theorem dL_due_407 : decode cL_due 407 = .ok (.iaload, 1) := by decide +kernel
theorem dL_due_408 : decode cL_due 408 = .ok (.iconst 1, 1) := by decide +kernel
theorem dL_due_409 : decode cL_due 409 = .ok (.iadd, 1) := by decide +kernel
theorem dL_due_410 : decode cL_due 410 = .ok (.iastore, 1) := by decide +kernel
theorem dL_due_411 : decode cL_due 411 = .ok (.aload 4, 2) := by decide +kernel
theorem dL_due_413 : decode cL_due 413 = .ok (.iconst 5, 1) := by decide +kernel
theorem dL_due_414 : decode cL_due 414 = .ok (.iaload, 1) := by decide +kernel
theorem dL_due_415 : decode cL_due 415 = .ok (.iconst 1, 1) := by decide +kernel
theorem dL_due_416 : decode cL_due 416 = .ok (.isub, 1) := by decide +kernel
theorem dL_due_417 : decode cL_due 417 = .ok (.ireturn, 1) := by decide +kernel
theorem dL_due_418 : decode cL_due 418 = .ok (.iload_n 1, 1) := by decide +kernel
theorem dL_due_419 : decode cL_due 419 = .ok (.aload 4, 2) := by decide +kernel
theorem dL_due_421 : decode cL_due 421 = .ok (.aload 5, 2) := by decide +kernel
theorem dL_due_423 : decode cL_due 423 = .ok (.invokestatic 128, 3) := by decide +kernel
theorem dL_due_426 : decode cL_due 426 = .ok (.aload 4, 2) := by decide +kernel
theorem dL_due_428 : decode cL_due 428 = .ok (.iconst 5, 1) := by decide +kernel
theorem dL_due_429 : decode cL_due 429 = .ok (.iaload, 1) := by decide +kernel
theorem dL_due_430 : decode cL_due 430 = .ok (.ireturn, 1) := by decide +kernel
theorem dL_isPath_0 : decode cL_isPath 0 = .ok (.iconst 0, 1) := by decide +kernel
theorem dL_isPath_1 : decode cL_isPath 1 = .ok (.istore 4, 2) := by decide +kernel
theorem dL_isPath_3 : decode cL_isPath 3 = .ok (.iconst 0, 1) := by decide +kernel
theorem dL_isPath_4 : decode cL_isPath 4 = .ok (.istore 5, 2) := by decide +kernel
theorem dL_isPath_6 : decode cL_isPath 6 = .ok (.bipush 9, 2) := by decide +kernel
theorem dL_isPath_8 : decode cL_isPath 8 = .ok (.istore 6, 2) := by decide +kernel
theorem dL_isPath_10 : decode cL_isPath 10 = .ok (.iconst 0, 1) := by decide +kernel
theorem dL_isPath_11 : decode cL_isPath 11 = .ok (.istore 7, 2) := by decide +kernel
theorem dL_isPath_13 : decode cL_isPath 13 = .ok (.bipush 9, 2) := by decide +kernel
theorem dL_isPath_15 : decode cL_isPath 15 = .ok (.istore 8, 2) := by decide +kernel
theorem dL_isPath_17 : decode cL_isPath 17 = .ok (.iconst 0, 1) := by decide +kernel
theorem dL_isPath_18 : decode cL_isPath 18 = .ok (.istore 9, 2) := by decide +kernel
theorem dL_isPath_20 : decode cL_isPath 20 = .ok (.iconst 0, 1) := by decide +kernel
theorem dL_isPath_21 : decode cL_isPath 21 = .ok (.istore 10, 2) := by decide +kernel
theorem dL_isPath_23 : decode cL_isPath 23 = .ok (.iconst 0, 1) := by decide +kernel
theorem dL_isPath_24 : decode cL_isPath 24 = .ok (.istore 11, 2) := by decide +kernel
theorem dL_isPath_26 : decode cL_isPath 26 = .ok (.iconst 0, 1) := by decide +kernel
theorem dL_isPath_27 : decode cL_isPath 27 = .ok (.istore 12, 2) := by decide +kernel
theorem dL_isPath_29 : decode cL_isPath 29 = .ok (.iload 12, 2) := by decide +kernel
theorem dL_isPath_31 : decode cL_isPath 31 = .ok (.aload_n 2, 1) := by decide +kernel
theorem dL_isPath_32 : decode cL_isPath 32 = .ok (.iload_n 1, 1) := by decide +kernel
theorem dL_isPath_33 : decode cL_isPath 33 = .ok (.iaload, 1) := by decide +kernel
theorem dL_isPath_34 : decode cL_isPath 34 = .ok (.if_icmp .ge 272, 3) := by decide +kernel
theorem dL_isPath_37 : decode cL_isPath 37 = .ok (.iload_n 1, 1) := by decide +kernel
theorem dL_isPath_38 : decode cL_isPath 38 = .ok (.iload 12, 2) := by decide +kernel
theorem dL_isPath_40 : decode cL_isPath 40 = .ok (.aload_n 3, 1) := by decide +kernel
theorem dL_isPath_41 : decode cL_isPath 41 = .ok (.invokestatic 70, 3) := by decide +kernel
theorem dL_isPath_44 : decode cL_isPath 44 = .ok (.istore 13, 2) := by decide +kernel
theorem dL_isPath_46 : decode cL_isPath 46 = .ok (.iload 13, 2) := by decide +kernel
theorem dL_isPath_48 : decode cL_isPath 48 = .ok (.bipush 10, 2) := by decide +kernel
theorem dL_isPath_50 : decode cL_isPath 50 = .ok (.irem, 1) := by decide +kernel
theorem dL_isPath_51 : decode cL_isPath 51 = .ok (.iload 6, 2) := by decide +kernel
theorem dL_isPath_53 : decode cL_isPath 53 = .ok (.if_icmp .ge 11, 3) := by decide +kernel
theorem dL_isPath_56 : decode cL_isPath 56 = .ok (.iload 13, 2) := by decide +kernel
theorem dL_isPath_58 : decode cL_isPath 58 = .ok (.bipush 10, 2) := by decide +kernel
theorem dL_isPath_60 : decode cL_isPath 60 = .ok (.irem, 1) := by decide +kernel
theorem dL_isPath_61 : decode cL_isPath 61 = .ok (.goto 5, 3) := by decide +kernel
theorem dL_isPath_64 : decode cL_isPath 64 = .ok (.iload 6, 2) := by decide +kernel
theorem dL_isPath_66 : decode cL_isPath 66 = .ok (.istore 6, 2) := by decide +kernel
theorem dL_isPath_68 : decode cL_isPath 68 = .ok (.iload 13, 2) := by decide +kernel
theorem dL_isPath_70 : decode cL_isPath 70 = .ok (.bipush 10, 2) := by decide +kernel
theorem dL_isPath_72 : decode cL_isPath 72 = .ok (.irem, 1) := by decide +kernel
theorem dL_isPath_73 : decode cL_isPath 73 = .ok (.iload 7, 2) := by decide +kernel
theorem dL_isPath_75 : decode cL_isPath 75 = .ok (.if_icmp .le 11, 3) := by decide +kernel
theorem dL_isPath_78 : decode cL_isPath 78 = .ok (.iload 13, 2) := by decide +kernel
theorem dL_isPath_80 : decode cL_isPath 80 = .ok (.bipush 10, 2) := by decide +kernel
theorem dL_isPath_82 : decode cL_isPath 82 = .ok (.irem, 1) := by decide +kernel
theorem dL_isPath_83 : decode cL_isPath 83 = .ok (.goto 5, 3) := by decide +kernel
theorem dL_isPath_86 : decode cL_isPath 86 = .ok (.iload 7, 2) := by decide +kernel
theorem dL_isPath_88 : decode cL_isPath 88 = .ok (.istore 7, 2) := by decide +kernel
theorem dL_isPath_90 : decode cL_isPath 90 = .ok (.iload 13, 2) := by decide +kernel
theorem dL_isPath_92 : decode cL_isPath 92 = .ok (.bipush 10, 2) := by decide +kernel
theorem dL_isPath_94 : decode cL_isPath 94 = .ok (.idiv, 1) := by decide +kernel
theorem dL_isPath_95 : decode cL_isPath 95 = .ok (.iload 8, 2) := by decide +kernel
theorem dL_isPath_97 : decode cL_isPath 97 = .ok (.if_icmp .ge 11, 3) := by decide +kernel
theorem dL_isPath_100 : decode cL_isPath 100 = .ok (.iload 13, 2) := by decide +kernel
theorem dL_isPath_102 : decode cL_isPath 102 = .ok (.bipush 10, 2) := by decide +kernel
theorem dL_isPath_104 : decode cL_isPath 104 = .ok (.idiv, 1) := by decide +kernel
theorem dL_isPath_105 : decode cL_isPath 105 = .ok (.goto 5, 3) := by decide +kernel
theorem dL_isPath_108 : decode cL_isPath 108 = .ok (.iload 8, 2) := by decide +kernel
theorem dL_isPath_110 : decode cL_isPath 110 = .ok (.istore 8, 2) := by decide +kernel
theorem dL_isPath_112 : decode cL_isPath 112 = .ok (.iload 13, 2) := by decide +kernel
theorem dL_isPath_114 : decode cL_isPath 114 = .ok (.bipush 10, 2) := by decide +kernel
theorem dL_isPath_116 : decode cL_isPath 116 = .ok (.idiv, 1) := by decide +kernel
theorem dL_isPath_117 : decode cL_isPath 117 = .ok (.iload 9, 2) := by decide +kernel
theorem dL_isPath_119 : decode cL_isPath 119 = .ok (.if_icmp .le 11, 3) := by decide +kernel
theorem dL_isPath_122 : decode cL_isPath 122 = .ok (.iload 13, 2) := by decide +kernel
theorem dL_isPath_124 : decode cL_isPath 124 = .ok (.bipush 10, 2) := by decide +kernel
theorem dL_isPath_126 : decode cL_isPath 126 = .ok (.idiv, 1) := by decide +kernel
theorem dL_isPath_127 : decode cL_isPath 127 = .ok (.goto 5, 3) := by decide +kernel
theorem dL_isPath_130 : decode cL_isPath 130 = .ok (.iload 9, 2) := by decide +kernel
theorem dL_isPath_132 : decode cL_isPath 132 = .ok (.istore 9, 2) := by decide +kernel
theorem dL_isPath_134 : decode cL_isPath 134 = .ok (.iload 4, 2) := by decide +kernel
theorem dL_isPath_136 : decode cL_isPath 136 = .ok (.iload 12, 2) := by decide +kernel
theorem dL_isPath_138 : decode cL_isPath 138 = .ok (.iconst 1, 1) := by decide +kernel
theorem dL_isPath_139 : decode cL_isPath 139 = .ok (.if_icmp .le 41, 3) := by decide +kernel
theorem dL_isPath_142 : decode cL_isPath 142 = .ok (.iload 13, 2) := by decide +kernel
theorem dL_isPath_144 : decode cL_isPath 144 = .ok (.iload_n 1, 1) := by decide +kernel
theorem dL_isPath_145 : decode cL_isPath 145 = .ok (.iload 12, 2) := by decide +kernel
theorem dL_isPath_147 : decode cL_isPath 147 = .ok (.iconst 1, 1) := by decide +kernel
theorem dL_isPath_148 : decode cL_isPath 148 = .ok (.isub, 1) := by decide +kernel
theorem dL_isPath_149 : decode cL_isPath 149 = .ok (.aload_n 3, 1) := by decide +kernel
theorem dL_isPath_150 : decode cL_isPath 150 = .ok (.invokestatic 70, 3) := by decide +kernel
theorem dL_isPath_153 : decode cL_isPath 153 = .ok (.isub, 1) := by decide +kernel
theorem dL_isPath_154 : decode cL_isPath 154 = .ok (.iload_n 1, 1) := by decide +kernel
theorem dL_isPath_155 : decode cL_isPath 155 = .ok (.iload 12, 2) := by decide +kernel
theorem dL_isPath_157 : decode cL_isPath 157 = .ok (.iconst 1, 1) := by decide +kernel
theorem dL_isPath_158 : decode cL_isPath 158 = .ok (.isub, 1) := by decide +kernel
theorem dL_isPath_159 : decode cL_isPath 159 = .ok (.aload_n 3, 1) := by decide +kernel
theorem dL_isPath_160 : decode cL_isPath 160 = .ok (.invokestatic 70, 3) := by decide +kernel
theorem dL_isPath_163 : decode cL_isPath 163 = .ok (.iload_n 1, 1) := by decide +kernel
theorem dL_isPath_164 : decode cL_isPath 164 = .ok (.iload 12, 2) := by decide +kernel
theorem dL_isPath_166 : decode cL_isPath 166 = .ok (.iconst 2, 1) := by decide +kernel
theorem dL_isPath_167 : decode cL_isPath 167 = .ok (.isub, 1) := by decide +kernel
theorem dL_isPath_168 : decode cL_isPath 168 = .ok (.aload_n 3, 1) := by decide +kernel
theorem dL_isPath_169 : decode cL_isPath 169 = .ok (.invokestatic 70, 3) := by decide +kernel
theorem dL_isPath_172 : decode cL_isPath 172 = .ok (.isub, 1) := by decide +kernel
theorem dL_isPath_173 : decode cL_isPath 173 = .ok (.if_icmp .eq 7, 3) := by decide +kernel
theorem dL_isPath_176 : decode cL_isPath 176 = .ok (.iconst 1, 1) := by decide +kernel
theorem dL_isPath_177 : decode cL_isPath 177 = .ok (.goto 4, 3) := by decide +kernel
theorem dL_isPath_180 : decode cL_isPath 180 = .ok (.iconst 0, 1) := by decide +kernel
theorem dL_isPath_181 : decode cL_isPath 181 = .ok (.iadd, 1) := by decide +kernel
theorem dL_isPath_182 : decode cL_isPath 182 = .ok (.istore 4, 2) := by decide +kernel
theorem dL_isPath_184 : decode cL_isPath 184 = .ok (.iconst 0, 1) := by decide +kernel
theorem dL_isPath_185 : decode cL_isPath 185 = .ok (.istore 14, 2) := by decide +kernel
theorem dL_isPath_187 : decode cL_isPath 187 = .ok (.iload 14, 2) := by decide +kernel
theorem dL_isPath_189 : decode cL_isPath 189 = .ok (.iload 12, 2) := by decide +kernel
theorem dL_isPath_191 : decode cL_isPath 191 = .ok (.if_icmp .ge 95, 3) := by decide +kernel
theorem dL_isPath_194 : decode cL_isPath 194 = .ok (.iload 13, 2) := by decide +kernel
theorem dL_isPath_196 : decode cL_isPath 196 = .ok (.bipush 10, 2) := by decide +kernel
theorem dL_isPath_198 : decode cL_isPath 198 = .ok (.irem, 1) := by decide +kernel
theorem dL_isPath_199 : decode cL_isPath 199 = .ok (.iload_n 1, 1) := by decide +kernel
theorem dL_isPath_200 : decode cL_isPath 200 = .ok (.iload 14, 2) := by decide +kernel
theorem dL_isPath_202 : decode cL_isPath 202 = .ok (.aload_n 3, 1) := by decide +kernel
theorem dL_isPath_203 : decode cL_isPath 203 = .ok (.invokestatic 70, 3) := by decide +kernel
theorem dL_isPath_206 : decode cL_isPath 206 = .ok (.bipush 10, 2) := by decide +kernel
theorem dL_isPath_208 : decode cL_isPath 208 = .ok (.irem, 1) := by decide +kernel
theorem dL_isPath_209 : decode cL_isPath 209 = .ok (.isub, 1) := by decide +kernel
theorem dL_isPath_210 : decode cL_isPath 210 = .ok (.istore 15, 2) := by decide +kernel
theorem dL_isPath_212 : decode cL_isPath 212 = .ok (.iload 13, 2) := by decide +kernel
theorem dL_isPath_214 : decode cL_isPath 214 = .ok (.bipush 10, 2) := by decide +kernel
theorem dL_isPath_216 : decode cL_isPath 216 = .ok (.idiv, 1) := by decide +kernel
theorem dL_isPath_217 : decode cL_isPath 217 = .ok (.iload_n 1, 1) := by decide +kernel
theorem dL_isPath_218 : decode cL_isPath 218 = .ok (.iload 14, 2) := by decide +kernel
theorem dL_isPath_220 : decode cL_isPath 220 = .ok (.aload_n 3, 1) := by decide +kernel
theorem dL_isPath_221 : decode cL_isPath 221 = .ok (.invokestatic 70, 3) := by decide +kernel
theorem dL_isPath_224 : decode cL_isPath 224 = .ok (.bipush 10, 2) := by decide +kernel
theorem dL_isPath_226 : decode cL_isPath 226 = .ok (.idiv, 1) := by decide +kernel
theorem dL_isPath_227 : decode cL_isPath 227 = .ok (.isub, 1) := by decide +kernel
theorem dL_isPath_228 : decode cL_isPath 228 = .ok (.istore 16, 2) := by decide +kernel
theorem dL_isPath_230 : decode cL_isPath 230 = .ok (.iload 5, 2) := by decide +kernel
theorem dL_isPath_232 : decode cL_isPath 232 = .ok (.iload 14, 2) := by decide +kernel
theorem dL_isPath_234 : decode cL_isPath 234 = .ok (.iload 12, 2) := by decide +kernel
theorem dL_isPath_236 : decode cL_isPath 236 = .ok (.iconst 1, 1) := by decide +kernel
theorem dL_isPath_237 : decode cL_isPath 237 = .ok (.isub, 1) := by decide +kernel
theorem dL_isPath_238 : decode cL_isPath 238 = .ok (.if_icmp .ge 22, 3) := by decide +kernel
theorem dL_isPath_241 : decode cL_isPath 241 = .ok (.iload 15, 2) := by decide +kernel
theorem dL_isPath_243 : decode cL_isPath 243 = .ok (.iload 15, 2) := by decide +kernel
theorem dL_isPath_245 : decode cL_isPath 245 = .ok (.imul, 1) := by decide +kernel
theorem dL_isPath_246 : decode cL_isPath 246 = .ok (.iload 16, 2) := by decide +kernel
theorem dL_isPath_248 : decode cL_isPath 248 = .ok (.iload 16, 2) := by decide +kernel
theorem dL_isPath_250 : decode cL_isPath 250 = .ok (.imul, 1) := by decide +kernel
theorem dL_isPath_251 : decode cL_isPath 251 = .ok (.iadd, 1) := by decide +kernel
theorem dL_isPath_252 : decode cL_isPath 252 = .ok (.iconst 1, 1) := by decide +kernel
theorem dL_isPath_253 : decode cL_isPath 253 = .ok (.if_icmp .ne 7, 3) := by decide +kernel
theorem dL_isPath_256 : decode cL_isPath 256 = .ok (.iconst 1, 1) := by decide +kernel
theorem dL_isPath_257 : decode cL_isPath 257 = .ok (.goto 4, 3) := by decide +kernel
theorem dL_isPath_260 : decode cL_isPath 260 = .ok (.iconst 0, 1) := by decide +kernel
theorem dL_isPath_261 : decode cL_isPath 261 = .ok (.iadd, 1) := by decide +kernel
theorem dL_isPath_262 : decode cL_isPath 262 = .ok (.istore 5, 2) := by decide +kernel
theorem dL_isPath_264 : decode cL_isPath 264 = .ok (.iload 10, 2) := by decide +kernel
theorem dL_isPath_266 : decode cL_isPath 266 = .ok (.iload 15, 2) := by decide +kernel
theorem dL_isPath_268 : decode cL_isPath 268 = .ok (.iload 15, 2) := by decide +kernel
theorem dL_isPath_270 : decode cL_isPath 270 = .ok (.imul, 1) := by decide +kernel
theorem dL_isPath_271 : decode cL_isPath 271 = .ok (.iload 16, 2) := by decide +kernel
theorem dL_isPath_273 : decode cL_isPath 273 = .ok (.iload 16, 2) := by decide +kernel
theorem dL_isPath_275 : decode cL_isPath 275 = .ok (.imul, 1) := by decide +kernel
theorem dL_isPath_276 : decode cL_isPath 276 = .ok (.iadd, 1) := by decide +kernel
theorem dL_isPath_277 : decode cL_isPath 277 = .ok (.iadd, 1) := by decide +kernel
theorem dL_isPath_278 : decode cL_isPath 278 = .ok (.istore 10, 2) := by decide +kernel
theorem dL_isPath_280 : decode cL_isPath 280 = .ok (.iinc 14 1, 3) := by decide +kernel
theorem dL_isPath_283 : decode cL_isPath 283 = .ok (.goto (-96), 3) := by decide +kernel
theorem dL_isPath_286 : decode cL_isPath 286 = .ok (.aload_n 0, 1) := by decide +kernel
theorem dL_isPath_287 : decode cL_isPath 287 = .ok (.iload_n 1, 1) := by decide +kernel
theorem dL_isPath_288 : decode cL_isPath 288 = .ok (.iload 12, 2) := by decide +kernel
theorem dL_isPath_290 : decode cL_isPath 290 = .ok (.invokestatic 143, 3) := by decide +kernel
theorem dL_isPath_293 : decode cL_isPath 293 = .ok (.iload 13, 2) := by decide +kernel
theorem dL_isPath_295 : decode cL_isPath 295 = .ok (.if_icmp .eq 5, 3) := by decide +kernel
theorem dL_isPath_298 : decode cL_isPath 298 = .ok (.iconst 0, 1) := by decide +kernel
theorem dL_isPath_299 : decode cL_isPath 299 = .ok (.ireturn, 1) := by decide +kernel
theorem dL_isPath_300 : decode cL_isPath 300 = .ok (.iinc 12 1, 3) := by decide +kernel
theorem dL_isPath_303 : decode cL_isPath 303 = .ok (.goto (-274), 3) := by decide +kernel
theorem dL_isPath_306 : decode cL_isPath 306 = .ok (.iconst 0, 1) := by decide +kernel
theorem dL_isPath_307 : decode cL_isPath 307 = .ok (.istore 12, 2) := by decide +kernel
theorem dL_isPath_309 : decode cL_isPath 309 = .ok (.iload 12, 2) := by decide +kernel
theorem dL_isPath_311 : decode cL_isPath 311 = .ok (.bipush 100, 2) := by decide +kernel
theorem dL_isPath_313 : decode cL_isPath 313 = .ok (.if_icmp .ge 106, 3) := by decide +kernel
theorem dL_isPath_316 : decode cL_isPath 316 = .ok (.iconst 0, 1) := by decide +kernel
theorem dL_isPath_317 : decode cL_isPath 317 = .ok (.istore 13, 2) := by decide +kernel
theorem dL_isPath_319 : decode cL_isPath 319 = .ok (.iconst 0, 1) := by decide +kernel
theorem dL_isPath_320 : decode cL_isPath 320 = .ok (.istore 14, 2) := by decide +kernel
theorem dL_isPath_322 : decode cL_isPath 322 = .ok (.iload 14, 2) := by decide +kernel
theorem dL_isPath_324 : decode cL_isPath 324 = .ok (.iconst 4, 1) := by decide +kernel
theorem dL_isPath_325 : decode cL_isPath 325 = .ok (.if_icmp .ge 63, 3) := by decide +kernel
theorem dL_isPath_328 : decode cL_isPath 328 = .ok (.iload 12, 2) := by decide +kernel
theorem dL_isPath_330 : decode cL_isPath 330 = .ok (.iload 14, 2) := by decide +kernel
theorem dL_isPath_332 : decode cL_isPath 332 = .ok (.invokestatic 114, 3) := by decide +kernel
theorem dL_isPath_335 : decode cL_isPath 335 = .ok (.ifCond .ge 7, 3) := by decide +kernel
theorem dL_isPath_338 : decode cL_isPath 338 = .ok (.iconst (-1), 1) := by decide +kernel
theorem dL_isPath_339 : decode cL_isPath 339 = .ok (.goto 15, 3) := by decide +kernel
theorem dL_isPath_342 : decode cL_isPath 342 = .ok (.iload 12, 2) := by decide +kernel
theorem dL_isPath_344 : decode cL_isPath 344 = .ok (.iload 14, 2) := by decide +kernel
theorem dL_isPath_346 : decode cL_isPath 346 = .ok (.invokestatic 114, 3) := by decide +kernel
theorem dL_isPath_349 : decode cL_isPath 349 = .ok (.aload_n 2, 1) := by decide +kernel
theorem dL_isPath_350 : decode cL_isPath 350 = .ok (.aload_n 3, 1) := by decide +kernel
theorem dL_isPath_351 : decode cL_isPath 351 = .ok (.invokestatic 76, 3) := by decide +kernel
theorem dL_isPath_354 : decode cL_isPath 354 = .ok (.istore 15, 2) := by decide +kernel
theorem dL_isPath_356 : decode cL_isPath 356 = .ok (.iload 13, 2) := by decide +kernel
theorem dL_isPath_358 : decode cL_isPath 358 = .ok (.ifCond .ne 17, 3) := by decide +kernel
theorem dL_isPath_361 : decode cL_isPath 361 = .ok (.iload 15, 2) := by decide +kernel
theorem dL_isPath_363 : decode cL_isPath 363 = .ok (.ifCond .lt 16, 3) := by decide +kernel
theorem dL_isPath_366 : decode cL_isPath 366 = .ok (.iload 15, 2) := by decide +kernel
theorem dL_isPath_368 : decode cL_isPath 368 = .ok (.bipush 100, 2) := by decide +kernel
theorem dL_isPath_370 : decode cL_isPath 370 = .ok (.idiv, 1) := by decide +kernel
theorem dL_isPath_371 : decode cL_isPath 371 = .ok (.iload_n 1, 1) := by decide +kernel
theorem dL_isPath_372 : decode cL_isPath 372 = .ok (.if_icmp .ne 7, 3) := by decide +kernel
theorem dL_isPath_375 : decode cL_isPath 375 = .ok (.iconst 1, 1) := by decide +kernel
theorem dL_isPath_376 : decode cL_isPath 376 = .ok (.goto 4, 3) := by decide +kernel
theorem dL_isPath_379 : decode cL_isPath 379 = .ok (.iconst 0, 1) := by decide +kernel
theorem dL_isPath_380 : decode cL_isPath 380 = .ok (.istore 13, 2) := by decide +kernel
theorem dL_isPath_382 : decode cL_isPath 382 = .ok (.iinc 14 1, 3) := by decide +kernel
theorem dL_isPath_385 : decode cL_isPath 385 = .ok (.goto (-63), 3) := by decide +kernel
theorem dL_isPath_388 : decode cL_isPath 388 = .ok (.iload 11, 2) := by decide +kernel
theorem dL_isPath_390 : decode cL_isPath 390 = .ok (.iload 13, 2) := by decide +kernel
theorem dL_isPath_392 : decode cL_isPath 392 = .ok (.ifCond .eq 17, 3) := by decide +kernel
theorem dL_isPath_395 : decode cL_isPath 395 = .ok (.iload 12, 2) := by decide +kernel
theorem dL_isPath_397 : decode cL_isPath 397 = .ok (.aload_n 2, 1) := by decide +kernel
theorem dL_isPath_398 : decode cL_isPath 398 = .ok (.aload_n 3, 1) := by decide +kernel
theorem dL_isPath_399 : decode cL_isPath 399 = .ok (.invokestatic 76, 3) := by decide +kernel
theorem dL_isPath_402 : decode cL_isPath 402 = .ok (.ifCond .ge 7, 3) := by decide +kernel
theorem dL_isPath_405 : decode cL_isPath 405 = .ok (.iconst 1, 1) := by decide +kernel
theorem dL_isPath_406 : decode cL_isPath 406 = .ok (.goto 4, 3) := by decide +kernel
theorem dL_isPath_409 : decode cL_isPath 409 = .ok (.iconst 0, 1) := by decide +kernel
theorem dL_isPath_410 : decode cL_isPath 410 = .ok (.iadd, 1) := by decide +kernel
theorem dL_isPath_411 : decode cL_isPath 411 = .ok (.istore 11, 2) := by decide +kernel
theorem dL_isPath_413 : decode cL_isPath 413 = .ok (.iinc 12 1, 3) := by decide +kernel
theorem dL_isPath_416 : decode cL_isPath 416 = .ok (.goto (-107), 3) := by decide +kernel
theorem dL_isPath_419 : decode cL_isPath 419 = .ok (.iload_n 1, 1) := by decide +kernel
theorem dL_isPath_420 : decode cL_isPath 420 = .ok (.aload_n 2, 1) := by decide +kernel
theorem dL_isPath_421 : decode cL_isPath 421 = .ok (.iload_n 1, 1) := by decide +kernel
theorem dL_isPath_422 : decode cL_isPath 422 = .ok (.iaload, 1) := by decide +kernel
theorem dL_isPath_423 : decode cL_isPath 423 = .ok (.iconst 1, 1) := by decide +kernel
theorem dL_isPath_424 : decode cL_isPath 424 = .ok (.isub, 1) := by decide +kernel
theorem dL_isPath_425 : decode cL_isPath 425 = .ok (.aload_n 3, 1) := by decide +kernel
theorem dL_isPath_426 : decode cL_isPath 426 = .ok (.invokestatic 70, 3) := by decide +kernel
theorem dL_isPath_429 : decode cL_isPath 429 = .ok (.istore 12, 2) := by decide +kernel
theorem dL_isPath_431 : decode cL_isPath 431 = .ok (.iload 12, 2) := by decide +kernel
theorem dL_isPath_433 : decode cL_isPath 433 = .ok (.bipush 10, 2) := by decide +kernel
theorem dL_isPath_435 : decode cL_isPath 435 = .ok (.irem, 1) := by decide +kernel
theorem dL_isPath_436 : decode cL_isPath 436 = .ok (.iload_n 1, 1) := by decide +kernel
theorem dL_isPath_437 : decode cL_isPath 437 = .ok (.iconst 0, 1) := by decide +kernel
theorem dL_isPath_438 : decode cL_isPath 438 = .ok (.aload_n 3, 1) := by decide +kernel
theorem dL_isPath_439 : decode cL_isPath 439 = .ok (.invokestatic 70, 3) := by decide +kernel
theorem dL_isPath_442 : decode cL_isPath 442 = .ok (.bipush 10, 2) := by decide +kernel
theorem dL_isPath_444 : decode cL_isPath 444 = .ok (.irem, 1) := by decide +kernel
theorem dL_isPath_445 : decode cL_isPath 445 = .ok (.isub, 1) := by decide +kernel
theorem dL_isPath_446 : decode cL_isPath 446 = .ok (.istore 13, 2) := by decide +kernel
theorem dL_isPath_448 : decode cL_isPath 448 = .ok (.iload 12, 2) := by decide +kernel
theorem dL_isPath_450 : decode cL_isPath 450 = .ok (.bipush 10, 2) := by decide +kernel
theorem dL_isPath_452 : decode cL_isPath 452 = .ok (.idiv, 1) := by decide +kernel
theorem dL_isPath_453 : decode cL_isPath 453 = .ok (.iload_n 1, 1) := by decide +kernel
theorem dL_isPath_454 : decode cL_isPath 454 = .ok (.iconst 0, 1) := by decide +kernel
theorem dL_isPath_455 : decode cL_isPath 455 = .ok (.aload_n 3, 1) := by decide +kernel
theorem dL_isPath_456 : decode cL_isPath 456 = .ok (.invokestatic 70, 3) := by decide +kernel
theorem dL_isPath_459 : decode cL_isPath 459 = .ok (.bipush 10, 2) := by decide +kernel
theorem dL_isPath_461 : decode cL_isPath 461 = .ok (.idiv, 1) := by decide +kernel
theorem dL_isPath_462 : decode cL_isPath 462 = .ok (.isub, 1) := by decide +kernel
theorem dL_isPath_463 : decode cL_isPath 463 = .ok (.istore 14, 2) := by decide +kernel
theorem dL_isPath_465 : decode cL_isPath 465 = .ok (.aload_n 0, 1) := by decide +kernel
theorem dL_isPath_466 : decode cL_isPath 466 = .ok (.iload_n 1, 1) := by decide +kernel
theorem dL_isPath_467 : decode cL_isPath 467 = .ok (.iconst 0, 1) := by decide +kernel
theorem dL_isPath_468 : decode cL_isPath 468 = .ok (.invokestatic 145, 3) := by decide +kernel
theorem dL_isPath_471 : decode cL_isPath 471 = .ok (.aload_n 2, 1) := by decide +kernel
theorem dL_isPath_472 : decode cL_isPath 472 = .ok (.iload_n 1, 1) := by decide +kernel
theorem dL_isPath_473 : decode cL_isPath 473 = .ok (.iaload, 1) := by decide +kernel
theorem dL_isPath_474 : decode cL_isPath 474 = .ok (.if_icmp .ne 105, 3) := by decide +kernel
theorem dL_isPath_477 : decode cL_isPath 477 = .ok (.aload_n 0, 1) := by decide +kernel
theorem dL_isPath_478 : decode cL_isPath 478 = .ok (.iload_n 1, 1) := by decide +kernel
theorem dL_isPath_479 : decode cL_isPath 479 = .ok (.iconst 1, 1) := by decide +kernel
theorem dL_isPath_480 : decode cL_isPath 480 = .ok (.invokestatic 145, 3) := by decide +kernel
theorem dL_isPath_483 : decode cL_isPath 483 = .ok (.iload 4, 2) := by decide +kernel
theorem dL_isPath_485 : decode cL_isPath 485 = .ok (.if_icmp .ne 94, 3) := by decide +kernel
theorem dL_isPath_488 : decode cL_isPath 488 = .ok (.aload_n 0, 1) := by decide +kernel
theorem dL_isPath_489 : decode cL_isPath 489 = .ok (.iload_n 1, 1) := by decide +kernel
theorem dL_isPath_490 : decode cL_isPath 490 = .ok (.iconst 2, 1) := by decide +kernel
theorem dL_isPath_491 : decode cL_isPath 491 = .ok (.invokestatic 145, 3) := by decide +kernel
theorem dL_isPath_494 : decode cL_isPath 494 = .ok (.iload 5, 2) := by decide +kernel
theorem dL_isPath_496 : decode cL_isPath 496 = .ok (.if_icmp .ne 83, 3) := by decide +kernel
theorem dL_isPath_499 : decode cL_isPath 499 = .ok (.aload_n 0, 1) := by decide +kernel
theorem dL_isPath_500 : decode cL_isPath 500 = .ok (.iload_n 1, 1) := by decide +kernel
theorem dL_isPath_501 : decode cL_isPath 501 = .ok (.iconst 3, 1) := by decide +kernel
theorem dL_isPath_502 : decode cL_isPath 502 = .ok (.invokestatic 145, 3) := by decide +kernel
theorem dL_isPath_505 : decode cL_isPath 505 = .ok (.iload 7, 2) := by decide +kernel
theorem dL_isPath_507 : decode cL_isPath 507 = .ok (.iload 6, 2) := by decide +kernel
theorem dL_isPath_509 : decode cL_isPath 509 = .ok (.isub, 1) := by decide +kernel
theorem dL_isPath_510 : decode cL_isPath 510 = .ok (.iconst 1, 1) := by decide +kernel
theorem dL_isPath_511 : decode cL_isPath 511 = .ok (.iadd, 1) := by decide +kernel
theorem dL_isPath_512 : decode cL_isPath 512 = .ok (.if_icmp .ne 67, 3) := by decide +kernel
theorem dL_isPath_515 : decode cL_isPath 515 = .ok (.aload_n 0, 1) := by decide +kernel
theorem dL_isPath_516 : decode cL_isPath 516 = .ok (.iload_n 1, 1) := by decide +kernel
theorem dL_isPath_517 : decode cL_isPath 517 = .ok (.iconst 4, 1) := by decide +kernel
theorem dL_isPath_518 : decode cL_isPath 518 = .ok (.invokestatic 145, 3) := by decide +kernel
theorem dL_isPath_521 : decode cL_isPath 521 = .ok (.iload 9, 2) := by decide +kernel
theorem dL_isPath_523 : decode cL_isPath 523 = .ok (.iload 8, 2) := by decide +kernel
theorem dL_isPath_525 : decode cL_isPath 525 = .ok (.isub, 1) := by decide +kernel
theorem dL_isPath_526 : decode cL_isPath 526 = .ok (.iconst 1, 1) := by decide +kernel
theorem dL_isPath_527 : decode cL_isPath 527 = .ok (.iadd, 1) := by decide +kernel
theorem dL_isPath_528 : decode cL_isPath 528 = .ok (.if_icmp .ne 51, 3) := by decide +kernel
theorem dL_isPath_531 : decode cL_isPath 531 = .ok (.aload_n 0, 1) := by decide +kernel
theorem dL_isPath_532 : decode cL_isPath 532 = .ok (.iload_n 1, 1) := by decide +kernel
theorem dL_isPath_533 : decode cL_isPath 533 = .ok (.iconst 5, 1) := by decide +kernel
theorem dL_isPath_534 : decode cL_isPath 534 = .ok (.invokestatic 145, 3) := by decide +kernel
theorem dL_isPath_537 : decode cL_isPath 537 = .ok (.iload 13, 2) := by decide +kernel
theorem dL_isPath_539 : decode cL_isPath 539 = .ok (.iload 13, 2) := by decide +kernel
theorem dL_isPath_541 : decode cL_isPath 541 = .ok (.imul, 1) := by decide +kernel
theorem dL_isPath_542 : decode cL_isPath 542 = .ok (.iload 14, 2) := by decide +kernel
theorem dL_isPath_544 : decode cL_isPath 544 = .ok (.iload 14, 2) := by decide +kernel
theorem dL_isPath_546 : decode cL_isPath 546 = .ok (.imul, 1) := by decide +kernel
theorem dL_isPath_547 : decode cL_isPath 547 = .ok (.iadd, 1) := by decide +kernel
theorem dL_isPath_548 : decode cL_isPath 548 = .ok (.if_icmp .ne 31, 3) := by decide +kernel
theorem dL_isPath_551 : decode cL_isPath 551 = .ok (.aload_n 0, 1) := by decide +kernel
theorem dL_isPath_552 : decode cL_isPath 552 = .ok (.iload_n 1, 1) := by decide +kernel
theorem dL_isPath_553 : decode cL_isPath 553 = .ok (.bipush 7, 2) := by decide +kernel
theorem dL_isPath_555 : decode cL_isPath 555 = .ok (.invokestatic 145, 3) := by decide +kernel
theorem dL_isPath_558 : decode cL_isPath 558 = .ok (.iload 10, 2) := by decide +kernel
theorem dL_isPath_560 : decode cL_isPath 560 = .ok (.if_icmp .ne 19, 3) := by decide +kernel
theorem dL_isPath_563 : decode cL_isPath 563 = .ok (.aload_n 0, 1) := by decide +kernel
theorem dL_isPath_564 : decode cL_isPath 564 = .ok (.iload_n 1, 1) := by decide +kernel
theorem dL_isPath_565 : decode cL_isPath 565 = .ok (.bipush 8, 2) := by decide +kernel
theorem dL_isPath_567 : decode cL_isPath 567 = .ok (.invokestatic 145, 3) := by decide +kernel
theorem dL_isPath_570 : decode cL_isPath 570 = .ok (.iload 11, 2) := by decide +kernel
theorem dL_isPath_572 : decode cL_isPath 572 = .ok (.if_icmp .ne 7, 3) := by decide +kernel
theorem dL_isPath_575 : decode cL_isPath 575 = .ok (.iconst 1, 1) := by decide +kernel
theorem dL_isPath_576 : decode cL_isPath 576 = .ok (.goto 4, 3) := by decide +kernel
theorem dL_isPath_579 : decode cL_isPath 579 = .ok (.iconst 0, 1) := by decide +kernel
theorem dL_isPath_580 : decode cL_isPath 580 = .ok (.istore 15, 2) := by decide +kernel
theorem dL_isPath_582 : decode cL_isPath 582 = .ok (.iload 15, 2) := by decide +kernel
theorem dL_isPath_584 : decode cL_isPath 584 = .ok (.ifCond .eq 76, 3) := by decide +kernel
theorem dL_isPath_587 : decode cL_isPath 587 = .ok (.aload_n 0, 1) := by decide +kernel
theorem dL_isPath_588 : decode cL_isPath 588 = .ok (.iload_n 1, 1) := by decide +kernel
theorem dL_isPath_589 : decode cL_isPath 589 = .ok (.bipush 6, 2) := by decide +kernel
theorem dL_isPath_591 : decode cL_isPath 591 = .ok (.invokestatic 145, 3) := by decide +kernel
theorem dL_isPath_594 : decode cL_isPath 594 = .ok (.aload_n 0, 1) := by decide +kernel
theorem dL_isPath_595 : decode cL_isPath 595 = .ok (.iload 12, 2) := by decide +kernel
theorem dL_isPath_597 : decode cL_isPath 597 = .ok (.bipush 10, 2) := by decide +kernel
theorem dL_isPath_599 : decode cL_isPath 599 = .ok (.irem, 1) := by decide +kernel
theorem dL_isPath_600 : decode cL_isPath 600 = .ok (.iload 12, 2) := by decide +kernel
theorem dL_isPath_602 : decode cL_isPath 602 = .ok (.bipush 10, 2) := by decide +kernel
theorem dL_isPath_604 : decode cL_isPath 604 = .ok (.idiv, 1) := by decide +kernel
theorem dL_isPath_605 : decode cL_isPath 605 = .ok (.iconst 2, 1) := by decide +kernel
theorem dL_isPath_606 : decode cL_isPath 606 = .ok (.invokestatic 92, 3) := by decide +kernel
theorem dL_isPath_609 : decode cL_isPath 609 = .ok (.if_icmp .ne 51, 3) := by decide +kernel
theorem dL_isPath_612 : decode cL_isPath 612 = .ok (.aload_n 0, 1) := by decide +kernel
theorem dL_isPath_613 : decode cL_isPath 613 = .ok (.iload_n 1, 1) := by decide +kernel
theorem dL_isPath_614 : decode cL_isPath 614 = .ok (.aload_n 2, 1) := by decide +kernel
theorem dL_isPath_615 : decode cL_isPath 615 = .ok (.iload_n 1, 1) := by decide +kernel
theorem dL_isPath_616 : decode cL_isPath 616 = .ok (.iaload, 1) := by decide +kernel
theorem dL_isPath_617 : decode cL_isPath 617 = .ok (.invokestatic 143, 3) := by decide +kernel
theorem dL_isPath_620 : decode cL_isPath 620 = .ok (.iconst (-1), 1) := by decide +kernel
theorem dL_isPath_621 : decode cL_isPath 621 = .ok (.if_icmp .ne 39, 3) := by decide +kernel
theorem dL_isPath_624 : decode cL_isPath 624 = .ok (.aload_n 0, 1) := by decide +kernel
theorem dL_isPath_625 : decode cL_isPath 625 = .ok (.iload_n 1, 1) := by decide +kernel
theorem dL_isPath_626 : decode cL_isPath 626 = .ok (.iconst (-1), 1) := by decide +kernel
theorem dL_isPath_627 : decode cL_isPath 627 = .ok (.invokestatic 143, 3) := by decide +kernel
theorem dL_isPath_630 : decode cL_isPath 630 = .ok (.iconst (-1), 1) := by decide +kernel
theorem dL_isPath_631 : decode cL_isPath 631 = .ok (.if_icmp .ne 29, 3) := by decide +kernel
theorem dL_isPath_634 : decode cL_isPath 634 = .ok (.aload_n 0, 1) := by decide +kernel
theorem dL_isPath_635 : decode cL_isPath 635 = .ok (.iload_n 1, 1) := by decide +kernel
theorem dL_isPath_636 : decode cL_isPath 636 = .ok (.invokevirtual 147, 3) := by decide +kernel
theorem dL_isPath_639 : decode cL_isPath 639 = .ok (.iload 10, 2) := by decide +kernel
theorem dL_isPath_641 : decode cL_isPath 641 = .ok (.i2d, 1) := by decide +kernel
theorem dL_isPath_642 : decode cL_isPath 642 = .ok (.aload_n 2, 1) := by decide +kernel
theorem dL_isPath_643 : decode cL_isPath 643 = .ok (.iload_n 1, 1) := by decide +kernel
theorem dL_isPath_644 : decode cL_isPath 644 = .ok (.iaload, 1) := by decide +kernel
theorem dL_isPath_645 : decode cL_isPath 645 = .ok (.i2d, 1) := by decide +kernel
theorem dL_isPath_646 : decode cL_isPath 646 = .ok (.aload_n 2, 1) := by decide +kernel
theorem dL_isPath_647 : decode cL_isPath 647 = .ok (.iload_n 1, 1) := by decide +kernel
theorem dL_isPath_648 : decode cL_isPath 648 = .ok (.iaload, 1) := by decide +kernel
theorem dL_isPath_649 : decode cL_isPath 649 = .ok (.i2d, 1) := by decide +kernel
theorem dL_isPath_650 : decode cL_isPath 650 = .ok (.dmul, 1) := by decide +kernel
theorem dL_isPath_651 : decode cL_isPath 651 = .ok (.ddiv, 1) := by decide +kernel
theorem dL_isPath_652 : decode cL_isPath 652 = .ok (.dcmp .l, 1) := by decide +kernel
theorem dL_isPath_653 : decode cL_isPath 653 = .ok (.ifCond .ne 7, 3) := by decide +kernel
theorem dL_isPath_656 : decode cL_isPath 656 = .ok (.iconst 1, 1) := by decide +kernel
theorem dL_isPath_657 : decode cL_isPath 657 = .ok (.goto 4, 3) := by decide +kernel
theorem dL_isPath_660 : decode cL_isPath 660 = .ok (.iconst 0, 1) := by decide +kernel
theorem dL_isPath_661 : decode cL_isPath 661 = .ok (.ireturn, 1) := by decide +kernel
theorem dL_isSo_0 : decode cL_isSo 0 = .ok (.iconst 0, 1) := by decide +kernel
theorem dL_isSo_1 : decode cL_isSo 1 = .ok (.istore 4, 2) := by decide +kernel
theorem dL_isSo_3 : decode cL_isSo 3 = .ok (.iconst 0, 1) := by decide +kernel
theorem dL_isSo_4 : decode cL_isSo 4 = .ok (.istore 5, 2) := by decide +kernel
theorem dL_isSo_6 : decode cL_isSo 6 = .ok (.iconst 0, 1) := by decide +kernel
theorem dL_isSo_7 : decode cL_isSo 7 = .ok (.istore 6, 2) := by decide +kernel
theorem dL_isSo_9 : decode cL_isSo 9 = .ok (.iload 6, 2) := by decide +kernel
theorem dL_isSo_11 : decode cL_isSo 11 = .ok (.aload_n 2, 1) := by decide +kernel
theorem dL_isSo_12 : decode cL_isSo 12 = .ok (.iconst 5, 1) := by decide +kernel
theorem dL_isSo_13 : decode cL_isSo 13 = .ok (.iaload, 1) := by decide +kernel
theorem dL_isSo_14 : decode cL_isSo 14 = .ok (.if_icmp .ge 100, 3) := by decide +kernel
theorem dL_isSo_17 : decode cL_isSo 17 = .ok (.iload 4, 2) := by decide +kernel
theorem dL_isSo_19 : decode cL_isSo 19 = .ok (.aload_n 2, 1) := by decide +kernel
theorem dL_isSo_20 : decode cL_isSo 20 = .ok (.iload 6, 2) := by decide +kernel
theorem dL_isSo_22 : decode cL_isSo 22 = .ok (.iaload, 1) := by decide +kernel
theorem dL_isSo_23 : decode cL_isSo 23 = .ok (.iadd, 1) := by decide +kernel
theorem dL_isSo_24 : decode cL_isSo 24 = .ok (.istore 4, 2) := by decide +kernel
theorem dL_isSo_26 : decode cL_isSo 26 = .ok (.iconst 0, 1) := by decide +kernel
theorem dL_isSo_27 : decode cL_isSo 27 = .ok (.istore 7, 2) := by decide +kernel
theorem dL_isSo_29 : decode cL_isSo 29 = .ok (.iconst 0, 1) := by decide +kernel
theorem dL_isSo_30 : decode cL_isSo 30 = .ok (.istore 8, 2) := by decide +kernel
theorem dL_isSo_32 : decode cL_isSo 32 = .ok (.iload 8, 2) := by decide +kernel
theorem dL_isSo_34 : decode cL_isSo 34 = .ok (.iconst 4, 1) := by decide +kernel
theorem dL_isSo_35 : decode cL_isSo 35 = .ok (.if_icmp .ge 55, 3) := by decide +kernel
theorem dL_isSo_38 : decode cL_isSo 38 = .ok (.iload 6, 2) := by decide +kernel
theorem dL_isSo_40 : decode cL_isSo 40 = .ok (.aload_n 2, 1) := by decide +kernel
theorem dL_isSo_41 : decode cL_isSo 41 = .ok (.iload 6, 2) := by decide +kernel
theorem dL_isSo_43 : decode cL_isSo 43 = .ok (.iaload, 1) := by decide +kernel
theorem dL_isSo_44 : decode cL_isSo 44 = .ok (.iconst 1, 1) := by decide +kernel
theorem dL_isSo_45 : decode cL_isSo 45 = .ok (.isub, 1) := by decide +kernel
theorem dL_isSo_46 : decode cL_isSo 46 = .ok (.aload_n 3, 1) := by decide +kernel
theorem dL_isSo_47 : decode cL_isSo 47 = .ok (.invokestatic 70, 3) := by decide +kernel
theorem dL_isSo_50 : decode cL_isSo 50 = .ok (.iload 8, 2) := by decide +kernel
theorem dL_isSo_52 : decode cL_isSo 52 = .ok (.invokestatic 114, 3) := by decide +kernel
theorem dL_isSo_55 : decode cL_isSo 55 = .ok (.istore 9, 2) := by decide +kernel
theorem dL_isSo_57 : decode cL_isSo 57 = .ok (.iload 7, 2) := by decide +kernel
theorem dL_isSo_59 : decode cL_isSo 59 = .ok (.ifCond .ne 18, 3) := by decide +kernel
theorem dL_isSo_62 : decode cL_isSo 62 = .ok (.iload 9, 2) := by decide +kernel
theorem dL_isSo_64 : decode cL_isSo 64 = .ok (.ifCond .lt 17, 3) := by decide +kernel
theorem dL_isSo_67 : decode cL_isSo 67 = .ok (.iload 9, 2) := by decide +kernel
theorem dL_isSo_69 : decode cL_isSo 69 = .ok (.aload_n 2, 1) := by decide +kernel
theorem dL_isSo_70 : decode cL_isSo 70 = .ok (.aload_n 3, 1) := by decide +kernel
theorem dL_isSo_71 : decode cL_isSo 71 = .ok (.invokestatic 76, 3) := by decide +kernel
theorem dL_isSo_74 : decode cL_isSo 74 = .ok (.ifCond .ge 7, 3) := by decide +kernel
theorem dL_isSo_77 : decode cL_isSo 77 = .ok (.iconst 1, 1) := by decide +kernel
theorem dL_isSo_78 : decode cL_isSo 78 = .ok (.goto 4, 3) := by decide +kernel
theorem dL_isSo_81 : decode cL_isSo 81 = .ok (.iconst 0, 1) := by decide +kernel
theorem dL_isSo_82 : decode cL_isSo 82 = .ok (.istore 7, 2) := by decide +kernel
theorem dL_isSo_84 : decode cL_isSo 84 = .ok (.iinc 8 1, 3) := by decide +kernel
theorem dL_isSo_87 : decode cL_isSo 87 = .ok (.goto (-55), 3) := by decide +kernel
theorem dL_isSo_90 : decode cL_isSo 90 = .ok (.iload 5, 2) := by decide +kernel
theorem dL_isSo_92 : decode cL_isSo 92 = .ok (.iload 7, 2) := by decide +kernel
theorem dL_isSo_94 : decode cL_isSo 94 = .ok (.ifCond .eq 7, 3) := by decide +kernel
theorem dL_isSo_97 : decode cL_isSo 97 = .ok (.iconst 0, 1) := by decide +kernel
theorem dL_isSo_98 : decode cL_isSo 98 = .ok (.goto 7, 3) := by decide +kernel
theorem dL_isSo_101 : decode cL_isSo 101 = .ok (.iconst 1, 1) := by decide +kernel
theorem dL_isSo_102 : decode cL_isSo 102 = .ok (.iload 6, 2) := by decide +kernel
theorem dL_isSo_104 : decode cL_isSo 104 = .ok (.ishl, 1) := by decide +kernel
theorem dL_isSo_105 : decode cL_isSo 105 = .ok (.ior, 1) := by decide +kernel
theorem dL_isSo_106 : decode cL_isSo 106 = .ok (.istore 5, 2) := by decide +kernel
theorem dL_isSo_108 : decode cL_isSo 108 = .ok (.iinc 6 1, 3) := by decide +kernel
theorem dL_isSo_111 : decode cL_isSo 111 = .ok (.goto (-102), 3) := by decide +kernel
theorem dL_isSo_114 : decode cL_isSo 114 = .ok (.iload_n 1, 1) := by decide +kernel
theorem dL_isSo_115 : decode cL_isSo 115 = .ok (.bipush 100, 2) := by decide +kernel
theorem dL_isSo_117 : decode cL_isSo 117 = .ok (.invokestatic 151, 3) := by decide +kernel
theorem dL_isSo_120 : decode cL_isSo 120 = .ok (.istore 6, 2) := by decide +kernel
theorem dL_isSo_122 : decode cL_isSo 122 = .ok (.iload 6, 2) := by decide +kernel
theorem dL_isSo_124 : decode cL_isSo 124 = .ok (.aload_n 2, 1) := by decide +kernel
theorem dL_isSo_125 : decode cL_isSo 125 = .ok (.aload_n 3, 1) := by decide +kernel
theorem dL_isSo_126 : decode cL_isSo 126 = .ok (.invokestatic 76, 3) := by decide +kernel
theorem dL_isSo_129 : decode cL_isSo 129 = .ok (.istore 7, 2) := by decide +kernel
theorem dL_isSo_131 : decode cL_isSo 131 = .ok (.iconst 0, 1) := by decide +kernel
theorem dL_isSo_132 : decode cL_isSo 132 = .ok (.istore 8, 2) := by decide +kernel
theorem dL_isSo_134 : decode cL_isSo 134 = .ok (.iconst 0, 1) := by decide +kernel
theorem dL_isSo_135 : decode cL_isSo 135 = .ok (.istore 9, 2) := by decide +kernel
theorem dL_isSo_137 : decode cL_isSo 137 = .ok (.iload 9, 2) := by decide +kernel
theorem dL_isSo_139 : decode cL_isSo 139 = .ok (.iconst 4, 1) := by decide +kernel
theorem dL_isSo_140 : decode cL_isSo 140 = .ok (.if_icmp .ge 47, 3) := by decide +kernel
theorem dL_isSo_143 : decode cL_isSo 143 = .ok (.iload 8, 2) := by decide +kernel
theorem dL_isSo_145 : decode cL_isSo 145 = .ok (.iload 6, 2) := by decide +kernel
theorem dL_isSo_147 : decode cL_isSo 147 = .ok (.iload 9, 2) := by decide +kernel
theorem dL_isSo_149 : decode cL_isSo 149 = .ok (.invokestatic 114, 3) := by decide +kernel
theorem dL_isSo_152 : decode cL_isSo 152 = .ok (.ifCond .lt 25, 3) := by decide +kernel
theorem dL_isSo_155 : decode cL_isSo 155 = .ok (.iload 6, 2) := by decide +kernel
theorem dL_isSo_157 : decode cL_isSo 157 = .ok (.iload 9, 2) := by decide +kernel
theorem dL_isSo_159 : decode cL_isSo 159 = .ok (.invokestatic 114, 3) := by decide +kernel
theorem dL_isSo_162 : decode cL_isSo 162 = .ok (.aload_n 2, 1) := by decide +kernel
theorem dL_isSo_163 : decode cL_isSo 163 = .ok (.aload_n 3, 1) := by decide +kernel
theorem dL_isSo_164 : decode cL_isSo 164 = .ok (.invokestatic 76, 3) := by decide +kernel
theorem dL_isSo_167 : decode cL_isSo 167 = .ok (.ifCond .ge 10, 3) := by decide +kernel
theorem dL_isSo_170 : decode cL_isSo 170 = .ok (.iconst 1, 1) := by decide +kernel
theorem dL_isSo_171 : decode cL_isSo 171 = .ok (.iload 9, 2) := by decide +kernel
theorem dL_isSo_173 : decode cL_isSo 173 = .ok (.ishl, 1) := by decide +kernel
theorem dL_isSo_174 : decode cL_isSo 174 = .ok (.goto 4, 3) := by decide +kernel
theorem dL_isSo_177 : decode cL_isSo 177 = .ok (.iconst 0, 1) := by decide +kernel
theorem dL_isSo_178 : decode cL_isSo 178 = .ok (.ior, 1) := by decide +kernel
theorem dL_isSo_179 : decode cL_isSo 179 = .ok (.istore 8, 2) := by decide +kernel
theorem dL_isSo_181 : decode cL_isSo 181 = .ok (.iinc 9 1, 3) := by decide +kernel
theorem dL_isSo_184 : decode cL_isSo 184 = .ok (.goto (-47), 3) := by decide +kernel
theorem dL_isSo_187 : decode cL_isSo 187 = .ok (.aload_n 0, 1) := by decide +kernel
theorem dL_isSo_188 : decode cL_isSo 188 = .ok (.iconst 0, 1) := by decide +kernel
theorem dL_isSo_189 : decode cL_isSo 189 = .ok (.invokestatic 87, 3) := by decide +kernel
theorem dL_isSo_192 : decode cL_isSo 192 = .ok (.aload_n 2, 1) := by decide +kernel
theorem dL_isSo_193 : decode cL_isSo 193 = .ok (.iconst 5, 1) := by decide +kernel
theorem dL_isSo_194 : decode cL_isSo 194 = .ok (.iaload, 1) := by decide +kernel
theorem dL_isSo_195 : decode cL_isSo 195 = .ok (.if_icmp .ne 160, 3) := by decide +kernel
theorem dL_isSo_198 : decode cL_isSo 198 = .ok (.aload_n 0, 1) := by decide +kernel
theorem dL_isSo_199 : decode cL_isSo 199 = .ok (.iconst 1, 1) := by decide +kernel
theorem dL_isSo_200 : decode cL_isSo 200 = .ok (.invokestatic 87, 3) := by decide +kernel
theorem dL_isSo_203 : decode cL_isSo 203 = .ok (.iload 4, 2) := by decide +kernel
theorem dL_isSo_205 : decode cL_isSo 205 = .ok (.if_icmp .ne 150, 3) := by decide +kernel
theorem dL_isSo_208 : decode cL_isSo 208 = .ok (.aload_n 0, 1) := by decide +kernel
theorem dL_isSo_209 : decode cL_isSo 209 = .ok (.iconst 2, 1) := by decide +kernel
theorem dL_isSo_210 : decode cL_isSo 210 = .ok (.invokestatic 87, 3) := by decide +kernel
theorem dL_isSo_213 : decode cL_isSo 213 = .ok (.aload_n 2, 1) := by decide +kernel
theorem dL_isSo_214 : decode cL_isSo 214 = .ok (.bipush 6, 2) := by decide +kernel
theorem dL_isSo_216 : decode cL_isSo 216 = .ok (.iaload, 1) := by decide +kernel
theorem dL_isSo_217 : decode cL_isSo 217 = .ok (.if_icmp .ne 138, 3) := by decide +kernel
theorem dL_isSo_220 : decode cL_isSo 220 = .ok (.aload_n 0, 1) := by decide +kernel
theorem dL_isSo_221 : decode cL_isSo 221 = .ok (.iconst 3, 1) := by decide +kernel
theorem dL_isSo_222 : decode cL_isSo 222 = .ok (.invokestatic 87, 3) := by decide +kernel
theorem dL_isSo_225 : decode cL_isSo 225 = .ok (.aload_n 2, 1) := by decide +kernel
theorem dL_isSo_226 : decode cL_isSo 226 = .ok (.bipush 7, 2) := by decide +kernel
theorem dL_isSo_228 : decode cL_isSo 228 = .ok (.iaload, 1) := by decide +kernel
theorem dL_isSo_229 : decode cL_isSo 229 = .ok (.if_icmp .ne 126, 3) := by decide +kernel
theorem dL_isSo_232 : decode cL_isSo 232 = .ok (.aload_n 0, 1) := by decide +kernel
theorem dL_isSo_233 : decode cL_isSo 233 = .ok (.iconst 4, 1) := by decide +kernel
theorem dL_isSo_234 : decode cL_isSo 234 = .ok (.invokestatic 87, 3) := by decide +kernel
theorem dL_isSo_237 : decode cL_isSo 237 = .ok (.aload_n 2, 1) := by decide +kernel
theorem dL_isSo_238 : decode cL_isSo 238 = .ok (.bipush 8, 2) := by decide +kernel
theorem dL_isSo_240 : decode cL_isSo 240 = .ok (.iaload, 1) := by decide +kernel
theorem dL_isSo_241 : decode cL_isSo 241 = .ok (.if_icmp .ne 114, 3) := by decide +kernel
theorem dL_isSo_244 : decode cL_isSo 244 = .ok (.aload_n 0, 1) := by decide +kernel
theorem dL_isSo_245 : decode cL_isSo 245 = .ok (.invokevirtual 154, 3) := by decide +kernel
theorem dL_isSo_248 : decode cL_isSo 248 = .ok (.iload 4, 2) := by decide +kernel
theorem dL_isSo_250 : decode cL_isSo 250 = .ok (.i2f, 1) := by decide +kernel
theorem dL_isSo_251 : decode cL_isSo 251 = .ok (.ldc 158, 2) := by decide +kernel
theorem dL_isSo_253 : decode cL_isSo 253 = .ok (.fdiv, 1) := by decide +kernel
theorem dL_isSo_254 : decode cL_isSo 254 = .ok (.fcmp .l, 1) := by decide +kernel
theorem dL_isSo_255 : decode cL_isSo 255 = .ok (.ifCond .ne 100, 3) := by decide +kernel
theorem dL_isSo_258 : decode cL_isSo 258 = .ok (.aload_n 0, 1) := by decide +kernel
theorem dL_isSo_259 : decode cL_isSo 259 = .ok (.invokevirtual 159, 3) := by decide +kernel
theorem dL_isSo_262 : decode cL_isSo 262 = .ok (.iload 5, 2) := by decide +kernel
theorem dL_isSo_264 : decode cL_isSo 264 = .ok (.if_icmp .ne 91, 3) := by decide +kernel
theorem dL_isSo_267 : decode cL_isSo 267 = .ok (.aload_n 0, 1) := by decide +kernel
theorem dL_isSo_268 : decode cL_isSo 268 = .ok (.iload 6, 2) := by decide +kernel
theorem dL_isSo_270 : decode cL_isSo 270 = .ok (.bipush 10, 2) := by decide +kernel
theorem dL_isSo_272 : decode cL_isSo 272 = .ok (.irem, 1) := by decide +kernel
theorem dL_isSo_273 : decode cL_isSo 273 = .ok (.iload 6, 2) := by decide +kernel
theorem dL_isSo_275 : decode cL_isSo 275 = .ok (.bipush 10, 2) := by decide +kernel
theorem dL_isSo_277 : decode cL_isSo 277 = .ok (.idiv, 1) := by decide +kernel
theorem dL_isSo_278 : decode cL_isSo 278 = .ok (.iconst 0, 1) := by decide +kernel
theorem dL_isSo_279 : decode cL_isSo 279 = .ok (.invokestatic 92, 3) := by decide +kernel
theorem dL_isSo_282 : decode cL_isSo 282 = .ok (.iload 7, 2) := by decide +kernel
theorem dL_isSo_284 : decode cL_isSo 284 = .ok (.ifCond .ge 7, 3) := by decide +kernel
theorem dL_isSo_287 : decode cL_isSo 287 = .ok (.iconst (-1), 1) := by decide +kernel
theorem dL_isSo_288 : decode cL_isSo 288 = .ok (.goto 8, 3) := by decide +kernel
theorem dL_isSo_291 : decode cL_isSo 291 = .ok (.iload 7, 2) := by decide +kernel
theorem dL_isSo_293 : decode cL_isSo 293 = .ok (.bipush 100, 2) := by decide +kernel
theorem dL_isSo_295 : decode cL_isSo 295 = .ok (.idiv, 1) := by decide +kernel
theorem dL_isSo_296 : decode cL_isSo 296 = .ok (.if_icmp .ne 59, 3) := by decide +kernel
theorem dL_isSo_299 : decode cL_isSo 299 = .ok (.aload_n 0, 1) := by decide +kernel
theorem dL_isSo_300 : decode cL_isSo 300 = .ok (.iload 6, 2) := by decide +kernel
theorem dL_isSo_302 : decode cL_isSo 302 = .ok (.bipush 10, 2) := by decide +kernel
theorem dL_isSo_304 : decode cL_isSo 304 = .ok (.irem, 1) := by decide +kernel
theorem dL_isSo_305 : decode cL_isSo 305 = .ok (.iload 6, 2) := by decide +kernel
theorem dL_isSo_307 : decode cL_isSo 307 = .ok (.bipush 10, 2) := by decide +kernel
theorem dL_isSo_309 : decode cL_isSo 309 = .ok (.idiv, 1) := by decide +kernel
theorem dL_isSo_310 : decode cL_isSo 310 = .ok (.iconst 1, 1) := by decide +kernel
theorem dL_isSo_311 : decode cL_isSo 311 = .ok (.invokestatic 92, 3) := by decide +kernel
theorem dL_isSo_314 : decode cL_isSo 314 = .ok (.iload 7, 2) := by decide +kernel
theorem dL_isSo_316 : decode cL_isSo 316 = .ok (.ifCond .ge 7, 3) := by decide +kernel
theorem dL_isSo_319 : decode cL_isSo 319 = .ok (.iconst (-1), 1) := by decide +kernel
theorem dL_isSo_320 : decode cL_isSo 320 = .ok (.goto 8, 3) := by decide +kernel
theorem dL_isSo_323 : decode cL_isSo 323 = .ok (.iload 7, 2) := by decide +kernel
theorem dL_isSo_325 : decode cL_isSo 325 = .ok (.bipush 100, 2) := by decide +kernel
theorem dL_isSo_327 : decode cL_isSo 327 = .ok (.irem, 1) := by decide +kernel
theorem dL_isSo_328 : decode cL_isSo 328 = .ok (.if_icmp .ne 27, 3) := by decide +kernel
theorem dL_isSo_331 : decode cL_isSo 331 = .ok (.aload_n 0, 1) := by decide +kernel
theorem dL_isSo_332 : decode cL_isSo 332 = .ok (.iload 6, 2) := by decide +kernel
theorem dL_isSo_334 : decode cL_isSo 334 = .ok (.bipush 10, 2) := by decide +kernel
theorem dL_isSo_336 : decode cL_isSo 336 = .ok (.irem, 1) := by decide +kernel
theorem dL_isSo_337 : decode cL_isSo 337 = .ok (.iload 6, 2) := by decide +kernel
theorem dL_isSo_339 : decode cL_isSo 339 = .ok (.bipush 10, 2) := by decide +kernel
theorem dL_isSo_341 : decode cL_isSo 341 = .ok (.idiv, 1) := by decide +kernel
theorem dL_isSo_342 : decode cL_isSo 342 = .ok (.iconst 2, 1) := by decide +kernel
theorem dL_isSo_343 : decode cL_isSo 343 = .ok (.invokestatic 92, 3) := by decide +kernel
theorem dL_isSo_346 : decode cL_isSo 346 = .ok (.iload 8, 2) := by decide +kernel
theorem dL_isSo_348 : decode cL_isSo 348 = .ok (.if_icmp .ne 7, 3) := by decide +kernel
theorem dL_isSo_351 : decode cL_isSo 351 = .ok (.iconst 1, 1) := by decide +kernel
theorem dL_isSo_352 : decode cL_isSo 352 = .ok (.goto 4, 3) := by decide +kernel
theorem dL_isSo_355 : decode cL_isSo 355 = .ok (.iconst 0, 1) := by decide +kernel
theorem dL_isSo_356 : decode cL_isSo 356 = .ok (.istore 9, 2) := by decide +kernel
theorem dL_isSo_358 : decode cL_isSo 358 = .ok (.iload 9, 2) := by decide +kernel
theorem dL_isSo_360 : decode cL_isSo 360 = .ok (.ifCond .eq 9, 3) := by decide +kernel
theorem dL_isSo_363 : decode cL_isSo 363 = .ok (.aload_n 2, 1) := by decide +kernel
theorem dL_isSo_364 : decode cL_isSo 364 = .ok (.iconst 5, 1) := by decide +kernel
theorem dL_isSo_365 : decode cL_isSo 365 = .ok (.iaload, 1) := by decide +kernel
theorem dL_isSo_366 : decode cL_isSo 366 = .ok (.ifCond .ne 6, 3) := by decide +kernel
theorem dL_isSo_369 : decode cL_isSo 369 = .ok (.iload 9, 2) := by decide +kernel
theorem dL_isSo_371 : decode cL_isSo 371 = .ok (.ireturn, 1) := by decide +kernel
theorem dL_isSo_372 : decode cL_isSo 372 = .ok (.iload_n 1, 1) := by decide +kernel
theorem dL_isSo_373 : decode cL_isSo 373 = .ok (.bipush 7, 2) := by decide +kernel
theorem dL_isSo_375 : decode cL_isSo 375 = .ok (.ishr, 1) := by decide +kernel
theorem dL_isSo_376 : decode cL_isSo 376 = .ok (.aload_n 2, 1) := by decide +kernel
theorem dL_isSo_377 : decode cL_isSo 377 = .ok (.iconst 5, 1) := by decide +kernel
theorem dL_isSo_378 : decode cL_isSo 378 = .ok (.iaload, 1) := by decide +kernel
theorem dL_isSo_379 : decode cL_isSo 379 = .ok (.invokestatic 151, 3) := by decide +kernel
theorem dL_isSo_382 : decode cL_isSo 382 = .ok (.istore 10, 2) := by decide +kernel
theorem dL_isSo_384 : decode cL_isSo 384 = .ok (.iload_n 1, 1) := by decide +kernel
theorem dL_isSo_385 : decode cL_isSo 385 = .ok (.bipush 10, 2) := by decide +kernel
theorem dL_isSo_387 : decode cL_isSo 387 = .ok (.ishr, 1) := by decide +kernel
theorem dL_isSo_388 : decode cL_isSo 388 = .ok (.aload_n 2, 1) := by decide +kernel
theorem dL_isSo_389 : decode cL_isSo 389 = .ok (.iconst 5, 1) := by decide +kernel
theorem dL_isSo_390 : decode cL_isSo 390 = .ok (.iaload, 1) := by decide +kernel
theorem dL_isSo_391 : decode cL_isSo 391 = .ok (.invokestatic 151, 3) := by decide +kernel
theorem dL_isSo_394 : decode cL_isSo 394 = .ok (.istore 11, 2) := by decide +kernel
theorem dL_isSo_396 : decode cL_isSo 396 = .ok (.iload_n 1, 1) := by decide +kernel
theorem dL_isSo_397 : decode cL_isSo 397 = .ok (.bipush 13, 2) := by decide +kernel
theorem dL_isSo_399 : decode cL_isSo 399 = .ok (.ishr, 1) := by decide +kernel
theorem dL_isSo_400 : decode cL_isSo 400 = .ok (.aload_n 2, 1) := by decide +kernel
theorem dL_isSo_401 : decode cL_isSo 401 = .ok (.iload 10, 2) := by decide +kernel
theorem dL_isSo_403 : decode cL_isSo 403 = .ok (.iaload, 1) := by decide +kernel
theorem dL_isSo_404 : decode cL_isSo 404 = .ok (.invokestatic 151, 3) := by decide +kernel
theorem dL_isSo_407 : decode cL_isSo 407 = .ok (.istore 12, 2) := by decide +kernel
theorem dL_isSo_409 : decode cL_isSo 409 = .ok (.iconst 1, 1) := by decide +kernel
theorem dL_isSo_410 : decode cL_isSo 410 = .ok (.iload_n 1, 1) := by decide +kernel
theorem dL_isSo_411 : decode cL_isSo 411 = .ok (.bipush 19, 2) := by decide +kernel
theorem dL_isSo_413 : decode cL_isSo 413 = .ok (.ishr, 1) := by decide +kernel
theorem dL_isSo_414 : decode cL_isSo 414 = .ok (.iconst 3, 1) := by decide +kernel
theorem dL_isSo_415 : decode cL_isSo 415 = .ok (.invokestatic 151, 3) := by decide +kernel
theorem dL_isSo_418 : decode cL_isSo 418 = .ok (.iadd, 1) := by decide +kernel
theorem dL_isSo_419 : decode cL_isSo 419 = .ok (.istore 13, 2) := by decide +kernel
theorem dL_isSo_421 : decode cL_isSo 421 = .ok (.iconst 0, 1) := by decide +kernel
theorem dL_isSo_422 : decode cL_isSo 422 = .ok (.istore 14, 2) := by decide +kernel
theorem dL_isSo_424 : decode cL_isSo 424 = .ok (.iconst 0, 1) := by decide +kernel
theorem dL_isSo_425 : decode cL_isSo 425 = .ok (.istore 15, 2) := by decide +kernel
theorem dL_isSo_427 : decode cL_isSo 427 = .ok (.iload 15, 2) := by decide +kernel
theorem dL_isSo_429 : decode cL_isSo 429 = .ok (.aload_n 2, 1) := by decide +kernel
theorem dL_isSo_430 : decode cL_isSo 430 = .ok (.iload 10, 2) := by decide +kernel
theorem dL_isSo_432 : decode cL_isSo 432 = .ok (.iaload, 1) := by decide +kernel
theorem dL_isSo_433 : decode cL_isSo 433 = .ok (.if_icmp .ge 89, 3) := by decide +kernel
theorem dL_isSo_436 : decode cL_isSo 436 = .ok (.iconst 0, 1) := by decide +kernel
theorem dL_isSo_437 : decode cL_isSo 437 = .ok (.istore 16, 2) := by decide +kernel
theorem dL_isSo_439 : decode cL_isSo 439 = .ok (.iload 16, 2) := by decide +kernel
theorem dL_isSo_441 : decode cL_isSo 441 = .ok (.iconst 4, 1) := by decide +kernel
theorem dL_isSo_442 : decode cL_isSo 442 = .ok (.if_icmp .ge 74, 3) := by decide +kernel
theorem dL_isSo_445 : decode cL_isSo 445 = .ok (.iload 10, 2) := by decide +kernel
theorem dL_isSo_447 : decode cL_isSo 447 = .ok (.iload 15, 2) := by decide +kernel
theorem dL_isSo_449 : decode cL_isSo 449 = .ok (.aload_n 3, 1) := by decide +kernel
theorem dL_isSo_450 : decode cL_isSo 450 = .ok (.invokestatic 70, 3) := by decide +kernel
theorem dL_isSo_453 : decode cL_isSo 453 = .ok (.iload 16, 2) := by decide +kernel
theorem dL_isSo_455 : decode cL_isSo 455 = .ok (.invokestatic 114, 3) := by decide +kernel
theorem dL_isSo_458 : decode cL_isSo 458 = .ok (.ifCond .ge 7, 3) := by decide +kernel
theorem dL_isSo_461 : decode cL_isSo 461 = .ok (.iconst (-1), 1) := by decide +kernel
theorem dL_isSo_462 : decode cL_isSo 462 = .ok (.goto 21, 3) := by decide +kernel
theorem dL_isSo_465 : decode cL_isSo 465 = .ok (.iload 10, 2) := by decide +kernel
theorem dL_isSo_467 : decode cL_isSo 467 = .ok (.iload 15, 2) := by decide +kernel
theorem dL_isSo_469 : decode cL_isSo 469 = .ok (.aload_n 3, 1) := by decide +kernel
theorem dL_isSo_470 : decode cL_isSo 470 = .ok (.invokestatic 70, 3) := by decide +kernel
theorem dL_isSo_473 : decode cL_isSo 473 = .ok (.iload 16, 2) := by decide +kernel
theorem dL_isSo_475 : decode cL_isSo 475 = .ok (.invokestatic 114, 3) := by decide +kernel
theorem dL_isSo_478 : decode cL_isSo 478 = .ok (.aload_n 2, 1) := by decide +kernel
theorem dL_isSo_479 : decode cL_isSo 479 = .ok (.aload_n 3, 1) := by decide +kernel
theorem dL_isSo_480 : decode cL_isSo 480 = .ok (.invokestatic 76, 3) := by decide +kernel
theorem dL_isSo_483 : decode cL_isSo 483 = .ok (.istore 17, 2) := by decide +kernel
theorem dL_isSo_485 : decode cL_isSo 485 = .ok (.iload 14, 2) := by decide +kernel
theorem dL_isSo_487 : decode cL_isSo 487 = .ok (.iload 17, 2) := by decide +kernel
theorem dL_isSo_489 : decode cL_isSo 489 = .ok (.ifCond .lt 17, 3) := by decide +kernel
theorem dL_isSo_492 : decode cL_isSo 492 = .ok (.iload 17, 2) := by decide +kernel
theorem dL_isSo_494 : decode cL_isSo 494 = .ok (.bipush 100, 2) := by decide +kernel
theorem dL_isSo_496 : decode cL_isSo 496 = .ok (.idiv, 1) := by decide +kernel
theorem dL_isSo_497 : decode cL_isSo 497 = .ok (.iload 11, 2) := by decide +kernel
theorem dL_isSo_499 : decode cL_isSo 499 = .ok (.if_icmp .ne 7, 3) := by decide +kernel
theorem dL_isSo_502 : decode cL_isSo 502 = .ok (.iconst 1, 1) := by decide +kernel
theorem dL_isSo_503 : decode cL_isSo 503 = .ok (.goto 4, 3) := by decide +kernel
theorem dL_isSo_506 : decode cL_isSo 506 = .ok (.iconst 0, 1) := by decide +kernel
theorem dL_isSo_507 : decode cL_isSo 507 = .ok (.iadd, 1) := by decide +kernel
theorem dL_isSo_508 : decode cL_isSo 508 = .ok (.istore 14, 2) := by decide +kernel
theorem dL_isSo_510 : decode cL_isSo 510 = .ok (.iinc 16 1, 3) := by decide +kernel
theorem dL_isSo_513 : decode cL_isSo 513 = .ok (.goto (-74), 3) := by decide +kernel
theorem dL_isSo_516 : decode cL_isSo 516 = .ok (.iinc 15 1, 3) := by decide +kernel
theorem dL_isSo_519 : decode cL_isSo 519 = .ok (.goto (-92), 3) := by decide +kernel
theorem dL_isSo_522 : decode cL_isSo 522 = .ok (.aload_n 0, 1) := by decide +kernel
theorem dL_isSo_523 : decode cL_isSo 523 = .ok (.iload 10, 2) := by decide +kernel
theorem dL_isSo_525 : decode cL_isSo 525 = .ok (.aload_n 2, 1) := by decide +kernel
theorem dL_isSo_526 : decode cL_isSo 526 = .ok (.aload_n 3, 1) := by decide +kernel
theorem dL_isSo_527 : decode cL_isSo 527 = .ok (.invokestatic 162, 3) := by decide +kernel
theorem dL_isSo_530 : decode cL_isSo 530 = .ok (.ifCond .eq 69, 3) := by decide +kernel
theorem dL_isSo_533 : decode cL_isSo 533 = .ok (.aload_n 0, 1) := by decide +kernel
theorem dL_isSo_534 : decode cL_isSo 534 = .ok (.iload 10, 2) := by decide +kernel
theorem dL_isSo_536 : decode cL_isSo 536 = .ok (.iload 11, 2) := by decide +kernel
theorem dL_isSo_538 : decode cL_isSo 538 = .ok (.invokestatic 166, 3) := by decide +kernel
theorem dL_isSo_541 : decode cL_isSo 541 = .ok (.iload 10, 2) := by decide +kernel
theorem dL_isSo_543 : decode cL_isSo 543 = .ok (.iload 11, 2) := by decide +kernel
theorem dL_isSo_545 : decode cL_isSo 545 = .ok (.if_icmp .ne 8, 3) := by decide +kernel
theorem dL_isSo_548 : decode cL_isSo 548 = .ok (.bipush (-102), 2) := by decide +kernel
theorem dL_isSo_550 : decode cL_isSo 550 = .ok (.goto 5, 3) := by decide +kernel
theorem dL_isSo_553 : decode cL_isSo 553 = .ok (.iload 14, 2) := by decide +kernel
theorem dL_isSo_555 : decode cL_isSo 555 = .ok (.if_icmp .ne 44, 3) := by decide +kernel
theorem dL_isSo_558 : decode cL_isSo 558 = .ok (.aload_n 0, 1) := by decide +kernel
theorem dL_isSo_559 : decode cL_isSo 559 = .ok (.iload 10, 2) := by decide +kernel
theorem dL_isSo_561 : decode cL_isSo 561 = .ok (.iload 12, 2) := by decide +kernel
theorem dL_isSo_563 : decode cL_isSo 563 = .ok (.iload 13, 2) := by decide +kernel
theorem dL_isSo_565 : decode cL_isSo 565 = .ok (.invokestatic 168, 3) := by decide +kernel
theorem dL_isSo_568 : decode cL_isSo 568 = .ok (.iload 10, 2) := by decide +kernel
theorem dL_isSo_570 : decode cL_isSo 570 = .ok (.iload 12, 2) := by decide +kernel
theorem dL_isSo_572 : decode cL_isSo 572 = .ok (.iload 13, 2) := by decide +kernel
theorem dL_isSo_574 : decode cL_isSo 574 = .ok (.aload_n 2, 1) := by decide +kernel
theorem dL_isSo_575 : decode cL_isSo 575 = .ok (.aload_n 3, 1) := by decide +kernel
theorem dL_isSo_576 : decode cL_isSo 576 = .ok (.invokestatic 125, 3) := by decide +kernel
theorem dL_isSo_579 : decode cL_isSo 579 = .ok (.if_icmp .ne 20, 3) := by decide +kernel
theorem dL_isSo_582 : decode cL_isSo 582 = .ok (.aload_n 0, 1) := by decide +kernel
theorem dL_isSo_583 : decode cL_isSo 583 = .ok (.aload_n 2, 1) := by decide +kernel
theorem dL_isSo_584 : decode cL_isSo 584 = .ok (.iconst 5, 1) := by decide +kernel
theorem dL_isSo_585 : decode cL_isSo 585 = .ok (.iaload, 1) := by decide +kernel
theorem dL_isSo_586 : decode cL_isSo 586 = .ok (.iconst 0, 1) := by decide +kernel
theorem dL_isSo_587 : decode cL_isSo 587 = .ok (.invokestatic 145, 3) := by decide +kernel
theorem dL_isSo_590 : decode cL_isSo 590 = .ok (.bipush (-101), 2) := by decide +kernel
theorem dL_isSo_592 : decode cL_isSo 592 = .ok (.if_icmp .ne 7, 3) := by decide +kernel
theorem dL_isSo_595 : decode cL_isSo 595 = .ok (.iconst 1, 1) := by decide +kernel
theorem dL_isSo_596 : decode cL_isSo 596 = .ok (.goto 4, 3) := by decide +kernel
theorem dL_isSo_599 : decode cL_isSo 599 = .ok (.iconst 0, 1) := by decide +kernel
theorem dL_isSo_600 : decode cL_isSo 600 = .ok (.ireturn, 1) := by decide +kernel
theorem dL_law_0 : decode cL_law 0 = .ok (.new 11, 3) := by decide +kernel
theorem dL_law_3 : decode cL_law 3 = .ok (.dup, 1) := by decide +kernel
theorem dL_law_4 : decode cL_law 4 = .ok (.invokespecial 170, 3) := by decide +kernel
theorem dL_law_7 : decode cL_law 7 = .ok (.astore_n 1, 1) := by decide +kernel
theorem dL_law_8 : decode cL_law 8 = .ok (.bipush 9, 2) := by decide +kernel
theorem dL_law_10 : decode cL_law 10 = .ok (.newarray .int, 2) := by decide +kernel
theorem dL_law_12 : decode cL_law 12 = .ok (.astore_n 2, 1) := by decide +kernel
theorem dL_law_13 : decode cL_law 13 = .ok (.bipush 60, 2) := by decide +kernel
theorem dL_law_15 : decode cL_law 15 = .ok (.newarray .int, 2) := by decide +kernel
theorem dL_law_17 : decode cL_law 17 = .ok (.astore_n 3, 1) := by decide +kernel
theorem dL_law_18 : decode cL_law 18 = .ok (.iconst 0, 1) := by decide +kernel
theorem dL_law_19 : decode cL_law 19 = .ok (.istore 4, 2) := by decide +kernel
theorem dL_law_21 : decode cL_law 21 = .ok (.iload 4, 2) := by decide +kernel
theorem dL_law_23 : decode cL_law 23 = .ok (.bipush 44, 2) := by decide +kernel
theorem dL_law_25 : decode cL_law 25 = .ok (.if_icmp .ge 429, 3) := by decide +kernel
theorem dL_law_28 : decode cL_law 28 = .ok (.aload_n 0, 1) := by decide +kernel
theorem dL_law_29 : decode cL_law 29 = .ok (.iconst 2, 1) := by decide +kernel
theorem dL_law_30 : decode cL_law 30 = .ok (.iload 4, 2) := by decide +kernel
theorem dL_law_32 : decode cL_law 32 = .ok (.imul, 1) := by decide +kernel
theorem dL_law_33 : decode cL_law 33 = .ok (.invokestatic 171, 3) := by decide +kernel
theorem dL_law_36 : decode cL_law 36 = .ok (.istore 5, 2) := by decide +kernel
theorem dL_law_38 : decode cL_law 38 = .ok (.aload_n 0, 1) := by decide +kernel
theorem dL_law_39 : decode cL_law 39 = .ok (.iconst 2, 1) := by decide +kernel
theorem dL_law_40 : decode cL_law 40 = .ok (.iload 4, 2) := by decide +kernel
theorem dL_law_42 : decode cL_law 42 = .ok (.imul, 1) := by decide +kernel
theorem dL_law_43 : decode cL_law 43 = .ok (.iconst 1, 1) := by decide +kernel
theorem dL_law_44 : decode cL_law 44 = .ok (.iadd, 1) := by decide +kernel
theorem dL_law_45 : decode cL_law 45 = .ok (.invokestatic 171, 3) := by decide +kernel
theorem dL_law_48 : decode cL_law 48 = .ok (.istore 6, 2) := by decide +kernel
theorem dL_law_50 : decode cL_law 50 = .ok (.iload 5, 2) := by decide +kernel
theorem dL_law_52 : decode cL_law 52 = .ok (.bipush 22, 2) := by decide +kernel
theorem dL_law_54 : decode cL_law 54 = .ok (.invokestatic 151, 3) := by decide +kernel
theorem dL_law_57 : decode cL_law 57 = .ok (.istore 7, 2) := by decide +kernel
theorem dL_law_59 : decode cL_law 59 = .ok (.iload 4, 2) := by decide +kernel
theorem dL_law_61 : decode cL_law 61 = .ok (.ifCond .eq 8, 3) := by decide +kernel
theorem dL_law_64 : decode cL_law 64 = .ok (.iload 7, 2) := by decide +kernel
theorem dL_law_66 : decode cL_law 66 = .ok (.ifCond .ne 7, 3) := by decide +kernel
theorem dL_law_69 : decode cL_law 69 = .ok (.iconst 0, 1) := by decide +kernel
theorem dL_law_70 : decode cL_law 70 = .ok (.goto 95, 3) := by decide +kernel
theorem dL_law_73 : decode cL_law 73 = .ok (.iload 7, 2) := by decide +kernel
theorem dL_law_75 : decode cL_law 75 = .ok (.bipush 11, 2) := by decide +kernel
theorem dL_law_77 : decode cL_law 77 = .ok (.if_icmp .ge 7, 3) := by decide +kernel
theorem dL_law_80 : decode cL_law 80 = .ok (.iconst 1, 1) := by decide +kernel
theorem dL_law_81 : decode cL_law 81 = .ok (.goto 84, 3) := by decide +kernel
theorem dL_law_84 : decode cL_law 84 = .ok (.iload 7, 2) := by decide +kernel
theorem dL_law_86 : decode cL_law 86 = .ok (.bipush 11, 2) := by decide +kernel
theorem dL_law_88 : decode cL_law 88 = .ok (.if_icmp .ne 7, 3) := by decide +kernel
theorem dL_law_91 : decode cL_law 91 = .ok (.iconst 2, 1) := by decide +kernel
theorem dL_law_92 : decode cL_law 92 = .ok (.goto 73, 3) := by decide +kernel
theorem dL_law_95 : decode cL_law 95 = .ok (.iload 7, 2) := by decide +kernel
theorem dL_law_97 : decode cL_law 97 = .ok (.bipush 15, 2) := by decide +kernel
theorem dL_law_99 : decode cL_law 99 = .ok (.if_icmp .ge 7, 3) := by decide +kernel
theorem dL_law_102 : decode cL_law 102 = .ok (.iconst 3, 1) := by decide +kernel
theorem dL_law_103 : decode cL_law 103 = .ok (.goto 62, 3) := by decide +kernel
theorem dL_law_106 : decode cL_law 106 = .ok (.iload 7, 2) := by decide +kernel
theorem dL_law_108 : decode cL_law 108 = .ok (.bipush 18, 2) := by decide +kernel
theorem dL_law_110 : decode cL_law 110 = .ok (.if_icmp .ge 7, 3) := by decide +kernel
theorem dL_law_113 : decode cL_law 113 = .ok (.iconst 4, 1) := by decide +kernel
theorem dL_law_114 : decode cL_law 114 = .ok (.goto 51, 3) := by decide +kernel
theorem dL_law_117 : decode cL_law 117 = .ok (.iload 7, 2) := by decide +kernel
theorem dL_law_119 : decode cL_law 119 = .ok (.bipush 18, 2) := by decide +kernel
theorem dL_law_121 : decode cL_law 121 = .ok (.if_icmp .ne 7, 3) := by decide +kernel
theorem dL_law_124 : decode cL_law 124 = .ok (.iconst 5, 1) := by decide +kernel
theorem dL_law_125 : decode cL_law 125 = .ok (.goto 40, 3) := by decide +kernel
theorem dL_law_128 : decode cL_law 128 = .ok (.iload 7, 2) := by decide +kernel
theorem dL_law_130 : decode cL_law 130 = .ok (.bipush 19, 2) := by decide +kernel
theorem dL_law_132 : decode cL_law 132 = .ok (.if_icmp .ne 8, 3) := by decide +kernel
theorem dL_law_135 : decode cL_law 135 = .ok (.bipush 6, 2) := by decide +kernel
theorem dL_law_137 : decode cL_law 137 = .ok (.goto 28, 3) := by decide +kernel
theorem dL_law_140 : decode cL_law 140 = .ok (.iload 7, 2) := by decide +kernel
theorem dL_law_142 : decode cL_law 142 = .ok (.bipush 20, 2) := by decide +kernel
theorem dL_law_144 : decode cL_law 144 = .ok (.if_icmp .ne 8, 3) := by decide +kernel
theorem dL_law_147 : decode cL_law 147 = .ok (.bipush 7, 2) := by decide +kernel
theorem dL_law_149 : decode cL_law 149 = .ok (.goto 16, 3) := by decide +kernel
theorem dL_law_152 : decode cL_law 152 = .ok (.iload 4, 2) := by decide +kernel
theorem dL_law_154 : decode cL_law 154 = .ok (.iconst 4, 1) := by decide +kernel
theorem dL_law_155 : decode cL_law 155 = .ok (.irem, 1) := by decide +kernel
theorem dL_law_156 : decode cL_law 156 = .ok (.ifCond .ne 8, 3) := by decide +kernel
theorem dL_law_159 : decode cL_law 159 = .ok (.bipush 8, 2) := by decide +kernel
theorem dL_law_161 : decode cL_law 161 = .ok (.goto 4, 3) := by decide +kernel
theorem dL_law_164 : decode cL_law 164 = .ok (.iconst 1, 1) := by decide +kernel
theorem dL_law_165 : decode cL_law 165 = .ok (.istore 7, 2) := by decide +kernel
theorem dL_law_167 : decode cL_law 167 = .ok (.iload 7, 2) := by decide +kernel
theorem dL_law_169 : decode cL_law 169 = .ok (.ifCond .ne 15, 3) := by decide +kernel
theorem dL_law_172 : decode cL_law 172 = .ok (.iconst 2, 1) := by decide +kernel
theorem dL_law_173 : decode cL_law 173 = .ok (.iload 6, 2) := by decide +kernel
theorem dL_law_175 : decode cL_law 175 = .ok (.bipush 6, 2) := by decide +kernel
theorem dL_law_177 : decode cL_law 177 = .ok (.invokestatic 151, 3) := by decide +kernel
theorem dL_law_180 : decode cL_law 180 = .ok (.iadd, 1) := by decide +kernel
theorem dL_law_181 : decode cL_law 181 = .ok (.goto 42, 3) := by decide +kernel
theorem dL_law_184 : decode cL_law 184 = .ok (.iload 6, 2) := by decide +kernel
theorem dL_law_186 : decode cL_law 186 = .ok (.iload 6, 2) := by decide +kernel
theorem dL_law_188 : decode cL_law 188 = .ok (.bipush 20, 2) := by decide +kernel
theorem dL_law_190 : decode cL_law 190 = .ok (.ishr, 1) := by decide +kernel
theorem dL_law_191 : decode cL_law 191 = .ok (.bipush 9, 2) := by decide +kernel
theorem dL_law_193 : decode cL_law 193 = .ok (.invokestatic 151, 3) := by decide +kernel
theorem dL_law_196 : decode cL_law 196 = .ok (.ifCond .ne 11, 3) := by decide +kernel
theorem dL_law_199 : decode cL_law 199 = .ok (.aload_n 2, 1) := by decide +kernel
theorem dL_law_200 : decode cL_law 200 = .ok (.iconst 5, 1) := by decide +kernel
theorem dL_law_201 : decode cL_law 201 = .ok (.iaload, 1) := by decide +kernel
theorem dL_law_202 : decode cL_law 202 = .ok (.iconst 1, 1) := by decide +kernel
theorem dL_law_203 : decode cL_law 203 = .ok (.iadd, 1) := by decide +kernel
theorem dL_law_204 : decode cL_law 204 = .ok (.goto 16, 3) := by decide +kernel
theorem dL_law_207 : decode cL_law 207 = .ok (.aload_n 2, 1) := by decide +kernel
theorem dL_law_208 : decode cL_law 208 = .ok (.iconst 5, 1) := by decide +kernel
theorem dL_law_209 : decode cL_law 209 = .ok (.iaload, 1) := by decide +kernel
theorem dL_law_210 : decode cL_law 210 = .ok (.ifCond .ne 7, 3) := by decide +kernel
theorem dL_law_213 : decode cL_law 213 = .ok (.iconst 1, 1) := by decide +kernel
theorem dL_law_214 : decode cL_law 214 = .ok (.goto 6, 3) := by decide +kernel
theorem dL_law_217 : decode cL_law 217 = .ok (.aload_n 2, 1) := by decide +kernel
theorem dL_law_218 : decode cL_law 218 = .ok (.iconst 5, 1) := by decide +kernel
theorem dL_law_219 : decode cL_law 219 = .ok (.iaload, 1) := by decide +kernel
theorem dL_law_220 : decode cL_law 220 = .ok (.invokestatic 151, 3) := by decide +kernel
theorem dL_law_223 : decode cL_law 223 = .ok (.istore 8, 2) := by decide +kernel
theorem dL_law_225 : decode cL_law 225 = .ok (.iload 7, 2) := by decide +kernel
theorem dL_law_227 : decode cL_law 227 = .ok (.ifCond .ne 17, 3) := by decide +kernel
theorem dL_law_230 : decode cL_law 230 = .ok (.iconst 2, 1) := by decide +kernel
theorem dL_law_231 : decode cL_law 231 = .ok (.iload 6, 2) := by decide +kernel
theorem dL_law_233 : decode cL_law 233 = .ok (.iconst 3, 1) := by decide +kernel
theorem dL_law_234 : decode cL_law 234 = .ok (.ishr, 1) := by decide +kernel
theorem dL_law_235 : decode cL_law 235 = .ok (.bipush 6, 2) := by decide +kernel
theorem dL_law_237 : decode cL_law 237 = .ok (.invokestatic 151, 3) := by decide +kernel
theorem dL_law_240 : decode cL_law 240 = .ok (.iadd, 1) := by decide +kernel
theorem dL_law_241 : decode cL_law 241 = .ok (.goto 73, 3) := by decide +kernel
theorem dL_law_244 : decode cL_law 244 = .ok (.iload 7, 2) := by decide +kernel
theorem dL_law_246 : decode cL_law 246 = .ok (.iconst 1, 1) := by decide +kernel
theorem dL_law_247 : decode cL_law 247 = .ok (.if_icmp .eq 9, 3) := by decide +kernel
theorem dL_law_250 : decode cL_law 250 = .ok (.iload 7, 2) := by decide +kernel
theorem dL_law_252 : decode cL_law 252 = .ok (.iconst 3, 1) := by decide +kernel
theorem dL_law_253 : decode cL_law 253 = .ok (.if_icmp .ne 14, 3) := by decide +kernel
theorem dL_law_256 : decode cL_law 256 = .ok (.iload 6, 2) := by decide +kernel
theorem dL_law_258 : decode cL_law 258 = .ok (.iconst 3, 1) := by decide +kernel
theorem dL_law_259 : decode cL_law 259 = .ok (.ishr, 1) := by decide +kernel
theorem dL_law_260 : decode cL_law 260 = .ok (.iconst 4, 1) := by decide +kernel
theorem dL_law_261 : decode cL_law 261 = .ok (.invokestatic 151, 3) := by decide +kernel
theorem dL_law_264 : decode cL_law 264 = .ok (.goto 50, 3) := by decide +kernel
theorem dL_law_267 : decode cL_law 267 = .ok (.iload 7, 2) := by decide +kernel
theorem dL_law_269 : decode cL_law 269 = .ok (.bipush 6, 2) := by decide +kernel
theorem dL_law_271 : decode cL_law 271 = .ok (.if_icmp .ne 18, 3) := by decide +kernel
theorem dL_law_274 : decode cL_law 274 = .ok (.iload 6, 2) := by decide +kernel
theorem dL_law_276 : decode cL_law 276 = .ok (.iconst 3, 1) := by decide +kernel
theorem dL_law_277 : decode cL_law 277 = .ok (.ishr, 1) := by decide +kernel
theorem dL_law_278 : decode cL_law 278 = .ok (.aload_n 2, 1) := by decide +kernel
theorem dL_law_279 : decode cL_law 279 = .ok (.iconst 5, 1) := by decide +kernel
theorem dL_law_280 : decode cL_law 280 = .ok (.iaload, 1) := by decide +kernel
theorem dL_law_281 : decode cL_law 281 = .ok (.iconst 1, 1) := by decide +kernel
theorem dL_law_282 : decode cL_law 282 = .ok (.iadd, 1) := by decide +kernel
theorem dL_law_283 : decode cL_law 283 = .ok (.invokestatic 151, 3) := by decide +kernel
theorem dL_law_286 : decode cL_law 286 = .ok (.goto 28, 3) := by decide +kernel
theorem dL_law_289 : decode cL_law 289 = .ok (.iload 6, 2) := by decide +kernel
theorem dL_law_291 : decode cL_law 291 = .ok (.iconst 3, 1) := by decide +kernel
theorem dL_law_292 : decode cL_law 292 = .ok (.ishr, 1) := by decide +kernel
theorem dL_law_293 : decode cL_law 293 = .ok (.iconst 1, 1) := by decide +kernel
theorem dL_law_294 : decode cL_law 294 = .ok (.iload 8, 2) := by decide +kernel
theorem dL_law_296 : decode cL_law 296 = .ok (.aload_n 2, 1) := by decide +kernel
theorem dL_law_297 : decode cL_law 297 = .ok (.iconst 5, 1) := by decide +kernel
theorem dL_law_298 : decode cL_law 298 = .ok (.iaload, 1) := by decide +kernel
theorem dL_law_299 : decode cL_law 299 = .ok (.if_icmp .ge 10, 3) := by decide +kernel
theorem dL_law_302 : decode cL_law 302 = .ok (.aload_n 2, 1) := by decide +kernel
theorem dL_law_303 : decode cL_law 303 = .ok (.iload 8, 2) := by decide +kernel
theorem dL_law_305 : decode cL_law 305 = .ok (.iaload, 1) := by decide +kernel
theorem dL_law_306 : decode cL_law 306 = .ok (.goto 4, 3) := by decide +kernel
theorem dL_law_309 : decode cL_law 309 = .ok (.iconst 3, 1) := by decide +kernel
theorem dL_law_310 : decode cL_law 310 = .ok (.iadd, 1) := by decide +kernel
theorem dL_law_311 : decode cL_law 311 = .ok (.invokestatic 151, 3) := by decide +kernel
theorem dL_law_314 : decode cL_law 314 = .ok (.istore 9, 2) := by decide +kernel
theorem dL_law_316 : decode cL_law 316 = .ok (.iconst 1, 1) := by decide +kernel
theorem dL_law_317 : decode cL_law 317 = .ok (.iload 6, 2) := by decide +kernel
theorem dL_law_319 : decode cL_law 319 = .ok (.bipush 9, 2) := by decide +kernel
theorem dL_law_321 : decode cL_law 321 = .ok (.ishr, 1) := by decide +kernel
theorem dL_law_322 : decode cL_law 322 = .ok (.iconst 3, 1) := by decide +kernel
theorem dL_law_323 : decode cL_law 323 = .ok (.invokestatic 151, 3) := by decide +kernel
theorem dL_law_326 : decode cL_law 326 = .ok (.iadd, 1) := by decide +kernel
theorem dL_law_327 : decode cL_law 327 = .ok (.istore 10, 2) := by decide +kernel
theorem dL_law_329 : decode cL_law 329 = .ok (.aload_n 1, 1) := by decide +kernel
theorem dL_law_330 : decode cL_law 330 = .ok (.invokestatic 175, 3) := by decide +kernel
theorem dL_law_333 : decode cL_law 333 = .ok (.lstore 11, 2) := by decide +kernel
theorem dL_law_335 : decode cL_law 335 = .ok (.aload_n 1, 1) := by decide +kernel
theorem dL_law_336 : decode cL_law 336 = .ok (.iload 7, 2) := by decide +kernel
theorem dL_law_338 : decode cL_law 338 = .ok (.iload 8, 2) := by decide +kernel
theorem dL_law_340 : decode cL_law 340 = .ok (.iload 9, 2) := by decide +kernel
theorem dL_law_342 : decode cL_law 342 = .ok (.iload 10, 2) := by decide +kernel
theorem dL_law_344 : decode cL_law 344 = .ok (.invokestatic 179, 3) := by decide +kernel
theorem dL_law_347 : decode cL_law 347 = .ok (.istore 13, 2) := by decide +kernel
theorem dL_law_349 : decode cL_law 349 = .ok (.iload 13, 2) := by decide +kernel
theorem dL_law_351 : decode cL_law 351 = .ok (.bipush (-100), 2) := by decide +kernel
theorem dL_law_353 : decode cL_law 353 = .ok (.if_icmp .ge 16, 3) := by decide +kernel
theorem dL_law_356 : decode cL_law 356 = .ok (.aload_n 1, 1) := by decide +kernel
theorem dL_law_357 : decode cL_law 357 = .ok (.invokestatic 175, 3) := by decide +kernel
theorem dL_law_360 : decode cL_law 360 = .ok (.lload 11, 2) := by decide +kernel
theorem dL_law_362 : decode cL_law 362 = .ok (.lcmp, 1) := by decide +kernel
theorem dL_law_363 : decode cL_law 363 = .ok (.ifCond .eq 52, 3) := by decide +kernel
theorem dL_law_366 : decode cL_law 366 = .ok (.goto 47, 3) := by decide +kernel
theorem dL_law_369 : decode cL_law 369 = .ok (.iload 5, 2) := by decide +kernel
theorem dL_law_371 : decode cL_law 371 = .ok (.bipush 24, 2) := by decide +kernel
theorem dL_law_373 : decode cL_law 373 = .ok (.ishr, 1) := by decide +kernel
theorem dL_law_374 : decode cL_law 374 = .ok (.iconst 3, 1) := by decide +kernel
theorem dL_law_375 : decode cL_law 375 = .ok (.iand, 1) := by decide +kernel
theorem dL_law_376 : decode cL_law 376 = .ok (.ifCond .ne 39, 3) := by decide +kernel
theorem dL_law_379 : decode cL_law 379 = .ok (.aload_n 1, 1) := by decide +kernel
theorem dL_law_380 : decode cL_law 380 = .ok (.invokestatic 183, 3) := by decide +kernel
theorem dL_law_383 : decode cL_law 383 = .ok (.ifCond .lt 30, 3) := by decide +kernel
theorem dL_law_386 : decode cL_law 386 = .ok (.aload_n 1, 1) := by decide +kernel
theorem dL_law_387 : decode cL_law 387 = .ok (.invokestatic 175, 3) := by decide +kernel
theorem dL_law_390 : decode cL_law 390 = .ok (.lload 11, 2) := by decide +kernel
theorem dL_law_392 : decode cL_law 392 = .ok (.lcmp, 1) := by decide +kernel
theorem dL_law_393 : decode cL_law 393 = .ok (.ifCond .ne 20, 3) := by decide +kernel
theorem dL_law_396 : decode cL_law 396 = .ok (.aload_n 1, 1) := by decide +kernel
theorem dL_law_397 : decode cL_law 397 = .ok (.iload 7, 2) := by decide +kernel
theorem dL_law_399 : decode cL_law 399 = .ok (.iload 8, 2) := by decide +kernel
theorem dL_law_401 : decode cL_law 401 = .ok (.iload 9, 2) := by decide +kernel
theorem dL_law_403 : decode cL_law 403 = .ok (.iload 10, 2) := by decide +kernel
theorem dL_law_405 : decode cL_law 405 = .ok (.invokestatic 179, 3) := by decide +kernel
theorem dL_law_408 : decode cL_law 408 = .ok (.iload 13, 2) := by decide +kernel
theorem dL_law_410 : decode cL_law 410 = .ok (.if_icmp .eq 5, 3) := by decide +kernel
theorem dL_law_413 : decode cL_law 413 = .ok (.iconst 0, 1) := by decide +kernel
theorem dL_law_414 : decode cL_law 414 = .ok (.ireturn, 1) := by decide +kernel
theorem dL_law_415 : decode cL_law 415 = .ok (.iload 13, 2) := by decide +kernel
theorem dL_law_417 : decode cL_law 417 = .ok (.iload 7, 2) := by decide +kernel
theorem dL_law_419 : decode cL_law 419 = .ok (.iload 8, 2) := by decide +kernel
theorem dL_law_421 : decode cL_law 421 = .ok (.iload 9, 2) := by decide +kernel
theorem dL_law_423 : decode cL_law 423 = .ok (.iload 10, 2) := by decide +kernel
theorem dL_law_425 : decode cL_law 425 = .ok (.aload_n 2, 1) := by decide +kernel
theorem dL_law_426 : decode cL_law 426 = .ok (.aload_n 3, 1) := by decide +kernel
theorem dL_law_427 : decode cL_law 427 = .ok (.invokestatic 186, 3) := by decide +kernel
theorem dL_law_430 : decode cL_law 430 = .ok (.if_icmp .ne 16, 3) := by decide +kernel
theorem dL_law_433 : decode cL_law 433 = .ok (.aload_n 1, 1) := by decide +kernel
theorem dL_law_434 : decode cL_law 434 = .ok (.iload 5, 2) := by decide +kernel
theorem dL_law_436 : decode cL_law 436 = .ok (.iconst 5, 1) := by decide +kernel
theorem dL_law_437 : decode cL_law 437 = .ok (.ishr, 1) := by decide +kernel
theorem dL_law_438 : decode cL_law 438 = .ok (.aload_n 2, 1) := by decide +kernel
theorem dL_law_439 : decode cL_law 439 = .ok (.aload_n 3, 1) := by decide +kernel
theorem dL_law_440 : decode cL_law 440 = .ok (.invokestatic 190, 3) := by decide +kernel
theorem dL_law_443 : decode cL_law 443 = .ok (.ifCond .ne 5, 3) := by decide +kernel
theorem dL_law_446 : decode cL_law 446 = .ok (.iconst 0, 1) := by decide +kernel
theorem dL_law_447 : decode cL_law 447 = .ok (.ireturn, 1) := by decide +kernel
theorem dL_law_448 : decode cL_law 448 = .ok (.iinc 4 1, 3) := by decide +kernel
theorem dL_law_451 : decode cL_law 451 = .ok (.goto (-430), 3) := by decide +kernel
theorem dL_law_454 : decode cL_law 454 = .ok (.iconst 1, 1) := by decide +kernel
theorem dL_law_455 : decode cL_law 455 = .ok (.ireturn, 1) := by decide +kernel
end
section
def goodP (w : Cond) : Bool := goodWord w
/-- the good words of the tables -/
def GW : List Cond := lw_tbl.filter goodWord
theorem inG {w : Cond} (h : w ∈ lw_tbl) (g : goodWord w = true) : w ∈ GW := List.mem_filter.mpr ⟨h, g⟩
theorem GW_good {w : Cond} (h : w ∈ GW) : goodWord w = true := (List.mem_filter.mp h).2
theorem GW_tbl {w : Cond} (h : w ∈ GW) : w ∈ lw_tbl := (List.mem_filter.mp h).1
theorem mp_ {w : Cond} (h : w ∈ k2_sels lw_privs) : w ∈ lw_tbl := List.mem_append_left _ h
theorem mt1 {w : Cond} (h : w ∈ tables_1_1) : w ∈ lw_tbl := List.mem_append_right _ (List.mem_append_left _ h)
theorem mt2 {w : Cond} (h : w ∈ tables_1_2) : w ∈ lw_tbl := List.mem_append_right _ (List.mem_append_right _ (List.mem_append_left _ h))
theorem mt3 {w : Cond} (h : w ∈ tables_1_3) : w ∈ lw_tbl := List.mem_append_right _ (List.mem_append_right _ (List.mem_append_right _ (List.mem_append_left _ h)))
theorem mt4 {w : Cond} (h : w ∈ tables_1_4) : w ∈ lw_tbl := List.mem_append_right _ (List.mem_append_right _ (List.mem_append_right _ (List.mem_append_right _ (h))))
abbrev Mt : Type := Option FieldType × String × Bool × List (Nat × Nat × Nat × Nat)
def codeW (y : MethodName) (cc : ByteArray) (nl : Nat) (mt : Mt) : Cond := match mt.2.2.2 with
  | [] => Cond.code y cc nl mt.1
  | t :: ts => Cond.codeWith y cc nl mt.1 (t :: ts)
/-- a method that can be called: on an object, and without one -/
def MB (y : MethodName) (cc : ByteArray) (nl : Nat) (mt : Mt) (n : Nat) : Prop := codeW y cc nl mt ∈ GW ∧ Cond.initialized y.cls ∈ GW ∧ (y.cls ≠ "java/lang/invoke/MethodHandle" ∧ y.cls ≠ "java/lang/invoke/VarHandle") ∧ (parseMethodDescriptor y.desc).map (fun d => d.parameters.length) = some n ∧ plainName y.cls = true ∧ nl ≤ 21 ∧ n ≤ nl
def MV (y : MethodName) (cc : ByteArray) (nl : Nat) (mt : Mt) (n : Nat) : Prop := MB y cc nl mt n ∧ Cond.instanceMethod y ∈ GW ∧ Cond.selects y.cls y y ∈ GW
def MS (y : MethodName) (cc : ByteArray) (nl : Nat) (mt : Mt) (n : Nat) : Prop := MB y cc nl mt n ∧ Cond.static y ∈ GW
def MI (y : MethodName) (cc : ByteArray) (nl : Nat) (mt : Mt) (n : Nat) : Prop := MB y cc nl mt n ∧ Cond.instanceMethod y ∈ GW ∧ y.name = "<init>" 
set_option maxRecDepth 20000 in
theorem gi_RX0 : Cond.initialized RX0 ∈ GW := inG (mt1 (List.mem_of_getElem? (i := 2) rfl)) rfl
set_option maxRecDepth 20000 in
theorem gi_RX1 : Cond.initialized RX1 ∈ GW := inG (mt1 (List.mem_of_getElem? (i := 5) rfl)) rfl
set_option maxRecDepth 20000 in
theorem gi_RX2 : Cond.initialized RX2 ∈ GW := inG (mt1 (List.mem_of_getElem? (i := 17) rfl)) rfl
set_option maxRecDepth 20000 in
theorem gi_RX3 : Cond.initialized RX3 ∈ GW := inG (mt1 (List.mem_of_getElem? (i := 8) rfl)) rfl
set_option maxRecDepth 20000 in
theorem gi_RX4 : Cond.initialized RX4 ∈ GW := inG (mt1 (List.mem_of_getElem? (i := 11) rfl)) rfl
set_option maxRecDepth 20000 in
theorem gi_RX5 : Cond.initialized RX5 ∈ GW := inG (mt1 (List.mem_of_getElem? (i := 6) rfl)) rfl
set_option maxRecDepth 20000 in
theorem gi_RX6 : Cond.initialized RX6 ∈ GW := inG (mt1 (List.mem_of_getElem? (i := 10) rfl)) rfl
set_option maxRecDepth 20000 in
theorem gi_RX7 : Cond.initialized RX7 ∈ GW := inG (mt1 (List.mem_of_getElem? (i := 12) rfl)) rfl
set_option maxRecDepth 20000 in
theorem gi_RX8 : Cond.initialized RX8 ∈ GW := inG (mt1 (List.mem_of_getElem? (i := 7) rfl)) rfl
set_option maxRecDepth 20000 in
theorem gi_RX9 : Cond.initialized RX9 ∈ GW := inG (mt1 (List.mem_of_getElem? (i := 3) rfl)) rfl
set_option maxRecDepth 20000 in
theorem gi_RX10 : Cond.initialized RX10 ∈ GW := inG (mt1 (List.mem_of_getElem? (i := 9) rfl)) rfl
set_option maxRecDepth 20000 in
theorem gi_RX11 : Cond.initialized RX11 ∈ GW := inG (mt1 (List.mem_of_getElem? (i := 1) rfl)) rfl
set_option maxRecDepth 20000 in
theorem gi_RJ9 : Cond.initialized RJ9 ∈ GW := inG (mt1 (List.mem_of_getElem? (i := 20) rfl)) rfl
set_option maxRecDepth 20000 in
theorem gi_RJ7 : Cond.initialized RJ7 ∈ GW := inG (mt1 (List.mem_of_getElem? (i := 4) rfl)) rfl
set_option maxRecDepth 20000 in
theorem gi_RL : Cond.initialized RL ∈ GW := inG (mt1 (List.mem_of_getElem? (i := 0) rfl)) rfl
abbrev mX11_init : Mt := (none, RX11, true, [])
set_option maxRecDepth 20000 in
theorem miX11_init : MI yX11_init cX11_init 1 mX11_init 0 := ⟨⟨inG (mt1 (List.mem_of_getElem? (i := 25) rfl)) rfl, gi_RX11, ⟨by decide +kernel, by decide +kernel⟩, by decide +kernel, by decide +kernel, by decide, by decide⟩, inG (mt1 (List.mem_of_getElem? (i := 24) rfl)) rfl, rfl⟩
abbrev mX0_init : Mt := (none, RX0, true, [])
set_option maxRecDepth 20000 in
theorem miX0_init : MI yX0_init cX0_init 2 mX0_init 0 := ⟨⟨inG (mt1 (List.mem_of_getElem? (i := 33) rfl)) rfl, gi_RX0, ⟨by decide +kernel, by decide +kernel⟩, by decide +kernel, by decide +kernel, by decide, by decide⟩, inG (mt1 (List.mem_of_getElem? (i := 32) rfl)) rfl, rfl⟩
abbrev mX9_init : Mt := (none, RX9, true, [])
set_option maxRecDepth 20000 in
theorem miX9_init : MI yX9_init cX9_init 1 mX9_init 0 := ⟨⟨inG (mt1 (List.mem_of_getElem? (i := 40) rfl)) rfl, gi_RX9, ⟨by decide +kernel, by decide +kernel⟩, by decide +kernel, by decide +kernel, by decide, by decide⟩, inG (mt1 (List.mem_of_getElem? (i := 39) rfl)) rfl, rfl⟩
abbrev mJ7_fill_53178 : Mt := (none, RJ7, false, [])
set_option maxRecDepth 20000 in
theorem msJ7_fill_53178 : MS yJ7_fill_53178 cJ7_fill_53178 4 mJ7_fill_53178 2 := ⟨⟨inG (mt1 (List.mem_of_getElem? (i := 52) rfl)) rfl, gi_RJ7, ⟨by decide +kernel, by decide +kernel⟩, by decide +kernel, by decide +kernel, by decide, by decide⟩, inG (mt1 (List.mem_of_getElem? (i := 51) rfl)) rfl⟩
abbrev mX1_init : Mt := (none, RX1, true, [])
set_option maxRecDepth 20000 in
theorem miX1_init : MI yX1_init cX1_init 2 mX1_init 0 := ⟨⟨inG (mt1 (List.mem_of_getElem? (i := 87) rfl)) rfl, gi_RX1, ⟨by decide +kernel, by decide +kernel⟩, by decide +kernel, by decide +kernel, by decide, by decide⟩, inG (mt1 (List.mem_of_getElem? (i := 86) rfl)) rfl, rfl⟩
abbrev mX5_init : Mt := (none, RX5, true, [])
set_option maxRecDepth 20000 in
theorem miX5_init : MI yX5_init cX5_init 1 mX5_init 0 := ⟨⟨inG (mt1 (List.mem_of_getElem? (i := 94) rfl)) rfl, gi_RX5, ⟨by decide +kernel, by decide +kernel⟩, by decide +kernel, by decide +kernel, by decide, by decide⟩, inG (mt1 (List.mem_of_getElem? (i := 93) rfl)) rfl, rfl⟩
abbrev mX8_init : Mt := (none, RX8, true, [])
set_option maxRecDepth 20000 in
theorem miX8_init : MI yX8_init cX8_init 2 mX8_init 0 := ⟨⟨inG (mt1 (List.mem_of_getElem? (i := 129) rfl)) rfl, gi_RX8, ⟨by decide +kernel, by decide +kernel⟩, by decide +kernel, by decide +kernel, by decide, by decide⟩, inG (mt1 (List.mem_of_getElem? (i := 128) rfl)) rfl, rfl⟩
abbrev mX3_init : Mt := (none, RX3, true, [])
set_option maxRecDepth 20000 in
theorem miX3_init : MI yX3_init cX3_init 1 mX3_init 0 := ⟨⟨inG (mt1 (List.mem_of_getElem? (i := 145) rfl)) rfl, gi_RX3, ⟨by decide +kernel, by decide +kernel⟩, by decide +kernel, by decide +kernel, by decide, by decide⟩, inG (mt1 (List.mem_of_getElem? (i := 144) rfl)) rfl, rfl⟩
abbrev mX10_init : Mt := (none, RX10, true, [])
set_option maxRecDepth 20000 in
theorem miX10_init : MI yX10_init cX10_init 1 mX10_init 0 := ⟨⟨inG (mt1 (List.mem_of_getElem? (i := 161) rfl)) rfl, gi_RX10, ⟨by decide +kernel, by decide +kernel⟩, by decide +kernel, by decide +kernel, by decide, by decide⟩, inG (mt1 (List.mem_of_getElem? (i := 160) rfl)) rfl, rfl⟩
abbrev mX6_init : Mt := (none, RX6, true, [])
set_option maxRecDepth 20000 in
theorem miX6_init : MI yX6_init cX6_init 1 mX6_init 0 := ⟨⟨inG (mt1 (List.mem_of_getElem? (i := 171) rfl)) rfl, gi_RX6, ⟨by decide +kernel, by decide +kernel⟩, by decide +kernel, by decide +kernel, by decide, by decide⟩, inG (mt1 (List.mem_of_getElem? (i := 170) rfl)) rfl, rfl⟩
abbrev mX4_init : Mt := (none, RX4, true, [])
set_option maxRecDepth 20000 in
theorem miX4_init : MI yX4_init cX4_init 1 mX4_init 0 := ⟨⟨inG (mt1 (List.mem_of_getElem? (i := 181) rfl)) rfl, gi_RX4, ⟨by decide +kernel, by decide +kernel⟩, by decide +kernel, by decide +kernel, by decide, by decide⟩, inG (mt1 (List.mem_of_getElem? (i := 180) rfl)) rfl, rfl⟩
abbrev mX7_init : Mt := (none, RX7, true, [])
set_option maxRecDepth 20000 in
theorem miX7_init : MI yX7_init cX7_init 1 mX7_init 0 := ⟨⟨inG (mt1 (List.mem_of_getElem? (i := 202) rfl)) rfl, gi_RX7, ⟨by decide +kernel, by decide +kernel⟩, by decide +kernel, by decide +kernel, by decide, by decide⟩, inG (mt1 (List.mem_of_getElem? (i := 201) rfl)) rfl, rfl⟩
abbrev mL_cell : Mt := ((some .int), RL, false, [])
set_option maxRecDepth 20000 in
theorem msL_cell : MS yL_cell cL_cell 2 mL_cell 2 := ⟨⟨inG (mt2 (List.mem_of_getElem? (i := 12) rfl)) rfl, gi_RL, ⟨by decide +kernel, by decide +kernel⟩, by decide +kernel, by decide +kernel, by decide, by decide⟩, inG (mt2 (List.mem_of_getElem? (i := 11) rfl)) rfl⟩
abbrev mL_low : Mt := ((some .int), RL, false, [])
set_option maxRecDepth 20000 in
theorem msL_low : MS yL_low cL_low 2 mL_low 2 := ⟨⟨inG (mt2 (List.mem_of_getElem? (i := 17) rfl)) rfl, gi_RL, ⟨by decide +kernel, by decide +kernel⟩, by decide +kernel, by decide +kernel, by decide, by decide⟩, inG (mt2 (List.mem_of_getElem? (i := 16) rfl)) rfl⟩
abbrev mL_told : Mt := ((some .long), RL, false, [])
set_option maxRecDepth 20000 in
theorem msL_told : MS yL_told cL_told 4 mL_told 1 := ⟨⟨inG (mt2 (List.mem_of_getElem? (i := 144) rfl)) rfl, gi_RL, ⟨by decide +kernel, by decide +kernel⟩, by decide +kernel, by decide +kernel, by decide, by decide⟩, inG (mt2 (List.mem_of_getElem? (i := 143) rfl)) rfl⟩
abbrev mL_count : Mt := ((some .int), RL, false, [(0, 5, 6, 23)])
set_option maxRecDepth 20000 in
theorem msL_count : MS yL_count cL_count 3 mL_count 2 := ⟨⟨inG (mt2 (List.mem_of_getElem? (i := 149) rfl)) rfl, gi_RL, ⟨by decide +kernel, by decide +kernel⟩, by decide +kernel, by decide +kernel, by decide, by decide⟩, inG (mt2 (List.mem_of_getElem? (i := 148) rfl)) rfl⟩
abbrev mX11_count : Mt := ((some .int), RX11, false, [])
set_option maxRecDepth 20000 in
theorem mvX11_count : MV yX11_count cX11_count 2 mX11_count 1 := ⟨⟨inG (mt2 (List.mem_of_getElem? (i := 154) rfl)) rfl, gi_RX11, ⟨by decide +kernel, by decide +kernel⟩, by decide +kernel, by decide +kernel, by decide, by decide⟩, inG (mt2 (List.mem_of_getElem? (i := 152) rfl)) rfl, inG (mt2 (List.mem_of_getElem? (i := 153) rfl)) rfl⟩
abbrev mX11_checkRange : Mt := (none, RX11, false, [])
set_option maxRecDepth 20000 in
theorem msX11_checkRange : MS yX11_checkRange cX11_checkRange 3 mX11_checkRange 3 := ⟨⟨inG (mt2 (List.mem_of_getElem? (i := 157) rfl)) rfl, gi_RX11, ⟨by decide +kernel, by decide +kernel⟩, by decide +kernel, by decide +kernel, by decide, by decide⟩, inG (mt2 (List.mem_of_getElem? (i := 156) rfl)) rfl⟩
abbrev mX0_pathCount : Mt := ((some .int), RX0, false, [])
set_option maxRecDepth 20000 in
theorem mvX0_pathCount : MV yX0_pathCount cX0_pathCount 1 mX0_pathCount 0 := ⟨⟨inG (mt2 (List.mem_of_getElem? (i := 177) rfl)) rfl, gi_RX0, ⟨by decide +kernel, by decide +kernel⟩, by decide +kernel, by decide +kernel, by decide, by decide⟩, inG (mt2 (List.mem_of_getElem? (i := 175) rfl)) rfl, inG (mt2 (List.mem_of_getElem? (i := 176) rfl)) rfl⟩
abbrev mX0_takenSites : Mt := ((some .int), RX0, false, [])
set_option maxRecDepth 20000 in
theorem mvX0_takenSites : MV yX0_takenSites cX0_takenSites 1 mX0_takenSites 0 := ⟨⟨inG (mt2 (List.mem_of_getElem? (i := 181) rfl)) rfl, gi_RX0, ⟨by decide +kernel, by decide +kernel⟩, by decide +kernel, by decide +kernel, by decide, by decide⟩, inG (mt2 (List.mem_of_getElem? (i := 179) rfl)) rfl, inG (mt2 (List.mem_of_getElem? (i := 180) rfl)) rfl⟩
abbrev mX0_stepsMade : Mt := ((some .int), RX0, false, [])
set_option maxRecDepth 20000 in
theorem mvX0_stepsMade : MV yX0_stepsMade cX0_stepsMade 1 mX0_stepsMade 0 := ⟨⟨inG (mt2 (List.mem_of_getElem? (i := 185) rfl)) rfl, gi_RX0, ⟨by decide +kernel, by decide +kernel⟩, by decide +kernel, by decide +kernel, by decide, by decide⟩, inG (mt2 (List.mem_of_getElem? (i := 183) rfl)) rfl, inG (mt2 (List.mem_of_getElem? (i := 184) rfl)) rfl⟩
abbrev mX0_refusals : Mt := ((some .int), RX0, false, [])
set_option maxRecDepth 20000 in
theorem mvX0_refusals : MV yX0_refusals cX0_refusals 1 mX0_refusals 0 := ⟨⟨inG (mt2 (List.mem_of_getElem? (i := 189) rfl)) rfl, gi_RX0, ⟨by decide +kernel, by decide +kernel⟩, by decide +kernel, by decide +kernel, by decide, by decide⟩, inG (mt2 (List.mem_of_getElem? (i := 187) rfl)) rfl, inG (mt2 (List.mem_of_getElem? (i := 188) rfl)) rfl⟩
abbrev mX0_turnsMade : Mt := ((some .int), RX0, false, [])
set_option maxRecDepth 20000 in
theorem mvX0_turnsMade : MV yX0_turnsMade cX0_turnsMade 1 mX0_turnsMade 0 := ⟨⟨inG (mt2 (List.mem_of_getElem? (i := 193) rfl)) rfl, gi_RX0, ⟨by decide +kernel, by decide +kernel⟩, by decide +kernel, by decide +kernel, by decide, by decide⟩, inG (mt2 (List.mem_of_getElem? (i := 191) rfl)) rfl, inG (mt2 (List.mem_of_getElem? (i := 192) rfl)) rfl⟩
abbrev mX1_size : Mt := ((some .int), RX1, false, [])
set_option maxRecDepth 20000 in
theorem mvX1_size : MV yX1_size cX1_size 1 mX1_size 0 := ⟨⟨inG (mt2 (List.mem_of_getElem? (i := 30) rfl)) rfl, gi_RX1, ⟨by decide +kernel, by decide +kernel⟩, by decide +kernel, by decide +kernel, by decide, by decide⟩, inG (mt2 (List.mem_of_getElem? (i := 28) rfl)) rfl, inG (mt2 (List.mem_of_getElem? (i := 29) rfl)) rfl⟩
abbrev mX3_length : Mt := ((some .int), RX3, false, [])
set_option maxRecDepth 20000 in
theorem mvX3_length : MV yX3_length cX3_length 1 mX3_length 0 := ⟨⟨inG (mt2 (List.mem_of_getElem? (i := 197) rfl)) rfl, gi_RX3, ⟨by decide +kernel, by decide +kernel⟩, by decide +kernel, by decide +kernel, by decide, by decide⟩, inG (mt2 (List.mem_of_getElem? (i := 195) rfl)) rfl, inG (mt2 (List.mem_of_getElem? (i := 196) rfl)) rfl⟩
abbrev mL_site : Mt := ((some .int), RL, false, [(0, 7, 8, 16), (0, 7, 13, 23)])
set_option maxRecDepth 20000 in
theorem msL_site : MS yL_site cL_site 5 mL_site 4 := ⟨⟨inG (mt2 (List.mem_of_getElem? (i := 201) rfl)) rfl, gi_RL, ⟨by decide +kernel, by decide +kernel⟩, by decide +kernel, by decide +kernel, by decide, by decide⟩, inG (mt2 (List.mem_of_getElem? (i := 200) rfl)) rfl⟩
abbrev mX11_site : Mt := ((some .int), RX11, false, [])
set_option maxRecDepth 20000 in
theorem mvX11_site : MV yX11_site cX11_site 5 mX11_site 3 := ⟨⟨inG (mt2 (List.mem_of_getElem? (i := 206) rfl)) rfl, gi_RX11, ⟨by decide +kernel, by decide +kernel⟩, by decide +kernel, by decide +kernel, by decide, by decide⟩, inG (mt2 (List.mem_of_getElem? (i := 204) rfl)) rfl, inG (mt2 (List.mem_of_getElem? (i := 205) rfl)) rfl⟩
abbrev mX11_checkedSite : Mt := ((some .int), RX11, false, [])
set_option maxRecDepth 20000 in
theorem msX11_checkedSite : MS yX11_checkedSite cX11_checkedSite 3 mX11_checkedSite 2 := ⟨⟨inG (mt2 (List.mem_of_getElem? (i := 209) rfl)) rfl, gi_RX11, ⟨by decide +kernel, by decide +kernel⟩, by decide +kernel, by decide +kernel, by decide, by decide⟩, inG (mt2 (List.mem_of_getElem? (i := 208) rfl)) rfl⟩
abbrev mX2_number : Mt := ((some .int), RX2, false, [])
set_option maxRecDepth 20000 in
theorem msX2_number : MS yX2_number cX2_number 2 mX2_number 2 := ⟨⟨inG (mt2 (List.mem_of_getElem? (i := 212) rfl)) rfl, gi_RX2, ⟨by decide +kernel, by decide +kernel⟩, by decide +kernel, by decide +kernel, by decide, by decide⟩, inG (mt2 (List.mem_of_getElem? (i := 211) rfl)) rfl⟩
abbrev mX0_pathAt : Mt := ((some .int), RX0, false, [])
set_option maxRecDepth 20000 in
theorem mvX0_pathAt : MV yX0_pathAt cX0_pathAt 2 mX0_pathAt 1 := ⟨⟨inG (mt2 (List.mem_of_getElem? (i := 232) rfl)) rfl, gi_RX0, ⟨by decide +kernel, by decide +kernel⟩, by decide +kernel, by decide +kernel, by decide, by decide⟩, inG (mt2 (List.mem_of_getElem? (i := 230) rfl)) rfl, inG (mt2 (List.mem_of_getElem? (i := 231) rfl)) rfl⟩
abbrev mX2_isSite : Mt := ((some .boolean), RX2, false, [])
set_option maxRecDepth 20000 in
theorem msX2_isSite : MS yX2_isSite cX2_isSite 1 mX2_isSite 1 := ⟨⟨inG (mt2 (List.mem_of_getElem? (i := 141) rfl)) rfl, gi_RX2, ⟨by decide +kernel, by decide +kernel⟩, by decide +kernel, by decide +kernel, by decide, by decide⟩, inG (mt2 (List.mem_of_getElem? (i := 140) rfl)) rfl⟩
abbrev mX0_placeAt : Mt := ((some .int), RX0, false, [])
set_option maxRecDepth 20000 in
theorem mvX0_placeAt : MV yX0_placeAt cX0_placeAt 2 mX0_placeAt 1 := ⟨⟨inG (mt2 (List.mem_of_getElem? (i := 236) rfl)) rfl, gi_RX0, ⟨by decide +kernel, by decide +kernel⟩, by decide +kernel, by decide +kernel, by decide, by decide⟩, inG (mt2 (List.mem_of_getElem? (i := 234) rfl)) rfl, inG (mt2 (List.mem_of_getElem? (i := 235) rfl)) rfl⟩
abbrev mX0_freeDirections : Mt := ((some .int), RX0, false, [])
set_option maxRecDepth 20000 in
theorem mvX0_freeDirections : MV yX0_freeDirections cX0_freeDirections 4 mX0_freeDirections 1 := ⟨⟨inG (mt3 (List.mem_of_getElem? (i := 0) rfl)) rfl, gi_RX0, ⟨by decide +kernel, by decide +kernel⟩, by decide +kernel, by decide +kernel, by decide, by decide⟩, inG (mt2 (List.mem_of_getElem? (i := 238) rfl)) rfl, inG (mt2 (List.mem_of_getElem? (i := 239) rfl)) rfl⟩
abbrev mX2_neighbour : Mt := ((some .int), RX2, false, [])
set_option maxRecDepth 20000 in
theorem msX2_neighbour : MS yX2_neighbour cX2_neighbour 2 mX2_neighbour 2 := ⟨⟨inG (mt3 (List.mem_of_getElem? (i := 3) rfl)) rfl, gi_RX2, ⟨by decide +kernel, by decide +kernel⟩, by decide +kernel, by decide +kernel, by decide, by decide⟩, inG (mt3 (List.mem_of_getElem? (i := 2) rfl)) rfl⟩
abbrev mX2_column : Mt := ((some .int), RX2, false, [])
set_option maxRecDepth 20000 in
theorem msX2_column : MS yX2_column cX2_column 1 mX2_column 1 := ⟨⟨inG (mt3 (List.mem_of_getElem? (i := 6) rfl)) rfl, gi_RX2, ⟨by decide +kernel, by decide +kernel⟩, by decide +kernel, by decide +kernel, by decide, by decide⟩, inG (mt3 (List.mem_of_getElem? (i := 5) rfl)) rfl⟩
abbrev mX2_row : Mt := ((some .int), RX2, false, [])
set_option maxRecDepth 20000 in
theorem msX2_row : MS yX2_row cX2_row 1 mX2_row 1 := ⟨⟨inG (mt3 (List.mem_of_getElem? (i := 11) rfl)) rfl, gi_RX2, ⟨by decide +kernel, by decide +kernel⟩, by decide +kernel, by decide +kernel, by decide, by decide⟩, inG (mt3 (List.mem_of_getElem? (i := 10) rfl)) rfl⟩
abbrev mX0_isFree : Mt := ((some .boolean), RX0, false, [])
set_option maxRecDepth 20000 in
theorem mvX0_isFree : MV yX0_isFree cX0_isFree 2 mX0_isFree 1 := ⟨⟨inG (mt3 (List.mem_of_getElem? (i := 18) rfl)) rfl, gi_RX0, ⟨by decide +kernel, by decide +kernel⟩, by decide +kernel, by decide +kernel, by decide, by decide⟩, inG (mt3 (List.mem_of_getElem? (i := 16) rfl)) rfl, inG (mt3 (List.mem_of_getElem? (i := 17) rfl)) rfl⟩
abbrev mL_call : Mt := ((some .int), RL, false, [])
set_option maxRecDepth 20000 in
theorem msL_call : MS yL_call cL_call 5 mL_call 5 := ⟨⟨inG (mt3 (List.mem_of_getElem? (i := 21) rfl)) rfl, gi_RL, ⟨by decide +kernel, by decide +kernel⟩, by decide +kernel, by decide +kernel, by decide, by decide⟩, inG (mt3 (List.mem_of_getElem? (i := 20) rfl)) rfl⟩
abbrev mL_start : Mt := ((some .int), RL, false, [(0, 6, 7, 16), (0, 6, 11, 18)])
set_option maxRecDepth 20000 in
theorem msL_start : MS yL_start cL_start 4 mL_start 3 := ⟨⟨inG (mt3 (List.mem_of_getElem? (i := 24) rfl)) rfl, gi_RL, ⟨by decide +kernel, by decide +kernel⟩, by decide +kernel, by decide +kernel, by decide, by decide⟩, inG (mt3 (List.mem_of_getElem? (i := 23) rfl)) rfl⟩
abbrev mX11_start : Mt := ((some .int), RX11, false, [])
set_option maxRecDepth 20000 in
theorem mvX11_start : MV yX11_start cX11_start 4 mX11_start 2 := ⟨⟨inG (mt3 (List.mem_of_getElem? (i := 28) rfl)) rfl, gi_RX11, ⟨by decide +kernel, by decide +kernel⟩, by decide +kernel, by decide +kernel, by decide, by decide⟩, inG (mt3 (List.mem_of_getElem? (i := 26) rfl)) rfl, inG (mt3 (List.mem_of_getElem? (i := 27) rfl)) rfl⟩
abbrev mX0_isFull : Mt := ((some .boolean), RX0, false, [])
set_option maxRecDepth 20000 in
theorem mvX0_isFull : MV yX0_isFull cX0_isFull 1 mX0_isFull 0 := ⟨⟨inG (mt3 (List.mem_of_getElem? (i := 33) rfl)) rfl, gi_RX0, ⟨by decide +kernel, by decide +kernel⟩, by decide +kernel, by decide +kernel, by decide, by decide⟩, inG (mt3 (List.mem_of_getElem? (i := 31) rfl)) rfl, inG (mt3 (List.mem_of_getElem? (i := 32) rfl)) rfl⟩
abbrev mX1_save : Mt := (none, RX1, false, [])
set_option maxRecDepth 20000 in
theorem mvX1_save : MV yX1_save cX1_save 2 mX1_save 1 := ⟨⟨inG (mt3 (List.mem_of_getElem? (i := 38) rfl)) rfl, gi_RX1, ⟨by decide +kernel, by decide +kernel⟩, by decide +kernel, by decide +kernel, by decide, by decide⟩, inG (mt3 (List.mem_of_getElem? (i := 36) rfl)) rfl, inG (mt3 (List.mem_of_getElem? (i := 37) rfl)) rfl⟩
abbrev mX5_take : Mt := (none, RX5, false, [])
set_option maxRecDepth 20000 in
theorem mvX5_take : MV yX5_take cX5_take 6 mX5_take 1 := ⟨⟨inG (mt3 (List.mem_of_getElem? (i := 42) rfl)) rfl, gi_RX5, ⟨by decide +kernel, by decide +kernel⟩, by decide +kernel, by decide +kernel, by decide, by decide⟩, inG (mt3 (List.mem_of_getElem? (i := 40) rfl)) rfl, inG (mt3 (List.mem_of_getElem? (i := 41) rfl)) rfl⟩
abbrev mX9_length : Mt := ((some .int), RX9, false, [])
set_option maxRecDepth 20000 in
theorem mvX9_length : MV yX9_length cX9_length 1 mX9_length 0 := ⟨⟨inG (mt2 (List.mem_of_getElem? (i := 126) rfl)) rfl, gi_RX9, ⟨by decide +kernel, by decide +kernel⟩, by decide +kernel, by decide +kernel, by decide, by decide⟩, inG (mt2 (List.mem_of_getElem? (i := 124) rfl)) rfl, inG (mt2 (List.mem_of_getElem? (i := 125) rfl)) rfl⟩
abbrev mX9_at : Mt := ((some .int), RX9, false, [])
set_option maxRecDepth 20000 in
theorem mvX9_at : MV yX9_at cX9_at 2 mX9_at 1 := ⟨⟨inG (mt2 (List.mem_of_getElem? (i := 130) rfl)) rfl, gi_RX9, ⟨by decide +kernel, by decide +kernel⟩, by decide +kernel, by decide +kernel, by decide, by decide⟩, inG (mt2 (List.mem_of_getElem? (i := 128) rfl)) rfl, inG (mt2 (List.mem_of_getElem? (i := 129) rfl)) rfl⟩
abbrev mX9_has : Mt := ((some .boolean), RX9, false, [])
set_option maxRecDepth 20000 in
theorem mvX9_has : MV yX9_has cX9_has 2 mX9_has 1 := ⟨⟨inG (mt2 (List.mem_of_getElem? (i := 134) rfl)) rfl, gi_RX9, ⟨by decide +kernel, by decide +kernel⟩, by decide +kernel, by decide +kernel, by decide, by decide⟩, inG (mt2 (List.mem_of_getElem? (i := 132) rfl)) rfl, inG (mt2 (List.mem_of_getElem? (i := 133) rfl)) rfl⟩
abbrev mX9_begin : Mt := (none, RX9, false, [])
set_option maxRecDepth 20000 in
theorem mvX9_begin : MV yX9_begin cX9_begin 2 mX9_begin 1 := ⟨⟨inG (mt3 (List.mem_of_getElem? (i := 48) rfl)) rfl, gi_RX9, ⟨by decide +kernel, by decide +kernel⟩, by decide +kernel, by decide +kernel, by decide, by decide⟩, inG (mt3 (List.mem_of_getElem? (i := 46) rfl)) rfl, inG (mt3 (List.mem_of_getElem? (i := 47) rfl)) rfl⟩
abbrev mX9_clear : Mt := (none, RX9, false, [])
set_option maxRecDepth 20000 in
theorem mvX9_clear : MV yX9_clear cX9_clear 1 mX9_clear 0 := ⟨⟨inG (mt2 (List.mem_of_getElem? (i := 110) rfl)) rfl, gi_RX9, ⟨by decide +kernel, by decide +kernel⟩, by decide +kernel, by decide +kernel, by decide, by decide⟩, inG (mt2 (List.mem_of_getElem? (i := 108) rfl)) rfl, inG (mt2 (List.mem_of_getElem? (i := 109) rfl)) rfl⟩
abbrev mX9_push : Mt := (none, RX9, false, [])
set_option maxRecDepth 20000 in
theorem mvX9_push : MV yX9_push cX9_push 2 mX9_push 1 := ⟨⟨inG (mt2 (List.mem_of_getElem? (i := 114) rfl)) rfl, gi_RX9, ⟨by decide +kernel, by decide +kernel⟩, by decide +kernel, by decide +kernel, by decide, by decide⟩, inG (mt2 (List.mem_of_getElem? (i := 112) rfl)) rfl, inG (mt2 (List.mem_of_getElem? (i := 113) rfl)) rfl⟩
abbrev mX9_isFull : Mt := ((some .boolean), RX9, false, [])
set_option maxRecDepth 20000 in
theorem mvX9_isFull : MV yX9_isFull cX9_isFull 1 mX9_isFull 0 := ⟨⟨inG (mt2 (List.mem_of_getElem? (i := 118) rfl)) rfl, gi_RX9, ⟨by decide +kernel, by decide +kernel⟩, by decide +kernel, by decide +kernel, by decide, by decide⟩, inG (mt2 (List.mem_of_getElem? (i := 116) rfl)) rfl, inG (mt2 (List.mem_of_getElem? (i := 117) rfl)) rfl⟩
abbrev mX0_add : Mt := ((some .int), RX0, false, [])
set_option maxRecDepth 20000 in
theorem mvX0_add : MV yX0_add cX0_add 3 mX0_add 1 := ⟨⟨inG (mt3 (List.mem_of_getElem? (i := 54) rfl)) rfl, gi_RX0, ⟨by decide +kernel, by decide +kernel⟩, by decide +kernel, by decide +kernel, by decide, by decide⟩, inG (mt3 (List.mem_of_getElem? (i := 52) rfl)) rfl, inG (mt3 (List.mem_of_getElem? (i := 53) rfl)) rfl⟩
abbrev mX9_copyFrom : Mt := (none, RX9, false, [])
set_option maxRecDepth 20000 in
theorem mvX9_copyFrom : MV yX9_copyFrom cX9_copyFrom 4 mX9_copyFrom 2 := ⟨⟨inG (mt3 (List.mem_of_getElem? (i := 58) rfl)) rfl, gi_RX9, ⟨by decide +kernel, by decide +kernel⟩, by decide +kernel, by decide +kernel, by decide, by decide⟩, inG (mt3 (List.mem_of_getElem? (i := 56) rfl)) rfl, inG (mt3 (List.mem_of_getElem? (i := 57) rfl)) rfl⟩
abbrev mX0_markSites : Mt := (none, RX0, false, [])
set_option maxRecDepth 20000 in
theorem mvX0_markSites : MV yX0_markSites cX0_markSites 4 mX0_markSites 0 := ⟨⟨inG (mt2 (List.mem_of_getElem? (i := 122) rfl)) rfl, gi_RX0, ⟨by decide +kernel, by decide +kernel⟩, by decide +kernel, by decide +kernel, by decide, by decide⟩, inG (mt2 (List.mem_of_getElem? (i := 120) rfl)) rfl, inG (mt2 (List.mem_of_getElem? (i := 121) rfl)) rfl⟩
abbrev mX0_mark : Mt := (none, RX0, false, [])
set_option maxRecDepth 20000 in
theorem mvX0_mark : MV yX0_mark cX0_mark 4 mX0_mark 3 := ⟨⟨inG (mt2 (List.mem_of_getElem? (i := 138) rfl)) rfl, gi_RX0, ⟨by decide +kernel, by decide +kernel⟩, by decide +kernel, by decide +kernel, by decide, by decide⟩, inG (mt2 (List.mem_of_getElem? (i := 137) rfl)) rfl, inG (mp_ (List.mem_of_getElem? (i := 1) rfl)) rfl⟩
abbrev mL_step : Mt := ((some .int), RL, false, [(0, 6, 7, 16), (0, 6, 11, 23)])
set_option maxRecDepth 20000 in
theorem msL_step : MS yL_step cL_step 4 mL_step 3 := ⟨⟨inG (mt3 (List.mem_of_getElem? (i := 63) rfl)) rfl, gi_RL, ⟨by decide +kernel, by decide +kernel⟩, by decide +kernel, by decide +kernel, by decide, by decide⟩, inG (mt3 (List.mem_of_getElem? (i := 62) rfl)) rfl⟩
abbrev mX11_step : Mt := ((some .int), RX11, false, [])
set_option maxRecDepth 20000 in
theorem mvX11_step : MV yX11_step cX11_step 3 mX11_step 2 := ⟨⟨inG (mt3 (List.mem_of_getElem? (i := 67) rfl)) rfl, gi_RX11, ⟨by decide +kernel, by decide +kernel⟩, by decide +kernel, by decide +kernel, by decide, by decide⟩, inG (mt3 (List.mem_of_getElem? (i := 65) rfl)) rfl, inG (mt3 (List.mem_of_getElem? (i := 66) rfl)) rfl⟩
abbrev mX11_checkPath : Mt := (none, RX11, false, [])
set_option maxRecDepth 20000 in
theorem mvX11_checkPath : MV yX11_checkPath cX11_checkPath 2 mX11_checkPath 1 := ⟨⟨inG (mt3 (List.mem_of_getElem? (i := 71) rfl)) rfl, gi_RX11, ⟨by decide +kernel, by decide +kernel⟩, by decide +kernel, by decide +kernel, by decide, by decide⟩, inG (mt3 (List.mem_of_getElem? (i := 70) rfl)) rfl, inG (mp_ (List.mem_of_getElem? (i := 2) rfl)) rfl⟩
abbrev mX11_checkDirection : Mt := (none, RX11, false, [])
set_option maxRecDepth 20000 in
theorem msX11_checkDirection : MS yX11_checkDirection cX11_checkDirection 1 mX11_checkDirection 1 := ⟨⟨inG (mt3 (List.mem_of_getElem? (i := 75) rfl)) rfl, gi_RX11, ⟨by decide +kernel, by decide +kernel⟩, by decide +kernel, by decide +kernel, by decide, by decide⟩, inG (mt3 (List.mem_of_getElem? (i := 74) rfl)) rfl⟩
abbrev mX0_lengthen : Mt := ((some .int), RX0, false, [])
set_option maxRecDepth 20000 in
theorem mvX0_lengthen : MV yX0_lengthen cX0_lengthen 6 mX0_lengthen 2 := ⟨⟨inG (mt3 (List.mem_of_getElem? (i := 79) rfl)) rfl, gi_RX0, ⟨by decide +kernel, by decide +kernel⟩, by decide +kernel, by decide +kernel, by decide, by decide⟩, inG (mt3 (List.mem_of_getElem? (i := 77) rfl)) rfl, inG (mt3 (List.mem_of_getElem? (i := 78) rfl)) rfl⟩
abbrev mX9_head : Mt := ((some .int), RX9, false, [])
set_option maxRecDepth 20000 in
theorem mvX9_head : MV yX9_head cX9_head 1 mX9_head 0 := ⟨⟨inG (mt3 (List.mem_of_getElem? (i := 83) rfl)) rfl, gi_RX9, ⟨by decide +kernel, by decide +kernel⟩, by decide +kernel, by decide +kernel, by decide, by decide⟩, inG (mt3 (List.mem_of_getElem? (i := 81) rfl)) rfl, inG (mt3 (List.mem_of_getElem? (i := 82) rfl)) rfl⟩
abbrev mX0_refusalAt : Mt := ((some .int), RX0, false, [])
set_option maxRecDepth 20000 in
theorem mvX0_refusalAt : MV yX0_refusalAt cX0_refusalAt 3 mX0_refusalAt 2 := ⟨⟨inG (mt3 (List.mem_of_getElem? (i := 87) rfl)) rfl, gi_RX0, ⟨by decide +kernel, by decide +kernel⟩, by decide +kernel, by decide +kernel, by decide, by decide⟩, inG (mt3 (List.mem_of_getElem? (i := 86) rfl)) rfl, inG (mp_ (List.mem_of_getElem? (i := 3) rfl)) rfl⟩
abbrev mX0_noteStep : Mt := (none, RX0, false, [])
set_option maxRecDepth 20000 in
theorem mvX0_noteStep : MV yX0_noteStep cX0_noteStep 2 mX0_noteStep 1 := ⟨⟨inG (mt3 (List.mem_of_getElem? (i := 94) rfl)) rfl, gi_RX0, ⟨by decide +kernel, by decide +kernel⟩, by decide +kernel, by decide +kernel, by decide, by decide⟩, inG (mt3 (List.mem_of_getElem? (i := 93) rfl)) rfl, inG (mp_ (List.mem_of_getElem? (i := 4) rfl)) rfl⟩
abbrev mL_back : Mt := ((some .int), RL, false, [(0, 5, 6, 16), (0, 5, 10, 18)])
set_option maxRecDepth 20000 in
theorem msL_back : MS yL_back cL_back 3 mL_back 2 := ⟨⟨inG (mt3 (List.mem_of_getElem? (i := 97) rfl)) rfl, gi_RL, ⟨by decide +kernel, by decide +kernel⟩, by decide +kernel, by decide +kernel, by decide, by decide⟩, inG (mt3 (List.mem_of_getElem? (i := 96) rfl)) rfl⟩
abbrev mX11_back : Mt := ((some .int), RX11, false, [])
set_option maxRecDepth 20000 in
theorem mvX11_back : MV yX11_back cX11_back 2 mX11_back 1 := ⟨⟨inG (mt3 (List.mem_of_getElem? (i := 101) rfl)) rfl, gi_RX11, ⟨by decide +kernel, by decide +kernel⟩, by decide +kernel, by decide +kernel, by decide, by decide⟩, inG (mt3 (List.mem_of_getElem? (i := 99) rfl)) rfl, inG (mt3 (List.mem_of_getElem? (i := 100) rfl)) rfl⟩
abbrev mX0_trail : Mt := ((some (.object "LatticePaths$Trail")), RX0, false, [])
set_option maxRecDepth 20000 in
theorem mvX0_trail : MV yX0_trail cX0_trail 2 mX0_trail 1 := ⟨⟨inG (mt3 (List.mem_of_getElem? (i := 105) rfl)) rfl, gi_RX0, ⟨by decide +kernel, by decide +kernel⟩, by decide +kernel, by decide +kernel, by decide, by decide⟩, inG (mt3 (List.mem_of_getElem? (i := 103) rfl)) rfl, inG (mt3 (List.mem_of_getElem? (i := 104) rfl)) rfl⟩
abbrev mX0_shorten : Mt := ((some .int), RX0, false, [])
set_option maxRecDepth 20000 in
theorem mvX0_shorten : MV yX0_shorten cX0_shorten 3 mX0_shorten 1 := ⟨⟨inG (mt3 (List.mem_of_getElem? (i := 111) rfl)) rfl, gi_RX0, ⟨by decide +kernel, by decide +kernel⟩, by decide +kernel, by decide +kernel, by decide, by decide⟩, inG (mt3 (List.mem_of_getElem? (i := 109) rfl)) rfl, inG (mt3 (List.mem_of_getElem? (i := 110) rfl)) rfl⟩
abbrev mX9_endAt : Mt := (none, RX9, false, [])
set_option maxRecDepth 20000 in
theorem mvX9_endAt : MV yX9_endAt cX9_endAt 2 mX9_endAt 1 := ⟨⟨inG (mt3 (List.mem_of_getElem? (i := 115) rfl)) rfl, gi_RX9, ⟨by decide +kernel, by decide +kernel⟩, by decide +kernel, by decide +kernel, by decide, by decide⟩, inG (mt3 (List.mem_of_getElem? (i := 113) rfl)) rfl, inG (mt3 (List.mem_of_getElem? (i := 114) rfl)) rfl⟩
abbrev mL_slither : Mt := ((some .int), RL, false, [(0, 6, 7, 16), (0, 6, 11, 23)])
set_option maxRecDepth 20000 in
theorem msL_slither : MS yL_slither cL_slither 4 mL_slither 3 := ⟨⟨inG (mt3 (List.mem_of_getElem? (i := 118) rfl)) rfl, gi_RL, ⟨by decide +kernel, by decide +kernel⟩, by decide +kernel, by decide +kernel, by decide, by decide⟩, inG (mt3 (List.mem_of_getElem? (i := 117) rfl)) rfl⟩
abbrev mX11_slither : Mt := ((some .int), RX11, false, [])
set_option maxRecDepth 20000 in
theorem mvX11_slither : MV yX11_slither cX11_slither 3 mX11_slither 2 := ⟨⟨inG (mt3 (List.mem_of_getElem? (i := 122) rfl)) rfl, gi_RX11, ⟨by decide +kernel, by decide +kernel⟩, by decide +kernel, by decide +kernel, by decide, by decide⟩, inG (mt3 (List.mem_of_getElem? (i := 120) rfl)) rfl, inG (mt3 (List.mem_of_getElem? (i := 121) rfl)) rfl⟩
abbrev mX0_creep : Mt := ((some .int), RX0, false, [])
set_option maxRecDepth 20000 in
theorem mvX0_creep : MV yX0_creep cX0_creep 6 mX0_creep 2 := ⟨⟨inG (mt3 (List.mem_of_getElem? (i := 126) rfl)) rfl, gi_RX0, ⟨by decide +kernel, by decide +kernel⟩, by decide +kernel, by decide +kernel, by decide, by decide⟩, inG (mt3 (List.mem_of_getElem? (i := 124) rfl)) rfl, inG (mt3 (List.mem_of_getElem? (i := 125) rfl)) rfl⟩
abbrev mX9_tail : Mt := ((some .int), RX9, false, [])
set_option maxRecDepth 20000 in
theorem mvX9_tail : MV yX9_tail cX9_tail 1 mX9_tail 0 := ⟨⟨inG (mt3 (List.mem_of_getElem? (i := 130) rfl)) rfl, gi_RX9, ⟨by decide +kernel, by decide +kernel⟩, by decide +kernel, by decide +kernel, by decide, by decide⟩, inG (mt3 (List.mem_of_getElem? (i := 128) rfl)) rfl, inG (mt3 (List.mem_of_getElem? (i := 129) rfl)) rfl⟩
abbrev mX9_advanceTo : Mt := (none, RX9, false, [])
set_option maxRecDepth 20000 in
theorem mvX9_advanceTo : MV yX9_advanceTo cX9_advanceTo 3 mX9_advanceTo 1 := ⟨⟨inG (mt3 (List.mem_of_getElem? (i := 134) rfl)) rfl, gi_RX9, ⟨by decide +kernel, by decide +kernel⟩, by decide +kernel, by decide +kernel, by decide, by decide⟩, inG (mt3 (List.mem_of_getElem? (i := 132) rfl)) rfl, inG (mt3 (List.mem_of_getElem? (i := 133) rfl)) rfl⟩
abbrev mX9_put : Mt := (none, RX9, false, [])
set_option maxRecDepth 20000 in
theorem mvX9_put : MV yX9_put cX9_put 3 mX9_put 2 := ⟨⟨inG (mt3 (List.mem_of_getElem? (i := 138) rfl)) rfl, gi_RX9, ⟨by decide +kernel, by decide +kernel⟩, by decide +kernel, by decide +kernel, by decide, by decide⟩, inG (mt3 (List.mem_of_getElem? (i := 136) rfl)) rfl, inG (mt3 (List.mem_of_getElem? (i := 137) rfl)) rfl⟩
abbrev mL_turn : Mt := ((some .int), RL, false, [(0, 7, 8, 16), (0, 7, 13, 23)])
set_option maxRecDepth 20000 in
theorem msL_turn : MS yL_turn cL_turn 5 mL_turn 4 := ⟨⟨inG (mt3 (List.mem_of_getElem? (i := 141) rfl)) rfl, gi_RL, ⟨by decide +kernel, by decide +kernel⟩, by decide +kernel, by decide +kernel, by decide, by decide⟩, inG (mt3 (List.mem_of_getElem? (i := 140) rfl)) rfl⟩
abbrev mX11_turn : Mt := ((some .int), RX11, false, [])
set_option maxRecDepth 20000 in
theorem mvX11_turn : MV yX11_turn cX11_turn 5 mX11_turn 3 := ⟨⟨inG (mt3 (List.mem_of_getElem? (i := 145) rfl)) rfl, gi_RX11, ⟨by decide +kernel, by decide +kernel⟩, by decide +kernel, by decide +kernel, by decide, by decide⟩, inG (mt3 (List.mem_of_getElem? (i := 143) rfl)) rfl, inG (mt3 (List.mem_of_getElem? (i := 144) rfl)) rfl⟩
abbrev mX11_checkPlace : Mt := (none, RX11, false, [])
set_option maxRecDepth 20000 in
theorem mvX11_checkPlace : MV yX11_checkPlace cX11_checkPlace 3 mX11_checkPlace 2 := ⟨⟨inG (mt3 (List.mem_of_getElem? (i := 149) rfl)) rfl, gi_RX11, ⟨by decide +kernel, by decide +kernel⟩, by decide +kernel, by decide +kernel, by decide, by decide⟩, inG (mt3 (List.mem_of_getElem? (i := 148) rfl)) rfl, inG (mp_ (List.mem_of_getElem? (i := 5) rfl)) rfl⟩
abbrev mX11_checkQuarters : Mt := (none, RX11, false, [])
set_option maxRecDepth 20000 in
theorem msX11_checkQuarters : MS yX11_checkQuarters cX11_checkQuarters 1 mX11_checkQuarters 1 := ⟨⟨inG (mt3 (List.mem_of_getElem? (i := 154) rfl)) rfl, gi_RX11, ⟨by decide +kernel, by decide +kernel⟩, by decide +kernel, by decide +kernel, by decide, by decide⟩, inG (mt3 (List.mem_of_getElem? (i := 153) rfl)) rfl⟩
abbrev mX10_refusal : Mt := ((some .int), RX10, false, [])
set_option maxRecDepth 20000 in
theorem mvX10_refusal : MV yX10_refusal cX10_refusal 9 mX10_refusal 4 := ⟨⟨inG (mt3 (List.mem_of_getElem? (i := 158) rfl)) rfl, gi_RX10, ⟨by decide +kernel, by decide +kernel⟩, by decide +kernel, by decide +kernel, by decide, by decide⟩, inG (mt3 (List.mem_of_getElem? (i := 156) rfl)) rfl, inG (mt3 (List.mem_of_getElem? (i := 157) rfl)) rfl⟩
abbrev mX10_land : Mt := ((some .boolean), RX10, false, [])
set_option maxRecDepth 20000 in
theorem mvX10_land : MV yX10_land cX10_land 6 mX10_land 3 := ⟨⟨inG (mt3 (List.mem_of_getElem? (i := 163) rfl)) rfl, gi_RX10, ⟨by decide +kernel, by decide +kernel⟩, by decide +kernel, by decide +kernel, by decide, by decide⟩, inG (mt3 (List.mem_of_getElem? (i := 162) rfl)) rfl, inG (mp_ (List.mem_of_getElem? (i := 6) rfl)) rfl⟩
abbrev mX10_swung : Mt := ((some .int), RX10, false, [])
set_option maxRecDepth 20000 in
theorem msX10_swung : MS yX10_swung cX10_swung 7 mX10_swung 3 := ⟨⟨inG (mt3 (List.mem_of_getElem? (i := 168) rfl)) rfl, gi_RX10, ⟨by decide +kernel, by decide +kernel⟩, by decide +kernel, by decide +kernel, by decide, by decide⟩, inG (mt3 (List.mem_of_getElem? (i := 167) rfl)) rfl⟩
abbrev mX0_noteTurn : Mt := (none, RX0, false, [])
set_option maxRecDepth 20000 in
theorem mvX0_noteTurn : MV yX0_noteTurn cX0_noteTurn 2 mX0_noteTurn 1 := ⟨⟨inG (mt3 (List.mem_of_getElem? (i := 177) rfl)) rfl, gi_RX0, ⟨by decide +kernel, by decide +kernel⟩, by decide +kernel, by decide +kernel, by decide, by decide⟩, inG (mt3 (List.mem_of_getElem? (i := 175) rfl)) rfl, inG (mt3 (List.mem_of_getElem? (i := 176) rfl)) rfl⟩
abbrev mX10_moveSites : Mt := (none, RX10, false, [])
set_option maxRecDepth 20000 in
theorem mvX10_moveSites : MV yX10_moveSites cX10_moveSites 6 mX10_moveSites 3 := ⟨⟨inG (mt3 (List.mem_of_getElem? (i := 181) rfl)) rfl, gi_RX10, ⟨by decide +kernel, by decide +kernel⟩, by decide +kernel, by decide +kernel, by decide, by decide⟩, inG (mt3 (List.mem_of_getElem? (i := 179) rfl)) rfl, inG (mt3 (List.mem_of_getElem? (i := 180) rfl)) rfl⟩
abbrev mL_reverse : Mt := ((some .int), RL, false, [(0, 5, 6, 16)])
set_option maxRecDepth 20000 in
theorem msL_reverse : MS yL_reverse cL_reverse 3 mL_reverse 2 := ⟨⟨inG (mt3 (List.mem_of_getElem? (i := 186) rfl)) rfl, gi_RL, ⟨by decide +kernel, by decide +kernel⟩, by decide +kernel, by decide +kernel, by decide, by decide⟩, inG (mt3 (List.mem_of_getElem? (i := 185) rfl)) rfl⟩
abbrev mX11_reverse : Mt := ((some .int), RX11, false, [])
set_option maxRecDepth 20000 in
theorem mvX11_reverse : MV yX11_reverse cX11_reverse 2 mX11_reverse 1 := ⟨⟨inG (mt3 (List.mem_of_getElem? (i := 190) rfl)) rfl, gi_RX11, ⟨by decide +kernel, by decide +kernel⟩, by decide +kernel, by decide +kernel, by decide, by decide⟩, inG (mt3 (List.mem_of_getElem? (i := 188) rfl)) rfl, inG (mt3 (List.mem_of_getElem? (i := 189) rfl)) rfl⟩
abbrev mX0_flip : Mt := ((some .int), RX0, false, [])
set_option maxRecDepth 20000 in
theorem mvX0_flip : MV yX0_flip cX0_flip 2 mX0_flip 1 := ⟨⟨inG (mt3 (List.mem_of_getElem? (i := 194) rfl)) rfl, gi_RX0, ⟨by decide +kernel, by decide +kernel⟩, by decide +kernel, by decide +kernel, by decide, by decide⟩, inG (mt3 (List.mem_of_getElem? (i := 192) rfl)) rfl, inG (mt3 (List.mem_of_getElem? (i := 193) rfl)) rfl⟩
abbrev mX9_flip : Mt := (none, RX9, false, [])
set_option maxRecDepth 20000 in
theorem mvX9_flip : MV yX9_flip cX9_flip 4 mX9_flip 0 := ⟨⟨inG (mt3 (List.mem_of_getElem? (i := 198) rfl)) rfl, gi_RX9, ⟨by decide +kernel, by decide +kernel⟩, by decide +kernel, by decide +kernel, by decide, by decide⟩, inG (mt3 (List.mem_of_getElem? (i := 196) rfl)) rfl, inG (mt3 (List.mem_of_getElem? (i := 197) rfl)) rfl⟩
abbrev mL_join : Mt := ((some .int), RL, false, [(0, 6, 7, 16), (0, 6, 11, 23), (0, 6, 15, 18)])
set_option maxRecDepth 20000 in
theorem msL_join : MS yL_join cL_join 4 mL_join 3 := ⟨⟨inG (mt3 (List.mem_of_getElem? (i := 201) rfl)) rfl, gi_RL, ⟨by decide +kernel, by decide +kernel⟩, by decide +kernel, by decide +kernel, by decide, by decide⟩, inG (mt3 (List.mem_of_getElem? (i := 200) rfl)) rfl⟩
abbrev mX11_join : Mt := ((some .int), RX11, false, [])
set_option maxRecDepth 20000 in
theorem mvX11_join : MV yX11_join cX11_join 5 mX11_join 2 := ⟨⟨inG (mt3 (List.mem_of_getElem? (i := 205) rfl)) rfl, gi_RX11, ⟨by decide +kernel, by decide +kernel⟩, by decide +kernel, by decide +kernel, by decide, by decide⟩, inG (mt3 (List.mem_of_getElem? (i := 203) rfl)) rfl, inG (mt3 (List.mem_of_getElem? (i := 204) rfl)) rfl⟩
abbrev mX11_checkTwoPaths : Mt := (none, RX11, false, [])
set_option maxRecDepth 20000 in
theorem mvX11_checkTwoPaths : MV yX11_checkTwoPaths cX11_checkTwoPaths 3 mX11_checkTwoPaths 2 := ⟨⟨inG (mt3 (List.mem_of_getElem? (i := 209) rfl)) rfl, gi_RX11, ⟨by decide +kernel, by decide +kernel⟩, by decide +kernel, by decide +kernel, by decide, by decide⟩, inG (mt3 (List.mem_of_getElem? (i := 208) rfl)) rfl, inG (mp_ (List.mem_of_getElem? (i := 7) rfl)) rfl⟩
abbrev mX2_areNeighbours : Mt := ((some .boolean), RX2, false, [])
set_option maxRecDepth 20000 in
theorem msX2_areNeighbours : MS yX2_areNeighbours cX2_areNeighbours 2 mX2_areNeighbours 2 := ⟨⟨inG (mt3 (List.mem_of_getElem? (i := 214) rfl)) rfl, gi_RX2, ⟨by decide +kernel, by decide +kernel⟩, by decide +kernel, by decide +kernel, by decide, by decide⟩, inG (mt3 (List.mem_of_getElem? (i := 213) rfl)) rfl⟩
abbrev mX2_squaredDistance : Mt := ((some .int), RX2, false, [])
set_option maxRecDepth 20000 in
theorem msX2_squaredDistance : MS yX2_squaredDistance cX2_squaredDistance 4 mX2_squaredDistance 2 := ⟨⟨inG (mt3 (List.mem_of_getElem? (i := 217) rfl)) rfl, gi_RX2, ⟨by decide +kernel, by decide +kernel⟩, by decide +kernel, by decide +kernel, by decide, by decide⟩, inG (mt3 (List.mem_of_getElem? (i := 216) rfl)) rfl⟩
abbrev mX0_weld : Mt := ((some .int), RX0, false, [])
set_option maxRecDepth 20000 in
theorem mvX0_weld : MV yX0_weld cX0_weld 6 mX0_weld 2 := ⟨⟨inG (mt3 (List.mem_of_getElem? (i := 222) rfl)) rfl, gi_RX0, ⟨by decide +kernel, by decide +kernel⟩, by decide +kernel, by decide +kernel, by decide, by decide⟩, inG (mt3 (List.mem_of_getElem? (i := 220) rfl)) rfl, inG (mt3 (List.mem_of_getElem? (i := 221) rfl)) rfl⟩
abbrev mX0_drop : Mt := (none, RX0, false, [])
set_option maxRecDepth 20000 in
theorem mvX0_drop : MV yX0_drop cX0_drop 4 mX0_drop 1 := ⟨⟨inG (mt3 (List.mem_of_getElem? (i := 226) rfl)) rfl, gi_RX0, ⟨by decide +kernel, by decide +kernel⟩, by decide +kernel, by decide +kernel, by decide, by decide⟩, inG (mt3 (List.mem_of_getElem? (i := 224) rfl)) rfl, inG (mt3 (List.mem_of_getElem? (i := 225) rfl)) rfl⟩
abbrev mL_split : Mt := ((some .int), RL, false, [(0, 6, 7, 16), (0, 6, 11, 18)])
set_option maxRecDepth 20000 in
theorem msL_split : MS yL_split cL_split 4 mL_split 3 := ⟨⟨inG (mt3 (List.mem_of_getElem? (i := 229) rfl)) rfl, gi_RL, ⟨by decide +kernel, by decide +kernel⟩, by decide +kernel, by decide +kernel, by decide, by decide⟩, inG (mt3 (List.mem_of_getElem? (i := 228) rfl)) rfl⟩
abbrev mX11_split : Mt := ((some .int), RX11, false, [])
set_option maxRecDepth 20000 in
theorem mvX11_split : MV yX11_split cX11_split 3 mX11_split 2 := ⟨⟨inG (mt3 (List.mem_of_getElem? (i := 233) rfl)) rfl, gi_RX11, ⟨by decide +kernel, by decide +kernel⟩, by decide +kernel, by decide +kernel, by decide, by decide⟩, inG (mt3 (List.mem_of_getElem? (i := 231) rfl)) rfl, inG (mt3 (List.mem_of_getElem? (i := 232) rfl)) rfl⟩
abbrev mX0_cut : Mt := ((some .int), RX0, false, [])
set_option maxRecDepth 20000 in
theorem mvX0_cut : MV yX0_cut cX0_cut 4 mX0_cut 2 := ⟨⟨inG (mt3 (List.mem_of_getElem? (i := 239) rfl)) rfl, gi_RX0, ⟨by decide +kernel, by decide +kernel⟩, by decide +kernel, by decide +kernel, by decide, by decide⟩, inG (mt3 (List.mem_of_getElem? (i := 237) rfl)) rfl, inG (mt3 (List.mem_of_getElem? (i := 238) rfl)) rfl⟩
abbrev mL_remove : Mt := ((some .int), RL, false, [(0, 5, 6, 16)])
set_option maxRecDepth 20000 in
theorem msL_remove : MS yL_remove cL_remove 3 mL_remove 2 := ⟨⟨inG (mt4 (List.mem_of_getElem? (i := 2) rfl)) rfl, gi_RL, ⟨by decide +kernel, by decide +kernel⟩, by decide +kernel, by decide +kernel, by decide, by decide⟩, inG (mt4 (List.mem_of_getElem? (i := 1) rfl)) rfl⟩
abbrev mX11_remove : Mt := ((some .int), RX11, false, [])
set_option maxRecDepth 20000 in
theorem mvX11_remove : MV yX11_remove cX11_remove 2 mX11_remove 1 := ⟨⟨inG (mt4 (List.mem_of_getElem? (i := 6) rfl)) rfl, gi_RX11, ⟨by decide +kernel, by decide +kernel⟩, by decide +kernel, by decide +kernel, by decide, by decide⟩, inG (mt4 (List.mem_of_getElem? (i := 4) rfl)) rfl, inG (mt4 (List.mem_of_getElem? (i := 5) rfl)) rfl⟩
abbrev mL_undo : Mt := ((some .int), RL, false, [(0, 4, 5, 18)])
set_option maxRecDepth 20000 in
theorem msL_undo : MS yL_undo cL_undo 2 mL_undo 1 := ⟨⟨inG (mt2 (List.mem_of_getElem? (i := 21) rfl)) rfl, gi_RL, ⟨by decide +kernel, by decide +kernel⟩, by decide +kernel, by decide +kernel, by decide, by decide⟩, inG (mt2 (List.mem_of_getElem? (i := 20) rfl)) rfl⟩
abbrev mX11_undo : Mt := ((some .int), RX11, false, [])
set_option maxRecDepth 20000 in
theorem mvX11_undo : MV yX11_undo cX11_undo 1 mX11_undo 0 := ⟨⟨inG (mt2 (List.mem_of_getElem? (i := 26) rfl)) rfl, gi_RX11, ⟨by decide +kernel, by decide +kernel⟩, by decide +kernel, by decide +kernel, by decide, by decide⟩, inG (mt2 (List.mem_of_getElem? (i := 24) rfl)) rfl, inG (mt2 (List.mem_of_getElem? (i := 25) rfl)) rfl⟩
abbrev mX1_restoreLast : Mt := (none, RX1, false, [])
set_option maxRecDepth 20000 in
theorem mvX1_restoreLast : MV yX1_restoreLast cX1_restoreLast 2 mX1_restoreLast 1 := ⟨⟨inG (mt2 (List.mem_of_getElem? (i := 102) rfl)) rfl, gi_RX1, ⟨by decide +kernel, by decide +kernel⟩, by decide +kernel, by decide +kernel, by decide, by decide⟩, inG (mt2 (List.mem_of_getElem? (i := 100) rfl)) rfl, inG (mt2 (List.mem_of_getElem? (i := 101) rfl)) rfl⟩
abbrev mX5_putInto : Mt := (none, RX5, false, [])
set_option maxRecDepth 20000 in
theorem mvX5_putInto : MV yX5_putInto cX5_putInto 6 mX5_putInto 1 := ⟨⟨inG (mt2 (List.mem_of_getElem? (i := 106) rfl)) rfl, gi_RX5, ⟨by decide +kernel, by decide +kernel⟩, by decide +kernel, by decide +kernel, by decide, by decide⟩, inG (mt2 (List.mem_of_getElem? (i := 104) rfl)) rfl, inG (mt2 (List.mem_of_getElem? (i := 105) rfl)) rfl⟩
abbrev mL_due : Mt := ((some .int), RL, false, [])
set_option maxRecDepth 20000 in
theorem msL_due : MS yL_due cL_due 8 mL_due 6 := ⟨⟨inG (mt4 (List.mem_of_getElem? (i := 10) rfl)) rfl, gi_RL, ⟨by decide +kernel, by decide +kernel⟩, by decide +kernel, by decide +kernel, by decide, by decide⟩, inG (mt4 (List.mem_of_getElem? (i := 9) rfl)) rfl⟩
abbrev mL_whose : Mt := ((some .int), RL, false, [])
set_option maxRecDepth 20000 in
theorem msL_whose : MS yL_whose cL_whose 5 mL_whose 3 := ⟨⟨inG (mt4 (List.mem_of_getElem? (i := 13) rfl)) rfl, gi_RL, ⟨by decide +kernel, by decide +kernel⟩, by decide +kernel, by decide +kernel, by decide, by decide⟩, inG (mt4 (List.mem_of_getElem? (i := 12) rfl)) rfl⟩
abbrev mL_at : Mt := ((some .int), RL, false, [])
set_option maxRecDepth 20000 in
theorem msL_at : MS yL_at cL_at 3 mL_at 3 := ⟨⟨inG (mt4 (List.mem_of_getElem? (i := 16) rfl)) rfl, gi_RL, ⟨by decide +kernel, by decide +kernel⟩, by decide +kernel, by decide +kernel, by decide, by decide⟩, inG (mt4 (List.mem_of_getElem? (i := 15) rfl)) rfl⟩
abbrev mL_puts : Mt := (none, RL, false, [])
set_option maxRecDepth 20000 in
theorem msL_puts : MS yL_puts cL_puts 5 mL_puts 4 := ⟨⟨inG (mt4 (List.mem_of_getElem? (i := 19) rfl)) rfl, gi_RL, ⟨by decide +kernel, by decide +kernel⟩, by decide +kernel, by decide +kernel, by decide, by decide⟩, inG (mt4 (List.mem_of_getElem? (i := 18) rfl)) rfl⟩
abbrev mL_stepped : Mt := ((some .int), RL, false, [])
set_option maxRecDepth 20000 in
theorem msL_stepped : MS yL_stepped cL_stepped 8 mL_stepped 5 := ⟨⟨inG (mt4 (List.mem_of_getElem? (i := 22) rfl)) rfl, gi_RL, ⟨by decide +kernel, by decide +kernel⟩, by decide +kernel, by decide +kernel, by decide, by decide⟩, inG (mt4 (List.mem_of_getElem? (i := 21) rfl)) rfl⟩
abbrev mL_go : Mt := ((some .int), RL, false, [])
set_option maxRecDepth 20000 in
theorem msL_go : MS yL_go cL_go 2 mL_go 2 := ⟨⟨inG (mt4 (List.mem_of_getElem? (i := 25) rfl)) rfl, gi_RL, ⟨by decide +kernel, by decide +kernel⟩, by decide +kernel, by decide +kernel, by decide, by decide⟩, inG (mt4 (List.mem_of_getElem? (i := 24) rfl)) rfl⟩
abbrev mL_why : Mt := ((some .int), RL, false, [])
set_option maxRecDepth 20000 in
theorem msL_why : MS yL_why cL_why 6 mL_why 5 := ⟨⟨inG (mt4 (List.mem_of_getElem? (i := 28) rfl)) rfl, gi_RL, ⟨by decide +kernel, by decide +kernel⟩, by decide +kernel, by decide +kernel, by decide, by decide⟩, inG (mt4 (List.mem_of_getElem? (i := 27) rfl)) rfl⟩
abbrev mL_turns : Mt := ((some .int), RL, false, [])
set_option maxRecDepth 20000 in
theorem msL_turns : MS yL_turns cL_turns 7 mL_turns 5 := ⟨⟨inG (mt4 (List.mem_of_getElem? (i := 31) rfl)) rfl, gi_RL, ⟨by decide +kernel, by decide +kernel⟩, by decide +kernel, by decide +kernel, by decide, by decide⟩, inG (mt4 (List.mem_of_getElem? (i := 30) rfl)) rfl⟩
abbrev mL_whyNotTurned : Mt := ((some .int), RL, false, [])
set_option maxRecDepth 20000 in
theorem msL_whyNotTurned : MS yL_whyNotTurned cL_whyNotTurned 11 mL_whyNotTurned 5 := ⟨⟨inG (mt4 (List.mem_of_getElem? (i := 34) rfl)) rfl, gi_RL, ⟨by decide +kernel, by decide +kernel⟩, by decide +kernel, by decide +kernel, by decide, by decide⟩, inG (mt4 (List.mem_of_getElem? (i := 33) rfl)) rfl⟩
abbrev mL_turned : Mt := ((some .int), RL, false, [])
set_option maxRecDepth 20000 in
theorem msL_turned : MS yL_turned cL_turned 7 mL_turned 3 := ⟨⟨inG (mt4 (List.mem_of_getElem? (i := 37) rfl)) rfl, gi_RL, ⟨by decide +kernel, by decide +kernel⟩, by decide +kernel, by decide +kernel, by decide, by decide⟩, inG (mt4 (List.mem_of_getElem? (i := 36) rfl)) rfl⟩
abbrev mL_joined : Mt := ((some .int), RL, false, [])
set_option maxRecDepth 20000 in
theorem msL_joined : MS yL_joined cL_joined 7 mL_joined 4 := ⟨⟨inG (mt4 (List.mem_of_getElem? (i := 40) rfl)) rfl, gi_RL, ⟨by decide +kernel, by decide +kernel⟩, by decide +kernel, by decide +kernel, by decide, by decide⟩, inG (mt4 (List.mem_of_getElem? (i := 39) rfl)) rfl⟩
abbrev mL_drops : Mt := (none, RL, false, [])
set_option maxRecDepth 20000 in
theorem msL_drops : MS yL_drops cL_drops 5 mL_drops 3 := ⟨⟨inG (mt4 (List.mem_of_getElem? (i := 43) rfl)) rfl, gi_RL, ⟨by decide +kernel, by decide +kernel⟩, by decide +kernel, by decide +kernel, by decide, by decide⟩, inG (mt4 (List.mem_of_getElem? (i := 42) rfl)) rfl⟩
abbrev mL_isSo : Mt := ((some .boolean), RL, false, [])
set_option maxRecDepth 20000 in
theorem msL_isSo : MS yL_isSo cL_isSo 18 mL_isSo 4 := ⟨⟨inG (mt4 (List.mem_of_getElem? (i := 46) rfl)) rfl, gi_RL, ⟨by decide +kernel, by decide +kernel⟩, by decide +kernel, by decide +kernel, by decide, by decide⟩, inG (mt4 (List.mem_of_getElem? (i := 45) rfl)) rfl⟩
abbrev mX11_share : Mt := ((some .float), RX11, false, [])
set_option maxRecDepth 20000 in
theorem mvX11_share : MV yX11_share cX11_share 1 mX11_share 0 := ⟨⟨inG (mt4 (List.mem_of_getElem? (i := 50) rfl)) rfl, gi_RX11, ⟨by decide +kernel, by decide +kernel⟩, by decide +kernel, by decide +kernel, by decide, by decide⟩, inG (mt4 (List.mem_of_getElem? (i := 48) rfl)) rfl, inG (mt4 (List.mem_of_getElem? (i := 49) rfl)) rfl⟩
abbrev mX11_trapped : Mt := ((some .int), RX11, false, [])
set_option maxRecDepth 20000 in
theorem mvX11_trapped : MV yX11_trapped cX11_trapped 3 mX11_trapped 0 := ⟨⟨inG (mt4 (List.mem_of_getElem? (i := 56) rfl)) rfl, gi_RX11, ⟨by decide +kernel, by decide +kernel⟩, by decide +kernel, by decide +kernel, by decide, by decide⟩, inG (mt4 (List.mem_of_getElem? (i := 54) rfl)) rfl, inG (mt4 (List.mem_of_getElem? (i := 55) rfl)) rfl⟩
abbrev mL_isPath : Mt := ((some .boolean), RL, false, [])
set_option maxRecDepth 20000 in
theorem msL_isPath : MS yL_isPath cL_isPath 17 mL_isPath 4 := ⟨⟨inG (mt4 (List.mem_of_getElem? (i := 59) rfl)) rfl, gi_RL, ⟨by decide +kernel, by decide +kernel⟩, by decide +kernel, by decide +kernel, by decide, by decide⟩, inG (mt4 (List.mem_of_getElem? (i := 58) rfl)) rfl⟩
abbrev mL_place : Mt := ((some .int), RL, false, [(0, 6, 7, 16)])
set_option maxRecDepth 20000 in
theorem msL_place : MS yL_place cL_place 4 mL_place 3 := ⟨⟨inG (mt4 (List.mem_of_getElem? (i := 62) rfl)) rfl, gi_RL, ⟨by decide +kernel, by decide +kernel⟩, by decide +kernel, by decide +kernel, by decide, by decide⟩, inG (mt4 (List.mem_of_getElem? (i := 61) rfl)) rfl⟩
abbrev mX11_place : Mt := ((some .int), RX11, false, [])
set_option maxRecDepth 20000 in
theorem mvX11_place : MV yX11_place cX11_place 3 mX11_place 2 := ⟨⟨inG (mt4 (List.mem_of_getElem? (i := 66) rfl)) rfl, gi_RX11, ⟨by decide +kernel, by decide +kernel⟩, by decide +kernel, by decide +kernel, by decide, by decide⟩, inG (mt4 (List.mem_of_getElem? (i := 64) rfl)) rfl, inG (mt4 (List.mem_of_getElem? (i := 65) rfl)) rfl⟩
abbrev mL_path : Mt := ((some .int), RL, false, [(0, 6, 7, 16), (0, 6, 11, 23)])
set_option maxRecDepth 20000 in
theorem msL_path : MS yL_path cL_path 4 mL_path 3 := ⟨⟨inG (mt4 (List.mem_of_getElem? (i := 70) rfl)) rfl, gi_RL, ⟨by decide +kernel, by decide +kernel⟩, by decide +kernel, by decide +kernel, by decide, by decide⟩, inG (mt4 (List.mem_of_getElem? (i := 69) rfl)) rfl⟩
abbrev mX11_path : Mt := ((some .int), RX11, false, [])
set_option maxRecDepth 20000 in
theorem mvX11_path : MV yX11_path cX11_path 4 mX11_path 2 := ⟨⟨inG (mt4 (List.mem_of_getElem? (i := 74) rfl)) rfl, gi_RX11, ⟨by decide +kernel, by decide +kernel⟩, by decide +kernel, by decide +kernel, by decide, by decide⟩, inG (mt4 (List.mem_of_getElem? (i := 72) rfl)) rfl, inG (mt4 (List.mem_of_getElem? (i := 73) rfl)) rfl⟩
abbrev mX9_corners : Mt := ((some .int), RX9, false, [])
set_option maxRecDepth 20000 in
theorem mvX9_corners : MV yX9_corners cX9_corners 3 mX9_corners 0 := ⟨⟨inG (mt4 (List.mem_of_getElem? (i := 78) rfl)) rfl, gi_RX9, ⟨by decide +kernel, by decide +kernel⟩, by decide +kernel, by decide +kernel, by decide, by decide⟩, inG (mt4 (List.mem_of_getElem? (i := 76) rfl)) rfl, inG (mt4 (List.mem_of_getElem? (i := 77) rfl)) rfl⟩
abbrev mX9_steps : Mt := ((some .int), RX9, false, [])
set_option maxRecDepth 20000 in
theorem mvX9_steps : MV yX9_steps cX9_steps 1 mX9_steps 0 := ⟨⟨inG (mt4 (List.mem_of_getElem? (i := 82) rfl)) rfl, gi_RX9, ⟨by decide +kernel, by decide +kernel⟩, by decide +kernel, by decide +kernel, by decide, by decide⟩, inG (mt4 (List.mem_of_getElem? (i := 80) rfl)) rfl, inG (mt4 (List.mem_of_getElem? (i := 81) rfl)) rfl⟩
abbrev mX9_stepAt : Mt := ((some .int), RX9, false, [])
set_option maxRecDepth 20000 in
theorem mvX9_stepAt : MV yX9_stepAt cX9_stepAt 2 mX9_stepAt 1 := ⟨⟨inG (mt4 (List.mem_of_getElem? (i := 86) rfl)) rfl, gi_RX9, ⟨by decide +kernel, by decide +kernel⟩, by decide +kernel, by decide +kernel, by decide, by decide⟩, inG (mt4 (List.mem_of_getElem? (i := 84) rfl)) rfl, inG (mt4 (List.mem_of_getElem? (i := 85) rfl)) rfl⟩
abbrev mX2_direction : Mt := ((some .int), RX2, false, [])
set_option maxRecDepth 20000 in
theorem msX2_direction : MS yX2_direction cX2_direction 3 mX2_direction 2 := ⟨⟨inG (mt4 (List.mem_of_getElem? (i := 89) rfl)) rfl, gi_RX2, ⟨by decide +kernel, by decide +kernel⟩, by decide +kernel, by decide +kernel, by decide, by decide⟩, inG (mt4 (List.mem_of_getElem? (i := 88) rfl)) rfl⟩
abbrev mX0_contacts : Mt := ((some .int), RX0, false, [])
set_option maxRecDepth 20000 in
theorem mvX0_contacts : MV yX0_contacts cX0_contacts 7 mX0_contacts 1 := ⟨⟨inG (mt4 (List.mem_of_getElem? (i := 94) rfl)) rfl, gi_RX0, ⟨by decide +kernel, by decide +kernel⟩, by decide +kernel, by decide +kernel, by decide, by decide⟩, inG (mt4 (List.mem_of_getElem? (i := 92) rfl)) rfl, inG (mt4 (List.mem_of_getElem? (i := 93) rfl)) rfl⟩
abbrev mX9_width : Mt := ((some .int), RX9, false, [])
set_option maxRecDepth 20000 in
theorem mvX9_width : MV yX9_width cX9_width 4 mX9_width 0 := ⟨⟨inG (mt4 (List.mem_of_getElem? (i := 102) rfl)) rfl, gi_RX9, ⟨by decide +kernel, by decide +kernel⟩, by decide +kernel, by decide +kernel, by decide, by decide⟩, inG (mt4 (List.mem_of_getElem? (i := 100) rfl)) rfl, inG (mt4 (List.mem_of_getElem? (i := 101) rfl)) rfl⟩
abbrev mX9_height : Mt := ((some .int), RX9, false, [])
set_option maxRecDepth 20000 in
theorem mvX9_height : MV yX9_height cX9_height 4 mX9_height 0 := ⟨⟨inG (mt4 (List.mem_of_getElem? (i := 113) rfl)) rfl, gi_RX9, ⟨by decide +kernel, by decide +kernel⟩, by decide +kernel, by decide +kernel, by decide, by decide⟩, inG (mt4 (List.mem_of_getElem? (i := 111) rfl)) rfl, inG (mt4 (List.mem_of_getElem? (i := 112) rfl)) rfl⟩
abbrev mX9_moment : Mt := ((some .int), RX9, false, [])
set_option maxRecDepth 20000 in
theorem mvX9_moment : MV yX9_moment cX9_moment 7 mX9_moment 0 := ⟨⟨inG (mt4 (List.mem_of_getElem? (i := 120) rfl)) rfl, gi_RX9, ⟨by decide +kernel, by decide +kernel⟩, by decide +kernel, by decide +kernel, by decide, by decide⟩, inG (mt4 (List.mem_of_getElem? (i := 118) rfl)) rfl, inG (mt4 (List.mem_of_getElem? (i := 119) rfl)) rfl⟩
abbrev mX0_freeBorder : Mt := ((some .int), RX0, false, [])
set_option maxRecDepth 20000 in
theorem mvX0_freeBorder : MV yX0_freeBorder cX0_freeBorder 4 mX0_freeBorder 1 := ⟨⟨inG (mt4 (List.mem_of_getElem? (i := 124) rfl)) rfl, gi_RX0, ⟨by decide +kernel, by decide +kernel⟩, by decide +kernel, by decide +kernel, by decide, by decide⟩, inG (mt4 (List.mem_of_getElem? (i := 122) rfl)) rfl, inG (mt4 (List.mem_of_getElem? (i := 123) rfl)) rfl⟩
abbrev mX0_neighboursIn : Mt := ((some .int), RX0, false, [])
set_option maxRecDepth 20000 in
theorem mvX0_neighboursIn : MV yX0_neighboursIn cX0_neighboursIn 5 mX0_neighboursIn 2 := ⟨⟨inG (mt4 (List.mem_of_getElem? (i := 128) rfl)) rfl, gi_RX0, ⟨by decide +kernel, by decide +kernel⟩, by decide +kernel, by decide +kernel, by decide, by decide⟩, inG (mt4 (List.mem_of_getElem? (i := 127) rfl)) rfl, inG (mp_ (List.mem_of_getElem? (i := 8) rfl)) rfl⟩
abbrev mX11_spread : Mt := ((some .double), RX11, false, [])
set_option maxRecDepth 20000 in
theorem mvX11_spread : MV yX11_spread cX11_spread 5 mX11_spread 1 := ⟨⟨inG (mt4 (List.mem_of_getElem? (i := 132) rfl)) rfl, gi_RX11, ⟨by decide +kernel, by decide +kernel⟩, by decide +kernel, by decide +kernel, by decide, by decide⟩, inG (mt4 (List.mem_of_getElem? (i := 130) rfl)) rfl, inG (mt4 (List.mem_of_getElem? (i := 131) rfl)) rfl⟩
abbrev mL_touching : Mt := ((some .int), RL, false, [(0, 6, 7, 16), (0, 6, 11, 23)])
set_option maxRecDepth 20000 in
theorem msL_touching : MS yL_touching cL_touching 4 mL_touching 3 := ⟨⟨inG (mt4 (List.mem_of_getElem? (i := 135) rfl)) rfl, gi_RL, ⟨by decide +kernel, by decide +kernel⟩, by decide +kernel, by decide +kernel, by decide, by decide⟩, inG (mt4 (List.mem_of_getElem? (i := 134) rfl)) rfl⟩
abbrev mX11_touching : Mt := ((some .int), RX11, false, [])
set_option maxRecDepth 20000 in
theorem mvX11_touching : MV yX11_touching cX11_touching 3 mX11_touching 2 := ⟨⟨inG (mt4 (List.mem_of_getElem? (i := 139) rfl)) rfl, gi_RX11, ⟨by decide +kernel, by decide +kernel⟩, by decide +kernel, by decide +kernel, by decide, by decide⟩, inG (mt4 (List.mem_of_getElem? (i := 137) rfl)) rfl, inG (mt4 (List.mem_of_getElem? (i := 138) rfl)) rfl⟩
abbrev mX0_touchingPairs : Mt := ((some .int), RX0, false, [])
set_option maxRecDepth 20000 in
theorem mvX0_touchingPairs : MV yX0_touchingPairs cX0_touchingPairs 6 mX0_touchingPairs 2 := ⟨⟨inG (mt4 (List.mem_of_getElem? (i := 143) rfl)) rfl, gi_RX0, ⟨by decide +kernel, by decide +kernel⟩, by decide +kernel, by decide +kernel, by decide, by decide⟩, inG (mt4 (List.mem_of_getElem? (i := 141) rfl)) rfl, inG (mt4 (List.mem_of_getElem? (i := 142) rfl)) rfl⟩
abbrev mL_ifTurned : Mt := ((some .int), RL, false, [(0, 7, 8, 16), (0, 7, 13, 23)])
set_option maxRecDepth 20000 in
theorem msL_ifTurned : MS yL_ifTurned cL_ifTurned 5 mL_ifTurned 4 := ⟨⟨inG (mt4 (List.mem_of_getElem? (i := 146) rfl)) rfl, gi_RL, ⟨by decide +kernel, by decide +kernel⟩, by decide +kernel, by decide +kernel, by decide, by decide⟩, inG (mt4 (List.mem_of_getElem? (i := 145) rfl)) rfl⟩
abbrev mX11_ifTurned : Mt := ((some .int), RX11, false, [])
set_option maxRecDepth 20000 in
theorem mvX11_ifTurned : MV yX11_ifTurned cX11_ifTurned 4 mX11_ifTurned 3 := ⟨⟨inG (mt4 (List.mem_of_getElem? (i := 150) rfl)) rfl, gi_RX11, ⟨by decide +kernel, by decide +kernel⟩, by decide +kernel, by decide +kernel, by decide, by decide⟩, inG (mt4 (List.mem_of_getElem? (i := 148) rfl)) rfl, inG (mt4 (List.mem_of_getElem? (i := 149) rfl)) rfl⟩
set_option maxRecDepth 20000 in
theorem lkL_170 : Cond.methodLink RL 170 yX11_init ∈ GW := inG (mt1 (List.mem_of_getElem? (i := 23) rfl)) rfl
set_option maxRecDepth 20000 in
theorem lkX11_3 : Cond.methodLink RX11 3 objectInit ∈ GW := inG (mt1 (List.mem_of_getElem? (i := 26) rfl)) rfl
set_option maxRecDepth 20000 in
theorem lkX11_11 : Cond.methodLink RX11 11 yX0_init ∈ GW := inG (mt1 (List.mem_of_getElem? (i := 31) rfl)) rfl
set_option maxRecDepth 20000 in
theorem lkX0_3 : Cond.methodLink RX0 3 objectInit ∈ GW := inG (mt1 (List.mem_of_getElem? (i := 34) rfl)) rfl
set_option maxRecDepth 20000 in
theorem lkX9_3 : Cond.methodLink RX9 3 objectInit ∈ GW := inG (mt1 (List.mem_of_getElem? (i := 41) rfl)) rfl
set_option maxRecDepth 20000 in
theorem lkX0_25 : Cond.methodLink RX0 25 yJ7_fill_53178 ∈ GW := inG (mt1 (List.mem_of_getElem? (i := 50) rfl)) rfl
set_option maxRecDepth 20000 in
theorem lkX11_18 : Cond.methodLink RX11 18 yX1_init ∈ GW := inG (mt1 (List.mem_of_getElem? (i := 85) rfl)) rfl
set_option maxRecDepth 20000 in
theorem lkX1_3 : Cond.methodLink RX1 3 objectInit ∈ GW := inG (mt1 (List.mem_of_getElem? (i := 88) rfl)) rfl
set_option maxRecDepth 20000 in
theorem lkX5_3 : Cond.methodLink RX5 3 objectInit ∈ GW := inG (mt1 (List.mem_of_getElem? (i := 95) rfl)) rfl
set_option maxRecDepth 20000 in
theorem lkX11_25 : Cond.methodLink RX11 25 yX8_init ∈ GW := inG (mt1 (List.mem_of_getElem? (i := 127) rfl)) rfl
set_option maxRecDepth 20000 in
theorem lkX8_3 : Cond.methodLink RX8 3 objectInit ∈ GW := inG (mt1 (List.mem_of_getElem? (i := 130) rfl)) rfl
set_option maxRecDepth 20000 in
theorem lkX3_3 : Cond.methodLink RX3 3 objectInit ∈ GW := inG (mt1 (List.mem_of_getElem? (i := 146) rfl)) rfl
set_option maxRecDepth 20000 in
theorem lkX10_3 : Cond.methodLink RX10 3 objectInit ∈ GW := inG (mt1 (List.mem_of_getElem? (i := 162) rfl)) rfl
set_option maxRecDepth 20000 in
theorem lkX6_3 : Cond.methodLink RX6 3 objectInit ∈ GW := inG (mt1 (List.mem_of_getElem? (i := 172) rfl)) rfl
set_option maxRecDepth 20000 in
theorem lkX4_3 : Cond.methodLink RX4 3 objectInit ∈ GW := inG (mt1 (List.mem_of_getElem? (i := 182) rfl)) rfl
set_option maxRecDepth 20000 in
theorem lkX7_3 : Cond.methodLink RX7 3 objectInit ∈ GW := inG (mt1 (List.mem_of_getElem? (i := 203) rfl)) rfl
set_option maxRecDepth 20000 in
theorem lkL_171 : Cond.methodLink RL 171 yL_cell ∈ GW := inG (mt2 (List.mem_of_getElem? (i := 10) rfl)) rfl
set_option maxRecDepth 20000 in
theorem lkL_151 : Cond.methodLink RL 151 yL_low ∈ GW := inG (mt2 (List.mem_of_getElem? (i := 15) rfl)) rfl
set_option maxRecDepth 20000 in
theorem lkL_175 : Cond.methodLink RL 175 yL_told ∈ GW := inG (mt2 (List.mem_of_getElem? (i := 142) rfl)) rfl
set_option maxRecDepth 20000 in
theorem lkL_87 : Cond.methodLink RL 87 yL_count ∈ GW := inG (mt2 (List.mem_of_getElem? (i := 147) rfl)) rfl
set_option maxRecDepth 20000 in
theorem lkL_64 : Cond.methodLink RL 64 yX11_count ∈ GW := inG (mt2 (List.mem_of_getElem? (i := 151) rfl)) rfl
set_option maxRecDepth 20000 in
theorem lkX11_186 : Cond.methodLink RX11 186 yX11_checkRange ∈ GW := inG (mt2 (List.mem_of_getElem? (i := 155) rfl)) rfl
set_option maxRecDepth 20000 in
theorem lkX11_183 : Cond.methodLink RX11 183 yX0_pathCount ∈ GW := inG (mt2 (List.mem_of_getElem? (i := 174) rfl)) rfl
set_option maxRecDepth 20000 in
theorem lkX11_296 : Cond.methodLink RX11 296 yX0_takenSites ∈ GW := inG (mt2 (List.mem_of_getElem? (i := 178) rfl)) rfl
set_option maxRecDepth 20000 in
theorem lkX11_323 : Cond.methodLink RX11 323 yX0_stepsMade ∈ GW := inG (mt2 (List.mem_of_getElem? (i := 182) rfl)) rfl
set_option maxRecDepth 20000 in
theorem lkX11_326 : Cond.methodLink RX11 326 yX0_refusals ∈ GW := inG (mt2 (List.mem_of_getElem? (i := 186) rfl)) rfl
set_option maxRecDepth 20000 in
theorem lkX11_329 : Cond.methodLink RX11 329 yX0_turnsMade ∈ GW := inG (mt2 (List.mem_of_getElem? (i := 190) rfl)) rfl
set_option maxRecDepth 20000 in
theorem lkX11_221 : Cond.methodLink RX11 221 yX1_size ∈ GW := inG (mt2 (List.mem_of_getElem? (i := 27) rfl)) rfl
set_option maxRecDepth 20000 in
theorem lkX11_196 : Cond.methodLink RX11 196 yX3_length ∈ GW := inG (mt2 (List.mem_of_getElem? (i := 194) rfl)) rfl
set_option maxRecDepth 20000 in
theorem lkL_92 : Cond.methodLink RL 92 yL_site ∈ GW := inG (mt2 (List.mem_of_getElem? (i := 199) rfl)) rfl
set_option maxRecDepth 20000 in
theorem lkL_52 : Cond.methodLink RL 52 yX11_site ∈ GW := inG (mt2 (List.mem_of_getElem? (i := 203) rfl)) rfl
set_option maxRecDepth 20000 in
theorem lkX11_75 : Cond.methodLink RX11 75 yX11_checkedSite ∈ GW := inG (mt2 (List.mem_of_getElem? (i := 207) rfl)) rfl
set_option maxRecDepth 20000 in
theorem lkX11_336 : Cond.methodLink RX11 336 yX2_number ∈ GW := inG (mt2 (List.mem_of_getElem? (i := 210) rfl)) rfl
set_option maxRecDepth 20000 in
theorem lkX11_242 : Cond.methodLink RX11 242 yX0_pathAt ∈ GW := inG (mt2 (List.mem_of_getElem? (i := 229) rfl)) rfl
set_option maxRecDepth 20000 in
theorem lkX0_50 : Cond.methodLink RX0 50 yX2_isSite ∈ GW := inG (mt2 (List.mem_of_getElem? (i := 139) rfl)) rfl
set_option maxRecDepth 20000 in
theorem lkX11_245 : Cond.methodLink RX11 245 yX0_placeAt ∈ GW := inG (mt2 (List.mem_of_getElem? (i := 233) rfl)) rfl
set_option maxRecDepth 20000 in
theorem lkX11_248 : Cond.methodLink RX11 248 yX0_freeDirections ∈ GW := inG (mt2 (List.mem_of_getElem? (i := 237) rfl)) rfl
set_option maxRecDepth 20000 in
theorem lkX0_75 : Cond.methodLink RX0 75 yX2_neighbour ∈ GW := inG (mt3 (List.mem_of_getElem? (i := 1) rfl)) rfl
set_option maxRecDepth 20000 in
theorem lkX2_9 : Cond.methodLink RX2 9 yX2_column ∈ GW := inG (mt3 (List.mem_of_getElem? (i := 4) rfl)) rfl
set_option maxRecDepth 20000 in
theorem lkX2_19 : Cond.methodLink RX2 19 yX2_row ∈ GW := inG (mt3 (List.mem_of_getElem? (i := 9) rfl)) rfl
set_option maxRecDepth 20000 in
theorem lkX2_25 : Cond.methodLink RX2 25 yX2_number ∈ GW := inG (mt3 (List.mem_of_getElem? (i := 14) rfl)) rfl
set_option maxRecDepth 20000 in
theorem lkX0_101 : Cond.methodLink RX0 101 yX0_isFree ∈ GW := inG (mt3 (List.mem_of_getElem? (i := 15) rfl)) rfl
set_option maxRecDepth 20000 in
theorem lkL_179 : Cond.methodLink RL 179 yL_call ∈ GW := inG (mt3 (List.mem_of_getElem? (i := 19) rfl)) rfl
set_option maxRecDepth 20000 in
theorem lkL_95 : Cond.methodLink RL 95 yL_start ∈ GW := inG (mt3 (List.mem_of_getElem? (i := 22) rfl)) rfl
set_option maxRecDepth 20000 in
theorem lkL_10 : Cond.methodLink RL 10 yX11_start ∈ GW := inG (mt3 (List.mem_of_getElem? (i := 25) rfl)) rfl
set_option maxRecDepth 20000 in
theorem lkX11_79 : Cond.methodLink RX11 79 yX0_isFree ∈ GW := inG (mt3 (List.mem_of_getElem? (i := 29) rfl)) rfl
set_option maxRecDepth 20000 in
theorem lkX11_83 : Cond.methodLink RX11 83 yX0_isFull ∈ GW := inG (mt3 (List.mem_of_getElem? (i := 30) rfl)) rfl
set_option maxRecDepth 20000 in
theorem lkX11_94 : Cond.methodLink RX11 94 yX1_save ∈ GW := inG (mt3 (List.mem_of_getElem? (i := 35) rfl)) rfl
set_option maxRecDepth 20000 in
theorem lkX1_25 : Cond.methodLink RX1 25 yX5_take ∈ GW := inG (mt3 (List.mem_of_getElem? (i := 39) rfl)) rfl
set_option maxRecDepth 20000 in
theorem lkX5_29 : Cond.methodLink RX5 29 yX9_length ∈ GW := inG (mt3 (List.mem_of_getElem? (i := 43) rfl)) rfl
set_option maxRecDepth 20000 in
theorem lkX5_35 : Cond.methodLink RX5 35 yX9_at ∈ GW := inG (mt3 (List.mem_of_getElem? (i := 44) rfl)) rfl
set_option maxRecDepth 20000 in
theorem lkX9_19 : Cond.methodLink RX9 19 yX9_has ∈ GW := inG (mt2 (List.mem_of_getElem? (i := 131) rfl)) rfl
set_option maxRecDepth 20000 in
theorem lkX11_98 : Cond.methodLink RX11 98 yX9_begin ∈ GW := inG (mt3 (List.mem_of_getElem? (i := 45) rfl)) rfl
set_option maxRecDepth 20000 in
theorem lkX9_27 : Cond.methodLink RX9 27 yX9_clear ∈ GW := inG (mt3 (List.mem_of_getElem? (i := 49) rfl)) rfl
set_option maxRecDepth 20000 in
theorem lkX9_30 : Cond.methodLink RX9 30 yX9_push ∈ GW := inG (mt3 (List.mem_of_getElem? (i := 50) rfl)) rfl
set_option maxRecDepth 20000 in
theorem lkX9_34 : Cond.methodLink RX9 34 yX9_isFull ∈ GW := inG (mt2 (List.mem_of_getElem? (i := 115) rfl)) rfl
set_option maxRecDepth 20000 in
theorem lkX11_102 : Cond.methodLink RX11 102 yX0_add ∈ GW := inG (mt3 (List.mem_of_getElem? (i := 51) rfl)) rfl
set_option maxRecDepth 20000 in
theorem lkX0_65 : Cond.methodLink RX0 65 yX9_copyFrom ∈ GW := inG (mt3 (List.mem_of_getElem? (i := 55) rfl)) rfl
set_option maxRecDepth 20000 in
theorem lkX9_23 : Cond.methodLink RX9 23 yX9_at ∈ GW := inG (mt3 (List.mem_of_getElem? (i := 59) rfl)) rfl
set_option maxRecDepth 20000 in
theorem lkX0_69 : Cond.methodLink RX0 69 yX0_markSites ∈ GW := inG (mt3 (List.mem_of_getElem? (i := 60) rfl)) rfl
set_option maxRecDepth 20000 in
theorem lkX0_38 : Cond.methodLink RX0 38 yX9_length ∈ GW := inG (mt2 (List.mem_of_getElem? (i := 123) rfl)) rfl
set_option maxRecDepth 20000 in
theorem lkX0_42 : Cond.methodLink RX0 42 yX9_at ∈ GW := inG (mt2 (List.mem_of_getElem? (i := 127) rfl)) rfl
set_option maxRecDepth 20000 in
theorem lkX0_46 : Cond.methodLink RX0 46 yX0_mark ∈ GW := inG (mt2 (List.mem_of_getElem? (i := 135) rfl)) rfl
set_option maxRecDepth 20000 in
theorem lkL_98 : Cond.methodLink RL 98 yL_step ∈ GW := inG (mt3 (List.mem_of_getElem? (i := 61) rfl)) rfl
set_option maxRecDepth 20000 in
theorem lkL_20 : Cond.methodLink RL 20 yX11_step ∈ GW := inG (mt3 (List.mem_of_getElem? (i := 64) rfl)) rfl
set_option maxRecDepth 20000 in
theorem lkX11_106 : Cond.methodLink RX11 106 yX11_checkPath ∈ GW := inG (mt3 (List.mem_of_getElem? (i := 68) rfl)) rfl
set_option maxRecDepth 20000 in
theorem lkX11_109 : Cond.methodLink RX11 109 yX11_checkDirection ∈ GW := inG (mt3 (List.mem_of_getElem? (i := 73) rfl)) rfl
set_option maxRecDepth 20000 in
theorem lkX11_112 : Cond.methodLink RX11 112 yX0_lengthen ∈ GW := inG (mt3 (List.mem_of_getElem? (i := 76) rfl)) rfl
set_option maxRecDepth 20000 in
theorem lkX0_72 : Cond.methodLink RX0 72 yX9_head ∈ GW := inG (mt3 (List.mem_of_getElem? (i := 80) rfl)) rfl
set_option maxRecDepth 20000 in
theorem lkX0_79 : Cond.methodLink RX0 79 yX0_refusalAt ∈ GW := inG (mt3 (List.mem_of_getElem? (i := 84) rfl)) rfl
set_option maxRecDepth 20000 in
theorem lkX0_99 : Cond.methodLink RX0 99 yX0_pathAt ∈ GW := inG (mt3 (List.mem_of_getElem? (i := 88) rfl)) rfl
set_option maxRecDepth 20000 in
theorem lkX0_82 : Cond.methodLink RX0 82 yX9_isFull ∈ GW := inG (mt3 (List.mem_of_getElem? (i := 89) rfl)) rfl
set_option maxRecDepth 20000 in
theorem lkX0_86 : Cond.methodLink RX0 86 yX9_push ∈ GW := inG (mt3 (List.mem_of_getElem? (i := 90) rfl)) rfl
set_option maxRecDepth 20000 in
theorem lkX0_90 : Cond.methodLink RX0 90 yX0_noteStep ∈ GW := inG (mt3 (List.mem_of_getElem? (i := 91) rfl)) rfl
set_option maxRecDepth 20000 in
theorem lkL_100 : Cond.methodLink RL 100 yL_back ∈ GW := inG (mt3 (List.mem_of_getElem? (i := 95) rfl)) rfl
set_option maxRecDepth 20000 in
theorem lkL_25 : Cond.methodLink RL 25 yX11_back ∈ GW := inG (mt3 (List.mem_of_getElem? (i := 98) rfl)) rfl
set_option maxRecDepth 20000 in
theorem lkX11_115 : Cond.methodLink RX11 115 yX0_trail ∈ GW := inG (mt3 (List.mem_of_getElem? (i := 102) rfl)) rfl
set_option maxRecDepth 20000 in
theorem lkX11_119 : Cond.methodLink RX11 119 yX9_length ∈ GW := inG (mt3 (List.mem_of_getElem? (i := 106) rfl)) rfl
set_option maxRecDepth 20000 in
theorem lkX11_125 : Cond.methodLink RX11 125 yX0_shorten ∈ GW := inG (mt3 (List.mem_of_getElem? (i := 108) rfl)) rfl
set_option maxRecDepth 20000 in
theorem lkX0_104 : Cond.methodLink RX0 104 yX9_endAt ∈ GW := inG (mt3 (List.mem_of_getElem? (i := 112) rfl)) rfl
set_option maxRecDepth 20000 in
theorem lkL_102 : Cond.methodLink RL 102 yL_slither ∈ GW := inG (mt3 (List.mem_of_getElem? (i := 116) rfl)) rfl
set_option maxRecDepth 20000 in
theorem lkL_29 : Cond.methodLink RL 29 yX11_slither ∈ GW := inG (mt3 (List.mem_of_getElem? (i := 119) rfl)) rfl
set_option maxRecDepth 20000 in
theorem lkX11_129 : Cond.methodLink RX11 129 yX0_creep ∈ GW := inG (mt3 (List.mem_of_getElem? (i := 123) rfl)) rfl
set_option maxRecDepth 20000 in
theorem lkX0_93 : Cond.methodLink RX0 93 yX9_tail ∈ GW := inG (mt3 (List.mem_of_getElem? (i := 127) rfl)) rfl
set_option maxRecDepth 20000 in
theorem lkX0_96 : Cond.methodLink RX0 96 yX9_advanceTo ∈ GW := inG (mt3 (List.mem_of_getElem? (i := 131) rfl)) rfl
set_option maxRecDepth 20000 in
theorem lkX9_38 : Cond.methodLink RX9 38 yX9_put ∈ GW := inG (mt3 (List.mem_of_getElem? (i := 135) rfl)) rfl
set_option maxRecDepth 20000 in
theorem lkL_104 : Cond.methodLink RL 104 yL_turn ∈ GW := inG (mt3 (List.mem_of_getElem? (i := 139) rfl)) rfl
set_option maxRecDepth 20000 in
theorem lkL_32 : Cond.methodLink RL 32 yX11_turn ∈ GW := inG (mt3 (List.mem_of_getElem? (i := 142) rfl)) rfl
set_option maxRecDepth 20000 in
theorem lkX11_132 : Cond.methodLink RX11 132 yX11_checkPlace ∈ GW := inG (mt3 (List.mem_of_getElem? (i := 146) rfl)) rfl
set_option maxRecDepth 20000 in
theorem lkX11_343 : Cond.methodLink RX11 343 yX9_has ∈ GW := inG (mt3 (List.mem_of_getElem? (i := 150) rfl)) rfl
set_option maxRecDepth 20000 in
theorem lkX11_136 : Cond.methodLink RX11 136 yX11_checkQuarters ∈ GW := inG (mt3 (List.mem_of_getElem? (i := 152) rfl)) rfl
set_option maxRecDepth 20000 in
theorem lkX11_139 : Cond.methodLink RX11 139 yX10_refusal ∈ GW := inG (mt3 (List.mem_of_getElem? (i := 155) rfl)) rfl
set_option maxRecDepth 20000 in
theorem lkX10_15 : Cond.methodLink RX10 15 yX0_trail ∈ GW := inG (mt3 (List.mem_of_getElem? (i := 159) rfl)) rfl
set_option maxRecDepth 20000 in
theorem lkX10_21 : Cond.methodLink RX10 21 yX10_land ∈ GW := inG (mt3 (List.mem_of_getElem? (i := 160) rfl)) rfl
set_option maxRecDepth 20000 in
theorem lkX10_38 : Cond.methodLink RX10 38 yX9_at ∈ GW := inG (mt3 (List.mem_of_getElem? (i := 164) rfl)) rfl
set_option maxRecDepth 20000 in
theorem lkX10_25 : Cond.methodLink RX10 25 yX9_length ∈ GW := inG (mt3 (List.mem_of_getElem? (i := 165) rfl)) rfl
set_option maxRecDepth 20000 in
theorem lkX10_41 : Cond.methodLink RX10 41 yX10_swung ∈ GW := inG (mt3 (List.mem_of_getElem? (i := 166) rfl)) rfl
set_option maxRecDepth 20000 in
theorem lkX10_45 : Cond.methodLink RX10 45 yX2_column ∈ GW := inG (mt3 (List.mem_of_getElem? (i := 169) rfl)) rfl
set_option maxRecDepth 20000 in
theorem lkX10_50 : Cond.methodLink RX10 50 yX2_row ∈ GW := inG (mt3 (List.mem_of_getElem? (i := 170) rfl)) rfl
set_option maxRecDepth 20000 in
theorem lkX10_53 : Cond.methodLink RX10 53 yX2_number ∈ GW := inG (mt3 (List.mem_of_getElem? (i := 171) rfl)) rfl
set_option maxRecDepth 20000 in
theorem lkX10_31 : Cond.methodLink RX10 31 yX0_pathAt ∈ GW := inG (mt3 (List.mem_of_getElem? (i := 172) rfl)) rfl
set_option maxRecDepth 20000 in
theorem lkX10_35 : Cond.methodLink RX10 35 yX0_placeAt ∈ GW := inG (mt3 (List.mem_of_getElem? (i := 173) rfl)) rfl
set_option maxRecDepth 20000 in
theorem lkX11_143 : Cond.methodLink RX11 143 yX0_noteTurn ∈ GW := inG (mt3 (List.mem_of_getElem? (i := 174) rfl)) rfl
set_option maxRecDepth 20000 in
theorem lkX11_146 : Cond.methodLink RX11 146 yX10_moveSites ∈ GW := inG (mt3 (List.mem_of_getElem? (i := 178) rfl)) rfl
set_option maxRecDepth 20000 in
theorem lkX10_57 : Cond.methodLink RX10 57 yX9_put ∈ GW := inG (mt3 (List.mem_of_getElem? (i := 182) rfl)) rfl
set_option maxRecDepth 20000 in
theorem lkX10_61 : Cond.methodLink RX10 61 yX0_markSites ∈ GW := inG (mt3 (List.mem_of_getElem? (i := 183) rfl)) rfl
set_option maxRecDepth 20000 in
theorem lkL_106 : Cond.methodLink RL 106 yL_reverse ∈ GW := inG (mt3 (List.mem_of_getElem? (i := 184) rfl)) rfl
set_option maxRecDepth 20000 in
theorem lkL_36 : Cond.methodLink RL 36 yX11_reverse ∈ GW := inG (mt3 (List.mem_of_getElem? (i := 187) rfl)) rfl
set_option maxRecDepth 20000 in
theorem lkX11_150 : Cond.methodLink RX11 150 yX0_flip ∈ GW := inG (mt3 (List.mem_of_getElem? (i := 191) rfl)) rfl
set_option maxRecDepth 20000 in
theorem lkX0_107 : Cond.methodLink RX0 107 yX9_flip ∈ GW := inG (mt3 (List.mem_of_getElem? (i := 195) rfl)) rfl
set_option maxRecDepth 20000 in
theorem lkL_108 : Cond.methodLink RL 108 yL_join ∈ GW := inG (mt3 (List.mem_of_getElem? (i := 199) rfl)) rfl
set_option maxRecDepth 20000 in
theorem lkL_39 : Cond.methodLink RL 39 yX11_join ∈ GW := inG (mt3 (List.mem_of_getElem? (i := 202) rfl)) rfl
set_option maxRecDepth 20000 in
theorem lkX11_153 : Cond.methodLink RX11 153 yX11_checkTwoPaths ∈ GW := inG (mt3 (List.mem_of_getElem? (i := 206) rfl)) rfl
set_option maxRecDepth 20000 in
theorem lkX11_156 : Cond.methodLink RX11 156 yX9_head ∈ GW := inG (mt3 (List.mem_of_getElem? (i := 211) rfl)) rfl
set_option maxRecDepth 20000 in
theorem lkX11_159 : Cond.methodLink RX11 159 yX2_areNeighbours ∈ GW := inG (mt3 (List.mem_of_getElem? (i := 212) rfl)) rfl
set_option maxRecDepth 20000 in
theorem lkX2_32 : Cond.methodLink RX2 32 yX2_squaredDistance ∈ GW := inG (mt3 (List.mem_of_getElem? (i := 215) rfl)) rfl
set_option maxRecDepth 20000 in
theorem lkX11_167 : Cond.methodLink RX11 167 yX0_weld ∈ GW := inG (mt3 (List.mem_of_getElem? (i := 219) rfl)) rfl
set_option maxRecDepth 20000 in
theorem lkX0_110 : Cond.methodLink RX0 110 yX0_drop ∈ GW := inG (mt3 (List.mem_of_getElem? (i := 223) rfl)) rfl
set_option maxRecDepth 20000 in
theorem lkL_110 : Cond.methodLink RL 110 yL_split ∈ GW := inG (mt3 (List.mem_of_getElem? (i := 227) rfl)) rfl
set_option maxRecDepth 20000 in
theorem lkL_42 : Cond.methodLink RL 42 yX11_split ∈ GW := inG (mt3 (List.mem_of_getElem? (i := 230) rfl)) rfl
set_option maxRecDepth 20000 in
theorem lkX11_177 : Cond.methodLink RX11 177 yX0_cut ∈ GW := inG (mt3 (List.mem_of_getElem? (i := 236) rfl)) rfl
set_option maxRecDepth 20000 in
theorem lkL_112 : Cond.methodLink RL 112 yL_remove ∈ GW := inG (mt4 (List.mem_of_getElem? (i := 0) rfl)) rfl
set_option maxRecDepth 20000 in
theorem lkL_45 : Cond.methodLink RL 45 yX11_remove ∈ GW := inG (mt4 (List.mem_of_getElem? (i := 3) rfl)) rfl
set_option maxRecDepth 20000 in
theorem lkX11_180 : Cond.methodLink RX11 180 yX0_drop ∈ GW := inG (mt4 (List.mem_of_getElem? (i := 7) rfl)) rfl
set_option maxRecDepth 20000 in
theorem lkL_183 : Cond.methodLink RL 183 yL_undo ∈ GW := inG (mt2 (List.mem_of_getElem? (i := 19) rfl)) rfl
set_option maxRecDepth 20000 in
theorem lkL_48 : Cond.methodLink RL 48 yX11_undo ∈ GW := inG (mt2 (List.mem_of_getElem? (i := 23) rfl)) rfl
set_option maxRecDepth 20000 in
theorem lkX11_226 : Cond.methodLink RX11 226 yX1_restoreLast ∈ GW := inG (mt2 (List.mem_of_getElem? (i := 99) rfl)) rfl
set_option maxRecDepth 20000 in
theorem lkX1_29 : Cond.methodLink RX1 29 yX5_putInto ∈ GW := inG (mt2 (List.mem_of_getElem? (i := 103) rfl)) rfl
set_option maxRecDepth 20000 in
theorem lkX5_51 : Cond.methodLink RX5 51 yX9_clear ∈ GW := inG (mt2 (List.mem_of_getElem? (i := 107) rfl)) rfl
set_option maxRecDepth 20000 in
theorem lkX5_54 : Cond.methodLink RX5 54 yX9_push ∈ GW := inG (mt2 (List.mem_of_getElem? (i := 111) rfl)) rfl
set_option maxRecDepth 20000 in
theorem lkX5_58 : Cond.methodLink RX5 58 yX0_markSites ∈ GW := inG (mt2 (List.mem_of_getElem? (i := 119) rfl)) rfl
set_option maxRecDepth 20000 in
theorem lkL_186 : Cond.methodLink RL 186 yL_due ∈ GW := inG (mt4 (List.mem_of_getElem? (i := 8) rfl)) rfl
set_option maxRecDepth 20000 in
theorem lkL_76 : Cond.methodLink RL 76 yL_whose ∈ GW := inG (mt4 (List.mem_of_getElem? (i := 11) rfl)) rfl
set_option maxRecDepth 20000 in
theorem lkL_70 : Cond.methodLink RL 70 yL_at ∈ GW := inG (mt4 (List.mem_of_getElem? (i := 14) rfl)) rfl
set_option maxRecDepth 20000 in
theorem lkL_121 : Cond.methodLink RL 121 yL_puts ∈ GW := inG (mt4 (List.mem_of_getElem? (i := 17) rfl)) rfl
set_option maxRecDepth 20000 in
theorem lkL_132 : Cond.methodLink RL 132 yL_stepped ∈ GW := inG (mt4 (List.mem_of_getElem? (i := 20) rfl)) rfl
set_option maxRecDepth 20000 in
theorem lkL_114 : Cond.methodLink RL 114 yL_go ∈ GW := inG (mt4 (List.mem_of_getElem? (i := 23) rfl)) rfl
set_option maxRecDepth 20000 in
theorem lkL_117 : Cond.methodLink RL 117 yL_why ∈ GW := inG (mt4 (List.mem_of_getElem? (i := 26) rfl)) rfl
set_option maxRecDepth 20000 in
theorem lkL_136 : Cond.methodLink RL 136 yL_turns ∈ GW := inG (mt4 (List.mem_of_getElem? (i := 29) rfl)) rfl
set_option maxRecDepth 20000 in
theorem lkL_125 : Cond.methodLink RL 125 yL_whyNotTurned ∈ GW := inG (mt4 (List.mem_of_getElem? (i := 32) rfl)) rfl
set_option maxRecDepth 20000 in
theorem lkL_80 : Cond.methodLink RL 80 yL_turned ∈ GW := inG (mt4 (List.mem_of_getElem? (i := 35) rfl)) rfl
set_option maxRecDepth 20000 in
theorem lkL_139 : Cond.methodLink RL 139 yL_joined ∈ GW := inG (mt4 (List.mem_of_getElem? (i := 38) rfl)) rfl
set_option maxRecDepth 20000 in
theorem lkL_128 : Cond.methodLink RL 128 yL_drops ∈ GW := inG (mt4 (List.mem_of_getElem? (i := 41) rfl)) rfl
set_option maxRecDepth 20000 in
theorem lkL_190 : Cond.methodLink RL 190 yL_isSo ∈ GW := inG (mt4 (List.mem_of_getElem? (i := 44) rfl)) rfl
set_option maxRecDepth 20000 in
theorem lkL_154 : Cond.methodLink RL 154 yX11_share ∈ GW := inG (mt4 (List.mem_of_getElem? (i := 47) rfl)) rfl
set_option maxRecDepth 20000 in
theorem lkL_159 : Cond.methodLink RL 159 yX11_trapped ∈ GW := inG (mt4 (List.mem_of_getElem? (i := 53) rfl)) rfl
set_option maxRecDepth 20000 in
theorem lkL_162 : Cond.methodLink RL 162 yL_isPath ∈ GW := inG (mt4 (List.mem_of_getElem? (i := 57) rfl)) rfl
set_option maxRecDepth 20000 in
theorem lkL_143 : Cond.methodLink RL 143 yL_place ∈ GW := inG (mt4 (List.mem_of_getElem? (i := 60) rfl)) rfl
set_option maxRecDepth 20000 in
theorem lkL_55 : Cond.methodLink RL 55 yX11_place ∈ GW := inG (mt4 (List.mem_of_getElem? (i := 63) rfl)) rfl
set_option maxRecDepth 20000 in
theorem lkX11_251 : Cond.methodLink RX11 251 yX9_at ∈ GW := inG (mt4 (List.mem_of_getElem? (i := 67) rfl)) rfl
set_option maxRecDepth 20000 in
theorem lkL_145 : Cond.methodLink RL 145 yL_path ∈ GW := inG (mt4 (List.mem_of_getElem? (i := 68) rfl)) rfl
set_option maxRecDepth 20000 in
theorem lkL_58 : Cond.methodLink RL 58 yX11_path ∈ GW := inG (mt4 (List.mem_of_getElem? (i := 71) rfl)) rfl
set_option maxRecDepth 20000 in
theorem lkX11_254 : Cond.methodLink RX11 254 yX9_corners ∈ GW := inG (mt4 (List.mem_of_getElem? (i := 75) rfl)) rfl
set_option maxRecDepth 20000 in
theorem lkX9_48 : Cond.methodLink RX9 48 yX9_steps ∈ GW := inG (mt4 (List.mem_of_getElem? (i := 79) rfl)) rfl
set_option maxRecDepth 20000 in
theorem lkX9_52 : Cond.methodLink RX9 52 yX9_stepAt ∈ GW := inG (mt4 (List.mem_of_getElem? (i := 83) rfl)) rfl
set_option maxRecDepth 20000 in
theorem lkX9_42 : Cond.methodLink RX9 42 yX2_direction ∈ GW := inG (mt4 (List.mem_of_getElem? (i := 87) rfl)) rfl
set_option maxRecDepth 20000 in
theorem lkX2_29 : Cond.methodLink RX2 29 yX2_neighbour ∈ GW := inG (mt4 (List.mem_of_getElem? (i := 90) rfl)) rfl
set_option maxRecDepth 20000 in
theorem lkX11_257 : Cond.methodLink RX11 257 yX0_contacts ∈ GW := inG (mt4 (List.mem_of_getElem? (i := 91) rfl)) rfl
set_option maxRecDepth 20000 in
theorem lkX0_115 : Cond.methodLink RX0 115 Lib.Math.abs.name ∈ GW := inG (mt4 (List.mem_of_getElem? (i := 96) rfl)) rfl
set_option maxRecDepth 20000 in
theorem lkX0_113 : Cond.methodLink RX0 113 yX0_placeAt ∈ GW := inG (mt4 (List.mem_of_getElem? (i := 95) rfl)) rfl
set_option maxRecDepth 20000 in
theorem lkX11_260 : Cond.methodLink RX11 260 yX9_width ∈ GW := inG (mt4 (List.mem_of_getElem? (i := 99) rfl)) rfl
set_option maxRecDepth 20000 in
theorem lkX9_58 : Cond.methodLink RX9 58 Lib.Math.min.name ∈ GW := inG (mt4 (List.mem_of_getElem? (i := 104) rfl)) rfl
set_option maxRecDepth 20000 in
theorem lkX9_63 : Cond.methodLink RX9 63 Lib.Math.max.name ∈ GW := inG (mt4 (List.mem_of_getElem? (i := 107) rfl)) rfl
set_option maxRecDepth 20000 in
theorem lkX9_55 : Cond.methodLink RX9 55 yX2_column ∈ GW := inG (mt4 (List.mem_of_getElem? (i := 103) rfl)) rfl
set_option maxRecDepth 20000 in
theorem lkX11_263 : Cond.methodLink RX11 263 yX9_height ∈ GW := inG (mt4 (List.mem_of_getElem? (i := 110) rfl)) rfl
set_option maxRecDepth 20000 in
theorem lkX9_66 : Cond.methodLink RX9 66 yX2_row ∈ GW := inG (mt4 (List.mem_of_getElem? (i := 114) rfl)) rfl
set_option maxRecDepth 20000 in
theorem lkX11_266 : Cond.methodLink RX11 266 yX9_tail ∈ GW := inG (mt4 (List.mem_of_getElem? (i := 115) rfl)) rfl
set_option maxRecDepth 20000 in
theorem lkX11_269 : Cond.methodLink RX11 269 yX2_squaredDistance ∈ GW := inG (mt4 (List.mem_of_getElem? (i := 116) rfl)) rfl
set_option maxRecDepth 20000 in
theorem lkX11_272 : Cond.methodLink RX11 272 yX9_moment ∈ GW := inG (mt4 (List.mem_of_getElem? (i := 117) rfl)) rfl
set_option maxRecDepth 20000 in
theorem lkX11_275 : Cond.methodLink RX11 275 yX0_freeBorder ∈ GW := inG (mt4 (List.mem_of_getElem? (i := 121) rfl)) rfl
set_option maxRecDepth 20000 in
theorem lkX0_120 : Cond.methodLink RX0 120 yX0_neighboursIn ∈ GW := inG (mt4 (List.mem_of_getElem? (i := 125) rfl)) rfl
set_option maxRecDepth 20000 in
theorem lkL_147 : Cond.methodLink RL 147 yX11_spread ∈ GW := inG (mt4 (List.mem_of_getElem? (i := 129) rfl)) rfl
set_option maxRecDepth 20000 in
theorem lkL_166 : Cond.methodLink RL 166 yL_touching ∈ GW := inG (mt4 (List.mem_of_getElem? (i := 133) rfl)) rfl
set_option maxRecDepth 20000 in
theorem lkL_61 : Cond.methodLink RL 61 yX11_touching ∈ GW := inG (mt4 (List.mem_of_getElem? (i := 136) rfl)) rfl
set_option maxRecDepth 20000 in
theorem lkX11_278 : Cond.methodLink RX11 278 yX0_touchingPairs ∈ GW := inG (mt4 (List.mem_of_getElem? (i := 140) rfl)) rfl
set_option maxRecDepth 20000 in
theorem lkL_168 : Cond.methodLink RL 168 yL_ifTurned ∈ GW := inG (mt4 (List.mem_of_getElem? (i := 144) rfl)) rfl
set_option maxRecDepth 20000 in
theorem lkL_67 : Cond.methodLink RL 67 yX11_ifTurned ∈ GW := inG (mt4 (List.mem_of_getElem? (i := 147) rfl)) rfl
/-- what a kind's own tables say -/
def KT (ci : Nat) : Prop := ∃ (r : vw_C) (ty : Nat → FieldType), vwCl[ci]? = some r ∧ (∀ w ∈ u_ws r.1 r.2.1 r.2.2, w ∈ GW) ∧ (∀ k, k < r.2.2 → parseFieldDescriptor (r.2.1 k).2.2.1 = some (ty k)) ∧ (∀ a, a < r.2.2 → ∀ b, b < r.2.2 → a ≠ b → (r.2.1 a).2.1 ≠ (r.2.1 b).2.1)
def FL (own : String) (idx ci k : Nat) : Prop := KT ci ∧ ∃ r : vw_C, vwCl[ci]? = some r ∧ k < r.2.2 ∧ (r.2.1 k).1 = r.1 ∧ Cond.fieldLink own idx r.1 (r.2.1 k).2.1 (r.2.1 k).2.2.1 ∈ GW
set_option maxRecDepth 20000 in
theorem ly0_0 : u_lay RX0 TX0 0 ∈ GW := inG (mt1 (List.mem_of_getElem? (i := 66) rfl)) rfl
set_option maxRecDepth 20000 in
theorem ly0_1 : u_lay RX0 TX0 1 ∈ GW := inG (mt1 (List.mem_of_getElem? (i := 68) rfl)) rfl
set_option maxRecDepth 20000 in
theorem ly0_2 : u_lay RX0 TX0 2 ∈ GW := inG (mt1 (List.mem_of_getElem? (i := 70) rfl)) rfl
set_option maxRecDepth 20000 in
theorem ly0_3 : u_lay RX0 TX0 3 ∈ GW := inG (mt1 (List.mem_of_getElem? (i := 72) rfl)) rfl
set_option maxRecDepth 20000 in
theorem ly0_4 : u_lay RX0 TX0 4 ∈ GW := inG (mt1 (List.mem_of_getElem? (i := 74) rfl)) rfl
set_option maxRecDepth 20000 in
theorem ly0_5 : u_lay RX0 TX0 5 ∈ GW := inG (mt1 (List.mem_of_getElem? (i := 76) rfl)) rfl
set_option maxRecDepth 20000 in
theorem ly0_6 : u_lay RX0 TX0 6 ∈ GW := inG (mt1 (List.mem_of_getElem? (i := 78) rfl)) rfl
set_option maxRecDepth 20000 in
theorem ly0_7 : u_lay RX0 TX0 7 ∈ GW := inG (mt1 (List.mem_of_getElem? (i := 80) rfl)) rfl
theorem lys0 : ∀ w ∈ u_ws RX0 TX0 8, w ∈ GW := by
  intro w h
  obtain ⟨k, hk, rfl⟩ := List.mem_map.mp h
  have hk := List.mem_range.mp hk
  match k, hk with
  | 0, _ => exact ly0_0
  | 1, _ => exact ly0_1
  | 2, _ => exact ly0_2
  | 3, _ => exact ly0_3
  | 4, _ => exact ly0_4
  | 5, _ => exact ly0_5
  | 6, _ => exact ly0_6
  | 7, _ => exact ly0_7
theorem kt0 : KT 0 := ⟨(RX0, TX0, 8), tyX0, rfl, lys0, tyX0_ok, nmX0⟩
set_option maxRecDepth 20000 in
theorem ly1_0 : u_lay RX1 TX1 0 ∈ GW := inG (mt1 (List.mem_of_getElem? (i := 118) rfl)) rfl
set_option maxRecDepth 20000 in
theorem ly1_1 : u_lay RX1 TX1 1 ∈ GW := inG (mt1 (List.mem_of_getElem? (i := 120) rfl)) rfl
set_option maxRecDepth 20000 in
theorem ly1_2 : u_lay RX1 TX1 2 ∈ GW := inG (mt1 (List.mem_of_getElem? (i := 122) rfl)) rfl
theorem lys1 : ∀ w ∈ u_ws RX1 TX1 3, w ∈ GW := by
  intro w h
  obtain ⟨k, hk, rfl⟩ := List.mem_map.mp h
  have hk := List.mem_range.mp hk
  match k, hk with
  | 0, _ => exact ly1_0
  | 1, _ => exact ly1_1
  | 2, _ => exact ly1_2
theorem kt1 : KT 1 := ⟨(RX1, TX1, 3), tyX1, rfl, lys1, tyX1_ok, nmX1⟩
set_option maxRecDepth 20000 in
theorem ly2_0 : u_lay RX3 TX3 0 ∈ GW := inG (mt1 (List.mem_of_getElem? (i := 149) rfl)) rfl
set_option maxRecDepth 20000 in
theorem ly2_1 : u_lay RX3 TX3 1 ∈ GW := inG (mt1 (List.mem_of_getElem? (i := 151) rfl)) rfl
theorem lys2 : ∀ w ∈ u_ws RX3 TX3 2, w ∈ GW := by
  intro w h
  obtain ⟨k, hk, rfl⟩ := List.mem_map.mp h
  have hk := List.mem_range.mp hk
  match k, hk with
  | 0, _ => exact ly2_0
  | 1, _ => exact ly2_1
theorem kt2 : KT 2 := ⟨(RX3, TX3, 2), tyX3, rfl, lys2, tyX3_ok, nmX3⟩
set_option maxRecDepth 20000 in
theorem ly3_0 : u_lay RX4 TX4 0 ∈ GW := inG (mt1 (List.mem_of_getElem? (i := 187) rfl)) rfl
set_option maxRecDepth 20000 in
theorem ly3_1 : u_lay RX4 TX4 1 ∈ GW := inG (mt1 (List.mem_of_getElem? (i := 189) rfl)) rfl
set_option maxRecDepth 20000 in
theorem ly3_2 : u_lay RX4 TX4 2 ∈ GW := inG (mt1 (List.mem_of_getElem? (i := 191) rfl)) rfl
set_option maxRecDepth 20000 in
theorem ly3_3 : u_lay RX4 TX4 3 ∈ GW := inG (mt1 (List.mem_of_getElem? (i := 193) rfl)) rfl
set_option maxRecDepth 20000 in
theorem ly3_4 : u_lay RX4 TX4 4 ∈ GW := inG (mt1 (List.mem_of_getElem? (i := 195) rfl)) rfl
theorem lys3 : ∀ w ∈ u_ws RX4 TX4 5, w ∈ GW := by
  intro w h
  obtain ⟨k, hk, rfl⟩ := List.mem_map.mp h
  have hk := List.mem_range.mp hk
  match k, hk with
  | 0, _ => exact ly3_0
  | 1, _ => exact ly3_1
  | 2, _ => exact ly3_2
  | 3, _ => exact ly3_3
  | 4, _ => exact ly3_4
theorem kt3 : KT 3 := ⟨(RX4, TX4, 5), tyX4, rfl, lys3, tyX4_ok, nmX4⟩
set_option maxRecDepth 20000 in
theorem ly4_0 : u_lay RX5 TX5 0 ∈ GW := inG (mt1 (List.mem_of_getElem? (i := 102) rfl)) rfl
set_option maxRecDepth 20000 in
theorem ly4_1 : u_lay RX5 TX5 1 ∈ GW := inG (mt1 (List.mem_of_getElem? (i := 104) rfl)) rfl
set_option maxRecDepth 20000 in
theorem ly4_2 : u_lay RX5 TX5 2 ∈ GW := inG (mt1 (List.mem_of_getElem? (i := 106) rfl)) rfl
set_option maxRecDepth 20000 in
theorem ly4_3 : u_lay RX5 TX5 3 ∈ GW := inG (mt1 (List.mem_of_getElem? (i := 108) rfl)) rfl
set_option maxRecDepth 20000 in
theorem ly4_4 : u_lay RX5 TX5 4 ∈ GW := inG (mt1 (List.mem_of_getElem? (i := 110) rfl)) rfl
set_option maxRecDepth 20000 in
theorem ly4_5 : u_lay RX5 TX5 5 ∈ GW := inG (mt1 (List.mem_of_getElem? (i := 112) rfl)) rfl
theorem lys4 : ∀ w ∈ u_ws RX5 TX5 6, w ∈ GW := by
  intro w h
  obtain ⟨k, hk, rfl⟩ := List.mem_map.mp h
  have hk := List.mem_range.mp hk
  match k, hk with
  | 0, _ => exact ly4_0
  | 1, _ => exact ly4_1
  | 2, _ => exact ly4_2
  | 3, _ => exact ly4_3
  | 4, _ => exact ly4_4
  | 5, _ => exact ly4_5
theorem kt4 : KT 4 := ⟨(RX5, TX5, 6), tyX5, rfl, lys4, tyX5_ok, nmX5⟩
set_option maxRecDepth 20000 in
theorem ly5_0 : u_lay RX6 TX6 0 ∈ GW := inG (mt1 (List.mem_of_getElem? (i := 174) rfl)) rfl
theorem lys5 : ∀ w ∈ u_ws RX6 TX6 1, w ∈ GW := by
  intro w h
  obtain ⟨k, hk, rfl⟩ := List.mem_map.mp h
  have hk := List.mem_range.mp hk
  match k, hk with
  | 0, _ => exact ly5_0
theorem kt5 : KT 5 := ⟨(RX6, TX6, 1), tyX6, rfl, lys5, tyX6_ok, nmX6⟩
set_option maxRecDepth 20000 in
theorem ly6_0 : u_lay RX7 TX7 0 ∈ GW := inG (mt1 (List.mem_of_getElem? (i := 208) rfl)) rfl
set_option maxRecDepth 20000 in
theorem ly6_1 : u_lay RX7 TX7 1 ∈ GW := inG (mt1 (List.mem_of_getElem? (i := 210) rfl)) rfl
set_option maxRecDepth 20000 in
theorem ly6_2 : u_lay RX7 TX7 2 ∈ GW := inG (mt1 (List.mem_of_getElem? (i := 212) rfl)) rfl
set_option maxRecDepth 20000 in
theorem ly6_3 : u_lay RX7 TX7 3 ∈ GW := inG (mt1 (List.mem_of_getElem? (i := 214) rfl)) rfl
set_option maxRecDepth 20000 in
theorem ly6_4 : u_lay RX7 TX7 4 ∈ GW := inG (mt1 (List.mem_of_getElem? (i := 216) rfl)) rfl
theorem lys6 : ∀ w ∈ u_ws RX7 TX7 5, w ∈ GW := by
  intro w h
  obtain ⟨k, hk, rfl⟩ := List.mem_map.mp h
  have hk := List.mem_range.mp hk
  match k, hk with
  | 0, _ => exact ly6_0
  | 1, _ => exact ly6_1
  | 2, _ => exact ly6_2
  | 3, _ => exact ly6_3
  | 4, _ => exact ly6_4
theorem kt6 : KT 6 := ⟨(RX7, TX7, 5), tyX7, rfl, lys6, tyX7_ok, nmX7⟩
set_option maxRecDepth 20000 in
theorem ly7_0 : u_lay RX8 TX8 0 ∈ GW := inG (mt1 (List.mem_of_getElem? (i := 135) rfl)) rfl
set_option maxRecDepth 20000 in
theorem ly7_1 : u_lay RX8 TX8 1 ∈ GW := inG (mt1 (List.mem_of_getElem? (i := 137) rfl)) rfl
theorem lys7 : ∀ w ∈ u_ws RX8 TX8 2, w ∈ GW := by
  intro w h
  obtain ⟨k, hk, rfl⟩ := List.mem_map.mp h
  have hk := List.mem_range.mp hk
  match k, hk with
  | 0, _ => exact ly7_0
  | 1, _ => exact ly7_1
theorem kt7 : KT 7 := ⟨(RX8, TX8, 2), tyX8, rfl, lys7, tyX8_ok, nmX8⟩
set_option maxRecDepth 20000 in
theorem ly8_0 : u_lay RX9 TX9 0 ∈ GW := inG (mt1 (List.mem_of_getElem? (i := 44) rfl)) rfl
set_option maxRecDepth 20000 in
theorem ly8_1 : u_lay RX9 TX9 1 ∈ GW := inG (mt1 (List.mem_of_getElem? (i := 46) rfl)) rfl
theorem lys8 : ∀ w ∈ u_ws RX9 TX9 2, w ∈ GW := by
  intro w h
  obtain ⟨k, hk, rfl⟩ := List.mem_map.mp h
  have hk := List.mem_range.mp hk
  match k, hk with
  | 0, _ => exact ly8_0
  | 1, _ => exact ly8_1
theorem kt8 : KT 8 := ⟨(RX9, TX9, 2), tyX9, rfl, lys8, tyX9_ok, nmX9⟩
set_option maxRecDepth 20000 in
theorem ly9_0 : u_lay RX10 TX10 0 ∈ GW := inG (mt1 (List.mem_of_getElem? (i := 164) rfl)) rfl
theorem lys9 : ∀ w ∈ u_ws RX10 TX10 1, w ∈ GW := by
  intro w h
  obtain ⟨k, hk, rfl⟩ := List.mem_map.mp h
  have hk := List.mem_range.mp hk
  match k, hk with
  | 0, _ => exact ly9_0
theorem kt9 : KT 9 := ⟨(RX10, TX10, 1), tyX10, rfl, lys9, tyX10_ok, nmX10⟩
set_option maxRecDepth 20000 in
theorem ly10_0 : u_lay RX11 TX11 0 ∈ GW := inG (mt1 (List.mem_of_getElem? (i := 229) rfl)) rfl
set_option maxRecDepth 20000 in
theorem ly10_1 : u_lay RX11 TX11 1 ∈ GW := inG (mt1 (List.mem_of_getElem? (i := 231) rfl)) rfl
set_option maxRecDepth 20000 in
theorem ly10_2 : u_lay RX11 TX11 2 ∈ GW := inG (mt1 (List.mem_of_getElem? (i := 233) rfl)) rfl
set_option maxRecDepth 20000 in
theorem ly10_3 : u_lay RX11 TX11 3 ∈ GW := inG (mt1 (List.mem_of_getElem? (i := 235) rfl)) rfl
set_option maxRecDepth 20000 in
theorem ly10_4 : u_lay RX11 TX11 4 ∈ GW := inG (mt1 (List.mem_of_getElem? (i := 237) rfl)) rfl
set_option maxRecDepth 20000 in
theorem ly10_5 : u_lay RX11 TX11 5 ∈ GW := inG (mt1 (List.mem_of_getElem? (i := 239) rfl)) rfl
set_option maxRecDepth 20000 in
theorem ly10_6 : u_lay RX11 TX11 6 ∈ GW := inG (mt2 (List.mem_of_getElem? (i := 1) rfl)) rfl
set_option maxRecDepth 20000 in
theorem ly10_7 : u_lay RX11 TX11 7 ∈ GW := inG (mt2 (List.mem_of_getElem? (i := 3) rfl)) rfl
set_option maxRecDepth 20000 in
theorem ly10_8 : u_lay RX11 TX11 8 ∈ GW := inG (mt2 (List.mem_of_getElem? (i := 5) rfl)) rfl
set_option maxRecDepth 20000 in
theorem ly10_9 : u_lay RX11 TX11 9 ∈ GW := inG (mt2 (List.mem_of_getElem? (i := 7) rfl)) rfl
theorem lys10 : ∀ w ∈ u_ws RX11 TX11 10, w ∈ GW := by
  intro w h
  obtain ⟨k, hk, rfl⟩ := List.mem_map.mp h
  have hk := List.mem_range.mp hk
  match k, hk with
  | 0, _ => exact ly10_0
  | 1, _ => exact ly10_1
  | 2, _ => exact ly10_2
  | 3, _ => exact ly10_3
  | 4, _ => exact ly10_4
  | 5, _ => exact ly10_5
  | 6, _ => exact ly10_6
  | 7, _ => exact ly10_7
  | 8, _ => exact ly10_8
  | 9, _ => exact ly10_9
theorem kt10 : KT 10 := ⟨(RX11, TX11, 10), tyX11, rfl, lys10, tyX11_ok, nmX11⟩
set_option maxRecDepth 20000 in
theorem flX11_12 : FL RX11 12 10 0 := ⟨kt10, (RX11, TX11, 10), rfl, by decide, rfl, inG (mt1 (List.mem_of_getElem? (i := 219) rfl)) rfl⟩
set_option maxRecDepth 20000 in
theorem flX11_19 : FL RX11 19 10 1 := ⟨kt10, (RX11, TX11, 10), rfl, by decide, rfl, inG (mt1 (List.mem_of_getElem? (i := 220) rfl)) rfl⟩
set_option maxRecDepth 20000 in
theorem flX11_26 : FL RX11 26 10 2 := ⟨kt10, (RX11, TX11, 10), rfl, by decide, rfl, inG (mt1 (List.mem_of_getElem? (i := 221) rfl)) rfl⟩
set_option maxRecDepth 20000 in
theorem flX11_33 : FL RX11 33 10 3 := ⟨kt10, (RX11, TX11, 10), rfl, by decide, rfl, inG (mt1 (List.mem_of_getElem? (i := 222) rfl)) rfl⟩
set_option maxRecDepth 20000 in
theorem flX11_40 : FL RX11 40 10 4 := ⟨kt10, (RX11, TX11, 10), rfl, by decide, rfl, inG (mt1 (List.mem_of_getElem? (i := 223) rfl)) rfl⟩
set_option maxRecDepth 20000 in
theorem flX11_47 : FL RX11 47 10 5 := ⟨kt10, (RX11, TX11, 10), rfl, by decide, rfl, inG (mt1 (List.mem_of_getElem? (i := 224) rfl)) rfl⟩
set_option maxRecDepth 20000 in
theorem flX11_54 : FL RX11 54 10 6 := ⟨kt10, (RX11, TX11, 10), rfl, by decide, rfl, inG (mt1 (List.mem_of_getElem? (i := 225) rfl)) rfl⟩
set_option maxRecDepth 20000 in
theorem flX11_61 : FL RX11 61 10 7 := ⟨kt10, (RX11, TX11, 10), rfl, by decide, rfl, inG (mt1 (List.mem_of_getElem? (i := 226) rfl)) rfl⟩
set_option maxRecDepth 20000 in
theorem flX11_68 : FL RX11 68 10 8 := ⟨kt10, (RX11, TX11, 10), rfl, by decide, rfl, inG (mt1 (List.mem_of_getElem? (i := 227) rfl)) rfl⟩
set_option maxRecDepth 20000 in
theorem flX11_72 : FL RX11 72 10 9 := ⟨kt10, (RX11, TX11, 10), rfl, by decide, rfl, inG (mt1 (List.mem_of_getElem? (i := 228) rfl)) rfl⟩
set_option maxRecDepth 20000 in
theorem flX0_11 : FL RX0 11 0 0 := ⟨kt0, (RX0, TX0, 8), rfl, by decide, rfl, inG (mt1 (List.mem_of_getElem? (i := 53) rfl)) rfl⟩
set_option maxRecDepth 20000 in
theorem flX0_17 : FL RX0 17 0 5 := ⟨kt0, (RX0, TX0, 8), rfl, by decide, rfl, inG (mt1 (List.mem_of_getElem? (i := 63) rfl)) rfl⟩
set_option maxRecDepth 20000 in
theorem flX0_21 : FL RX0 21 0 6 := ⟨kt0, (RX0, TX0, 8), rfl, by decide, rfl, inG (mt1 (List.mem_of_getElem? (i := 64) rfl)) rfl⟩
set_option maxRecDepth 20000 in
theorem flX9_9 : FL RX9 9 8 0 := ⟨kt8, (RX9, TX9, 2), rfl, by decide, rfl, inG (mt1 (List.mem_of_getElem? (i := 42) rfl)) rfl⟩
set_option maxRecDepth 20000 in
theorem flX1_11 : FL RX1 11 1 0 := ⟨kt1, (RX1, TX1, 3), rfl, by decide, rfl, inG (mt1 (List.mem_of_getElem? (i := 115) rfl)) rfl⟩
set_option maxRecDepth 20000 in
theorem flX5_9 : FL RX5 9 4 0 := ⟨kt4, (RX5, TX5, 6), rfl, by decide, rfl, inG (mt1 (List.mem_of_getElem? (i := 96) rfl)) rfl⟩
set_option maxRecDepth 20000 in
theorem flX5_15 : FL RX5 15 4 1 := ⟨kt4, (RX5, TX5, 6), rfl, by decide, rfl, inG (mt1 (List.mem_of_getElem? (i := 97) rfl)) rfl⟩
set_option maxRecDepth 20000 in
theorem flX8_11 : FL RX8 11 7 0 := ⟨kt7, (RX8, TX8, 2), rfl, by decide, rfl, inG (mt1 (List.mem_of_getElem? (i := 133) rfl)) rfl⟩
set_option maxRecDepth 20000 in
theorem flX8_17 : FL RX8 17 7 1 := ⟨kt7, (RX8, TX8, 2), rfl, by decide, rfl, inG (mt1 (List.mem_of_getElem? (i := 134) rfl)) rfl⟩
set_option maxRecDepth 20000 in
theorem flX3_9 : FL RX3 9 2 0 := ⟨kt2, (RX3, TX3, 2), rfl, by decide, rfl, inG (mt1 (List.mem_of_getElem? (i := 147) rfl)) rfl⟩
set_option maxRecDepth 20000 in
theorem flX10_9 : FL RX10 9 9 0 := ⟨kt9, (RX10, TX10, 1), rfl, by decide, rfl, inG (mt1 (List.mem_of_getElem? (i := 163) rfl)) rfl⟩
set_option maxRecDepth 20000 in
theorem flX6_9 : FL RX6 9 5 0 := ⟨kt5, (RX6, TX6, 1), rfl, by decide, rfl, inG (mt1 (List.mem_of_getElem? (i := 173) rfl)) rfl⟩
set_option maxRecDepth 20000 in
theorem flX4_9 : FL RX4 9 3 0 := ⟨kt3, (RX4, TX4, 5), rfl, by decide, rfl, inG (mt1 (List.mem_of_getElem? (i := 183) rfl)) rfl⟩
set_option maxRecDepth 20000 in
theorem flX4_15 : FL RX4 15 3 1 := ⟨kt3, (RX4, TX4, 5), rfl, by decide, rfl, inG (mt1 (List.mem_of_getElem? (i := 184) rfl)) rfl⟩
set_option maxRecDepth 20000 in
theorem flX4_18 : FL RX4 18 3 2 := ⟨kt3, (RX4, TX4, 5), rfl, by decide, rfl, inG (mt1 (List.mem_of_getElem? (i := 185) rfl)) rfl⟩
set_option maxRecDepth 20000 in
theorem flX4_22 : FL RX4 22 3 3 := ⟨kt3, (RX4, TX4, 5), rfl, by decide, rfl, inG (mt1 (List.mem_of_getElem? (i := 186) rfl)) rfl⟩
set_option maxRecDepth 20000 in
theorem flX7_9 : FL RX7 9 6 0 := ⟨kt6, (RX7, TX7, 5), rfl, by decide, rfl, inG (mt1 (List.mem_of_getElem? (i := 204) rfl)) rfl⟩
set_option maxRecDepth 20000 in
theorem flX7_15 : FL RX7 15 6 1 := ⟨kt6, (RX7, TX7, 5), rfl, by decide, rfl, inG (mt1 (List.mem_of_getElem? (i := 205) rfl)) rfl⟩
set_option maxRecDepth 20000 in
theorem flX7_18 : FL RX7 18 6 2 := ⟨kt6, (RX7, TX7, 5), rfl, by decide, rfl, inG (mt1 (List.mem_of_getElem? (i := 206) rfl)) rfl⟩
set_option maxRecDepth 20000 in
theorem flX7_21 : FL RX7 21 6 3 := ⟨kt6, (RX7, TX7, 5), rfl, by decide, rfl, inG (mt1 (List.mem_of_getElem? (i := 207) rfl)) rfl⟩
set_option maxRecDepth 20000 in
theorem flX0_35 : FL RX0 35 0 1 := ⟨kt0, (RX0, TX0, 8), rfl, by decide, rfl, inG (mt1 (List.mem_of_getElem? (i := 56) rfl)) rfl⟩
set_option maxRecDepth 20000 in
theorem flX0_31 : FL RX0 31 0 7 := ⟨kt0, (RX0, TX0, 8), rfl, by decide, rfl, inG (mt1 (List.mem_of_getElem? (i := 65) rfl)) rfl⟩
set_option maxRecDepth 20000 in
theorem flX0_56 : FL RX0 56 0 2 := ⟨kt0, (RX0, TX0, 8), rfl, by decide, rfl, inG (mt1 (List.mem_of_getElem? (i := 58) rfl)) rfl⟩
set_option maxRecDepth 20000 in
theorem flX0_59 : FL RX0 59 0 3 := ⟨kt0, (RX0, TX0, 8), rfl, by decide, rfl, inG (mt1 (List.mem_of_getElem? (i := 60) rfl)) rfl⟩
set_option maxRecDepth 20000 in
theorem flX0_62 : FL RX0 62 0 4 := ⟨kt0, (RX0, TX0, 8), rfl, by decide, rfl, inG (mt1 (List.mem_of_getElem? (i := 62) rfl)) rfl⟩
set_option maxRecDepth 20000 in
theorem flX1_18 : FL RX1 18 1 2 := ⟨kt1, (RX1, TX1, 3), rfl, by decide, rfl, inG (mt1 (List.mem_of_getElem? (i := 117) rfl)) rfl⟩
set_option maxRecDepth 20000 in
theorem flX3_15 : FL RX3 15 2 1 := ⟨kt2, (RX3, TX3, 2), rfl, by decide, rfl, inG (mt1 (List.mem_of_getElem? (i := 148) rfl)) rfl⟩
set_option maxRecDepth 20000 in
theorem fsX2_15 : Cond.fieldLink RX2 15 "LatticePaths$Lattice" "ACROSS" "[I" ∈ GW := inG (mt3 (List.mem_of_getElem? (i := 7) rfl)) rfl
set_option maxRecDepth 20000 in
theorem fsX2_22 : Cond.fieldLink RX2 22 "LatticePaths$Lattice" "ALONG" "[I" ∈ GW := inG (mt3 (List.mem_of_getElem? (i := 12) rfl)) rfl
set_option maxRecDepth 20000 in
theorem flX1_22 : FL RX1 22 1 1 := ⟨kt1, (RX1, TX1, 3), rfl, by decide, rfl, inG (mt1 (List.mem_of_getElem? (i := 116) rfl)) rfl⟩
set_option maxRecDepth 20000 in
theorem flX5_24 : FL RX5 24 4 2 := ⟨kt4, (RX5, TX5, 6), rfl, by decide, rfl, inG (mt1 (List.mem_of_getElem? (i := 98) rfl)) rfl⟩
set_option maxRecDepth 20000 in
theorem flX5_42 : FL RX5 42 4 3 := ⟨kt4, (RX5, TX5, 6), rfl, by decide, rfl, inG (mt1 (List.mem_of_getElem? (i := 99) rfl)) rfl⟩
set_option maxRecDepth 20000 in
theorem flX5_46 : FL RX5 46 4 4 := ⟨kt4, (RX5, TX5, 6), rfl, by decide, rfl, inG (mt1 (List.mem_of_getElem? (i := 100) rfl)) rfl⟩
set_option maxRecDepth 20000 in
theorem flX5_50 : FL RX5 50 4 5 := ⟨kt4, (RX5, TX5, 6), rfl, by decide, rfl, inG (mt1 (List.mem_of_getElem? (i := 101) rfl)) rfl⟩
set_option maxRecDepth 20000 in
theorem flX9_15 : FL RX9 15 8 1 := ⟨kt8, (RX9, TX9, 2), rfl, by decide, rfl, inG (mt1 (List.mem_of_getElem? (i := 43) rfl)) rfl⟩
set_option maxRecDepth 20000 in
theorem clL_11 : Cond.classLink RL 11 RX11 ∈ GW := inG (mt1 (List.mem_of_getElem? (i := 21) rfl)) rfl
set_option maxRecDepth 20000 in
theorem itX11 : Cond.instantiable RX11 10 ∈ GW := inG (mt1 (List.mem_of_getElem? (i := 22) rfl)) rfl
set_option maxRecDepth 20000 in
theorem ac_int : Cond.arrayClass .int ∈ GW := inG (mt1 (List.mem_of_getElem? (i := 49) rfl)) rfl
set_option maxRecDepth 20000 in
theorem clX11_9 : Cond.classLink RX11 9 RX0 ∈ GW := inG (mt1 (List.mem_of_getElem? (i := 29) rfl)) rfl
set_option maxRecDepth 20000 in
theorem itX0 : Cond.instantiable RX0 8 ∈ GW := inG (mt1 (List.mem_of_getElem? (i := 30) rfl)) rfl
set_option maxRecDepth 20000 in
theorem clX11_16 : Cond.classLink RX11 16 RX1 ∈ GW := inG (mt1 (List.mem_of_getElem? (i := 83) rfl)) rfl
set_option maxRecDepth 20000 in
theorem itX1 : Cond.instantiable RX1 3 ∈ GW := inG (mt1 (List.mem_of_getElem? (i := 84) rfl)) rfl
set_option maxRecDepth 20000 in
theorem clX11_23 : Cond.classLink RX11 23 RX8 ∈ GW := inG (mt1 (List.mem_of_getElem? (i := 125) rfl)) rfl
set_option maxRecDepth 20000 in
theorem itX8 : Cond.instantiable RX8 2 ∈ GW := inG (mt1 (List.mem_of_getElem? (i := 126) rfl)) rfl
set_option maxRecDepth 20000 in
theorem clX11_30 : Cond.classLink RX11 30 RX3 ∈ GW := inG (mt1 (List.mem_of_getElem? (i := 141) rfl)) rfl
set_option maxRecDepth 20000 in
theorem itX3 : Cond.instantiable RX3 2 ∈ GW := inG (mt1 (List.mem_of_getElem? (i := 142) rfl)) rfl
set_option maxRecDepth 20000 in
theorem clX11_37 : Cond.classLink RX11 37 RX9 ∈ GW := inG (mt1 (List.mem_of_getElem? (i := 155) rfl)) rfl
set_option maxRecDepth 20000 in
theorem itX9 : Cond.instantiable RX9 2 ∈ GW := inG (mt1 (List.mem_of_getElem? (i := 37) rfl)) rfl
set_option maxRecDepth 20000 in
theorem clX11_44 : Cond.classLink RX11 44 RX10 ∈ GW := inG (mt1 (List.mem_of_getElem? (i := 157) rfl)) rfl
set_option maxRecDepth 20000 in
theorem itX10 : Cond.instantiable RX10 1 ∈ GW := inG (mt1 (List.mem_of_getElem? (i := 158) rfl)) rfl
set_option maxRecDepth 20000 in
theorem clX11_51 : Cond.classLink RX11 51 RX6 ∈ GW := inG (mt1 (List.mem_of_getElem? (i := 167) rfl)) rfl
set_option maxRecDepth 20000 in
theorem itX6 : Cond.instantiable RX6 1 ∈ GW := inG (mt1 (List.mem_of_getElem? (i := 168) rfl)) rfl
set_option maxRecDepth 20000 in
theorem clX11_58 : Cond.classLink RX11 58 RX4 ∈ GW := inG (mt1 (List.mem_of_getElem? (i := 177) rfl)) rfl
set_option maxRecDepth 20000 in
theorem itX4 : Cond.instantiable RX4 5 ∈ GW := inG (mt1 (List.mem_of_getElem? (i := 178) rfl)) rfl
set_option maxRecDepth 20000 in
theorem clX11_65 : Cond.classLink RX11 65 RX7 ∈ GW := inG (mt1 (List.mem_of_getElem? (i := 198) rfl)) rfl
set_option maxRecDepth 20000 in
theorem itX7 : Cond.instantiable RX7 5 ∈ GW := inG (mt1 (List.mem_of_getElem? (i := 199) rfl)) rfl
set_option maxRecDepth 20000 in
theorem clX0_9 : Cond.classLink RX0 9 RX9 ∈ GW := inG (mt1 (List.mem_of_getElem? (i := 35) rfl)) rfl
set_option maxRecDepth 20000 in
theorem clX1_9 : Cond.classLink RX1 9 RX5 ∈ GW := inG (mt1 (List.mem_of_getElem? (i := 89) rfl)) rfl
set_option maxRecDepth 20000 in
theorem itX5 : Cond.instantiable RX5 6 ∈ GW := inG (mt1 (List.mem_of_getElem? (i := 91) rfl)) rfl
set_option maxRecDepth 20000 in
theorem clX8_9 : Cond.classLink RX8 9 RX5 ∈ GW := inG (mt1 (List.mem_of_getElem? (i := 131) rfl)) rfl
set_option maxRecDepth 20000 in
theorem ac_boolean : Cond.arrayClass .boolean ∈ GW := inG (mt1 (List.mem_of_getElem? (i := 140) rfl)) rfl
set_option maxRecDepth 20000 in
theorem ac_char : Cond.arrayClass .char ∈ GW := inG (mt1 (List.mem_of_getElem? (i := 154) rfl)) rfl
set_option maxRecDepth 20000 in
theorem cqL_83 : Cond.constantLong RL 83 (71) ∈ GW := inG (mt2 (List.mem_of_getElem? (i := 145) rfl)) rfl
set_option maxRecDepth 20000 in
theorem cqL_85 : Cond.constantLong RL 85 (31) ∈ GW := inG (mt2 (List.mem_of_getElem? (i := 146) rfl)) rfl
set_option maxRecDepth 20000 in
theorem cqL_90 : Cond.constantLong RL 90 (100) ∈ GW := inG (mt2 (List.mem_of_getElem? (i := 198) rfl)) rfl
set_option maxRecDepth 20000 in
theorem clL_23 : Cond.classLink RL 23 "java/lang/IllegalArgumentException" ∈ GW := inG (mt2 (List.mem_of_getElem? (i := 150) rfl)) rfl
set_option maxRecDepth 20000 in
theorem clX11_206 : Cond.classLink RX11 206 "java/lang/IllegalArgumentException" ∈ GW := inG (mt2 (List.mem_of_getElem? (i := 158) rfl)) rfl
set_option maxRecDepth 20000 in
theorem gi_IllegalArgumentException : Cond.initialized "java/lang/IllegalArgumentException" ∈ GW := inG (mt1 (List.mem_of_getElem? (i := 16) rfl)) rfl
set_option maxRecDepth 20000 in
theorem clL_16 : Cond.classLink RL 16 "java/lang/IndexOutOfBoundsException" ∈ GW := inG (mt2 (List.mem_of_getElem? (i := 202) rfl)) rfl
set_option maxRecDepth 20000 in
theorem clX11_170 : Cond.classLink RX11 170 "java/lang/IndexOutOfBoundsException" ∈ GW := inG (mt2 (List.mem_of_getElem? (i := 213) rfl)) rfl
set_option maxRecDepth 20000 in
theorem gi_IndexOutOfBoundsException : Cond.initialized "java/lang/IndexOutOfBoundsException" ∈ GW := inG (mt1 (List.mem_of_getElem? (i := 18) rfl)) rfl
set_option maxRecDepth 20000 in
theorem clL_18 : Cond.classLink RL 18 "java/lang/IllegalStateException" ∈ GW := inG (mt2 (List.mem_of_getElem? (i := 22) rfl)) rfl
set_option maxRecDepth 20000 in
theorem clX11_87 : Cond.classLink RX11 87 "java/lang/IllegalStateException" ∈ GW := inG (mt2 (List.mem_of_getElem? (i := 31) rfl)) rfl
set_option maxRecDepth 20000 in
theorem gi_IllegalStateException : Cond.initialized "java/lang/IllegalStateException" ∈ GW := inG (mt1 (List.mem_of_getElem? (i := 19) rfl)) rfl
set_option maxRecDepth 20000 in
theorem cfL_158 : Cond.constantFloat RL 158 (1120403456) ∈ GW := inG (mt4 (List.mem_of_getElem? (i := 52) rfl)) rfl
set_option maxRecDepth 20000 in
theorem cfX11_332 : Cond.constantFloat RX11 332 (1120403456) ∈ GW := inG (mt4 (List.mem_of_getElem? (i := 51) rfl)) rfl
set_option maxRecDepth 20000 in
theorem gi_Math : Cond.initialized "java/lang/Math" ∈ GW := inG (mt1 (List.mem_of_getElem? (i := 20) rfl)) rfl
set_option maxRecDepth 20000 in
theorem gMstat_max : Cond.static Lib.Math.max.name ∈ GW := inG (mt4 (List.mem_of_getElem? (i := 108) rfl)) rfl
set_option maxRecDepth 20000 in
theorem gMcode_max : Cond.code Lib.Math.max.name Lib.Math.max.code 2 (some .int) ∈ GW := inG (mt4 (List.mem_of_getElem? (i := 109) rfl)) rfl
set_option maxRecDepth 20000 in
theorem gMstat_min : Cond.static Lib.Math.min.name ∈ GW := inG (mt4 (List.mem_of_getElem? (i := 105) rfl)) rfl
set_option maxRecDepth 20000 in
theorem gMcode_min : Cond.code Lib.Math.min.name Lib.Math.min.code 2 (some .int) ∈ GW := inG (mt4 (List.mem_of_getElem? (i := 106) rfl)) rfl
set_option maxRecDepth 20000 in
theorem gMstat_abs : Cond.static Lib.Math.abs.name ∈ GW := inG (mt4 (List.mem_of_getElem? (i := 97) rfl)) rfl
set_option maxRecDepth 20000 in
theorem gMcode_abs : Cond.code Lib.Math.abs.name Lib.Math.abs.code 1 (some .int) ∈ GW := inG (mt4 (List.mem_of_getElem? (i := 98) rfl)) rfl
set_option maxRecDepth 20000 in
theorem gOi_inst : Cond.instanceMethod objectInit ∈ GW := inG (mt1 (List.mem_of_getElem? (i := 27) rfl)) rfl
set_option maxRecDepth 20000 in
theorem gOi_code : Cond.code objectInit ⟨#[0xb1]⟩ 1 none ∈ GW := inG (mt1 (List.mem_of_getElem? (i := 28) rfl)) rfl
end
section
/-! A SMALL MACHINE OVER THE KIT'S ROWS. Values are integers (what the int is the residue of), or addresses of the claim's own cells, numbered in the order in which they are made; a world is what each cell holds at each place. 'Go' is the kit's W with all that does not change put away; 'Ev' is a method's contract, told by what its caller does next. -/
abbrev Vl : Type := Int ⊕ Nat ⊕ Int ⊕ UInt64 ⊕ UInt32 ⊕ Unit
abbrev vi (z : Int) : Vl := .inl z
abbrev vr (a : Nat) : Vl := .inr (.inl a)
abbrev vl (z : Int) : Vl := .inr (.inr (.inl z))
abbrev vd (x : UInt64) : Vl := .inr (.inr (.inr (.inl x)))
abbrev vf (x : UInt32) : Vl := .inr (.inr (.inr (.inr (.inl x))))
abbrev vo : Vl := .inr (.inr (.inr (.inr (.inr ()))))
abbrev Wd : Type := Nat → Nat → Int
/-- the launch; the first own cell; the cells that were there before; the kinds of objects; of arrays; the script -/
abbrev Gm : Type := Launch × Nat × (Nat → Nat) × va_G × (Nat → ClassId) × Nat × (Nat → Int32) × Option Nat
def Gb (G : Gm) : Nat := G.2.1
def Gs (G : Gm) : Nat → Nat := G.2.2.1
def GD (G : Gm) : va_G := G.2.2.2.1
def Gc (G : Gm) : Nat → ClassId := G.2.2.2.2.1
def GL (G : Gm) : Nat := G.2.2.2.2.2.1
def Gx (G : Gm) : Nat → Int32 := G.2.2.2.2.2.2.1
def Gn (G : Gm) : Option Nat := G.2.2.2.2.2.2.2
def rho (G : Gm) (a : Nat) : Nat := if a < 1000 then Gb G + (a - 1) else Gs G a
def cv (G : Gm) : Vl → Value
  | .inl z => .int (Int32.ofInt z)
  | .inr (.inl a) => .ref (rho G a)
  | .inr (.inr (.inl z)) => .long (Int64.ofInt z)
  | .inr (.inr (.inr (.inl x))) => .double x
  | .inr (.inr (.inr (.inr (.inl x)))) => .float x
  | .inr (.inr (.inr (.inr (.inr _)))) => va_rf (Gn G)
def ownA (G : Gm) : Nat → Prop := fun q => Gb G ≤ q
/-- what each own cell is: 1 an object of a kind, 2 ints, 3 chars, 4 booleans, 5 trails, 6 saved states, 7 longs, 8 doubles -/
def SHl : List (Nat × Nat) := [(0,0),(1,10),(1,0),(5,5),(2,100),(2,100),(1,8),(2,60),(1,8),(2,60),(1,8),(2,60),(1,8),(2,60),(1,8),(2,60),(1,1),(6,6),(1,4),(2,100),(2,5),(1,4),(2,100),(2,5),(1,4),(2,100),(2,5),(1,4),(2,100),(2,5),(1,4),(2,100),(2,5),(1,4),(2,100),(2,5),(1,7),(6,2),(4,2),(1,4),(2,100),(2,5),(1,4),(2,100),(2,5),(1,2),(3,70),(1,8),(2,60),(1,9),(2,60),(1,5),(4,100),(1,3),(2,100),(2,100),(4,100),(2,100),(1,6),(2,60),(2,60),(2,60),(2,60),(1,6),(2,60),(2,60),(2,60),(2,60),(2,9),(2,60)]
def SH (a : Nat) : Nat × Nat := SHl.getD a (0, 0)
def NA : Nat := 69
/-- the fields of a kind: which are references -/
def ftl (ci : Nat) : List Bool := match ci with
  | 0 => [true, false, false, false, false, true, true, false]
  | 1 => [true, false, false]
  | 2 => [true, false]
  | 3 => [true, true, true, true, false]
  | 4 => [true, true, false, false, false, false]
  | 5 => [true]
  | 6 => [true, true, true, true, false]
  | 7 => [true, true]
  | 8 => [true, false]
  | 9 => [true]
  | 10 => [true, true, true, true, true, true, true, true, true, true]
  | _ => []
/-- where the references of an own cell lead, once all are made -/
def RF (a k : Nat) : Nat := match SH a with
  | (1, 0) => if k = 0 then 3 else k - 1
  | (1, 3) => a + 1 + k
  | (1, 4) => a + 1 + k
  | (1, 6) => a + 1 + k
  | (1, 7) => a + 1 + k
  | (1, 10) => [2, 16, 36, 45, 47, 49, 51, 53, 58, 63].getD k 0
  | (1, _) => a + 1
  | (6, 6) => a + 1 + 3 * k
  | _ => a + 2 + 3 * k
/-- a reference that stays, once all are made -/
def rv (nx : Option Nat) (w : Wd) (a k : Nat) : Int := match nx with
  | none => (RF a k : Int)
  | some _ => w a k
def rfo (G : Gm) (z : Int) : Option Nat := if z = 0 then none else some (rho G z.toNat)
def fldv (G : Gm) (b : Bool) (z : Int) : Value := if b then va_rf (rfo G z) else .int (Int32.ofInt z)
def flds (G : Gm) (nx : Option Nat) (w : Wd) (a ci : Nat) : List Value := (ftl ci).mapIdx fun k b => fldv G b (if b then rv nx w a k else w a k)
def cont (G : Gm) (nx : Option Nat) (w : Wd) (a : Nat) : va_E := match (SH a).1 with
  | 1 => .inr ((SH a).2, flds G nx w a (SH a).2)
  | 2 => .inl (Gc G 2, (SH a).2, .inl (fun j => Int32.ofInt (w a j)))
  | 3 => .inl (Gc G 3, (SH a).2, .inl (fun j => Int32.ofInt (w a j)))
  | 4 => .inl (Gc G 4, (SH a).2, .inl (fun j => Int32.ofInt (w a j)))
  | 5 => .inl (Gc G 5, (SH a).2, .inr (.inr (.inr (.inr (fun j => rfo G (w a j))))))
  | 6 => .inl (Gc G 6, (SH a).2, .inr (.inr (.inr (.inr (fun j => rfo G (rv nx w a j))))))
  | 7 => .inl (Gc G 7, (SH a).2, .inr (.inl (fun j => Int64.ofInt (w a j))))
  | 8 => .inl (Gc G 8, (SH a).2, .inr (.inr (.inr (.inl (fun j => UInt64.ofNat (w a j).toNat)))))
  | _ => .inl (0, 0, .inl (fun _ => 0))
/-- how many own cells there are: all, or those below the next one -/
def cnt (nx : Option Nat) : Nat := match nx with
  | none => NA
  | some n => n - 1
def okx (nx : Option Nat) (a : Nat) : Prop := match nx with
  | none => True
  | some n => a < n
def wl (G : Gm) (nx : Option Nat) (w : Wd) : va_W := (List.range (cnt nx)).map fun i => (rho G (i + 1), cont G nx w (i + 1))
def wholds (G : Gm) (nx : Option Nat) (w : Wd) (H : Heap) : Prop := va_P (GD G) vwCl (wl G nx w) H ∧ ∀ n, nx = some n → 1 ≤ n ∧ n ≤ NA + 1 ∧ H.size = Gb G + (n - 1)
def up (w : Wd) (a k : Nat) (z : Int) : Wd := fun b j => if b = a ∧ j = k then z else w b j
theorem up_s {w : Wd} {a k : Nat} {z : Int} : up w a k z a k = z := by simp [up]
theorem up_a {w : Wd} {a k b j : Nat} {z : Int} (h : b ≠ a) : up w a k z b j = w b j := by simp [up, h]
theorem up_k {w : Wd} {a k b j : Nat} {z : Int} (h : j ≠ k) : up w a k z b j = w b j := by simp [up, h]
theorem SHl_len : SHl.length = 70 := rfl
theorem SH_lt {a k n : Nat} (h : SH a = (k, n)) (hk : k ≠ 0) : 1 ≤ a ∧ a ≤ NA := by
  have h1 : a < SHl.length := by
    rcases Nat.lt_or_ge a SHl.length with q | q
    · exact q
    · rw [SH, List.getD_eq_getElem?_getD, List.getElem?_eq_none q] at h
      cases h
      exact absurd rfl hk
  rw [SHl_len] at h1
  refine ⟨?_, by unfold NA; omega⟩
  rcases Nat.eq_zero_or_pos a with q | q
  · subst q
    have : (0, 0) = (k, n) := h
    cases this
    exact absurd rfl hk
  · exact q
theorem okx_cnt {nx : Option Nat} {a k n : Nat} (h : SH a = (k, n)) (hk : k ≠ 0) (hx : okx nx a) : 1 ≤ a ∧ a - 1 < cnt nx := by
  have := SH_lt h hk
  refine ⟨this.1, ?_⟩
  cases nx with
  | none => show a - 1 < NA; omega
  | some n => have hx : a < n := hx; show a - 1 < n - 1; omega
theorem wl_at (G : Gm) {nx : Option Nat} (w : Wd) {a : Nat} (h1 : 1 ≤ a) (h2 : a - 1 < cnt nx) : (wl G nx w)[a - 1]? = some (rho G a, cont G nx w a) := by
  have e : a - 1 + 1 = a := by omega
  unfold wl
  rw [List.getElem?_map, List.getElem?_range h2]
  simp [e]
theorem wl_len (G : Gm) (nx : Option Nat) (w : Wd) : (wl G nx w).length = cnt nx := by simp [wl]
/-- one cell is written -/
theorem wl_set (G : Gm) {nx : Option Nat} {w w' : Wd} {a : Nat} {E : va_E} (h1 : 1 ≤ a) (h2 : a - 1 < cnt nx) (he : cont G nx w' a = E) (ho : ∀ b, b ≠ a → cont G nx w' b = cont G nx w b) : (wl G nx w).set (a - 1) (rho G a, E) = wl G nx w' := by
  apply List.ext_getElem?
  intro i
  by_cases hi : i = a - 1
  · subst hi
    rw [List.getElem?_set_self (by rw [wl_len]; exact h2), wl_at G w' h1 h2, he]
  · rw [List.getElem?_set_ne (Ne.symm hi)]
    unfold wl
    rw [List.getElem?_map, List.getElem?_map]
    cases hr : (List.range (cnt nx))[i]? with
    | none => rfl
    | some j =>
      have : j = i := by
        have := List.getElem?_eq_some_iff.mp hr
        obtain ⟨h, e⟩ := this
        rw [List.getElem_range] at e
        exact e.symm
      subst this
      simp only [Option.map_some]
      rw [ho (j + 1) (by omega)]
theorem cnt_le {nx : Option Nat} {n : Nat} (h : nx = some n → n ≤ NA + 1) : True := trivial
theorem rho_own (G : Gm) {a : Nat} (h : a ≤ NA) : rho G a = Gb G + (a - 1) := by
  unfold rho
  rw [if_pos (by unfold NA at h; omega)]
theorem wl_D (G : Gm) {nx : Option Nat} (w : Wd) (hc : cnt nx ≤ NA) : va_D (ownA G) (wl G nx w) := by
  have key : ∀ (k : Nat) (q : Nat × va_E), (wl G nx w)[k]? = some q → k < cnt nx ∧ q.1 = Gb G + k := by
    intro k q hk
    have hl : k < cnt nx := by rw [← wl_len G nx w]; exact (List.getElem?_eq_some_iff.mp hk).1
    have := wl_at G (nx := nx) w (a := k + 1) (by omega) (by omega)
    rw [show k + 1 - 1 = k by omega] at this
    rw [this] at hk
    cases hk
    refine ⟨hl, ?_⟩
    show rho G (k + 1) = _
    rw [rho_own G (by omega)]
    omega
  refine ⟨fun i j p q hi hj h => ?_, fun k q hk => ?_⟩
  · have a1 := key i p hi
    have a2 := key j q hj
    omega
  · have := (key k q hk).2
    show Gb G ≤ q.1
    omega
theorem wholds_cnt {G : Gm} {nx : Option Nat} {w : Wd} {H : Heap} (h : wholds G nx w H) : cnt nx ≤ NA := by
  cases nx with
  | none => exact Nat.le_refl _
  | some n => have := h.2 n rfl; show n - 1 ≤ NA; omega
/-- the cell of an address -/
theorem wholds_at {G : Gm} {nx : Option Nat} {w : Wd} {H : Heap} (h : wholds G nx w H) {a k n : Nat} (hs : SH a = (k, n)) (hk : k ≠ 0) (hx : okx nx a) : va_at (GD G) vwCl (rho G a, cont G nx w a) H :=
  h.1 (a - 1) _ (wl_at G w (okx_cnt hs hk hx).1 (okx_cnt hs hk hx).2)
def inR (z : Int) : Prop := -2147483648 ≤ z ∧ z < 2147483648
theorem inR_toInt {z : Int} (h : inR z) : (Int32.ofInt z).toInt = z := Int32.toInt_ofInt_of_le h.1 h.2
theorem iI_le {a b : Int} (ha : inR a) (hb : inR b) : Int32.ofInt a ≤ Int32.ofInt b ↔ a ≤ b := by
  rw [Int32.le_iff_toInt_le, inR_toInt ha, inR_toInt hb]
theorem iI_lt {a b : Int} (ha : inR a) (hb : inR b) : Int32.ofInt a < Int32.ofInt b ↔ a < b := by
  rw [Int32.lt_iff_toInt_lt, inR_toInt ha, inR_toInt hb]
theorem iI_eq {a b : Int} (ha : inR a) (hb : inR b) : Int32.ofInt a = Int32.ofInt b ↔ a = b := by
  rw [← Int32.toInt_inj, inR_toInt ha, inR_toInt hb]
theorem iI_nat (n : Nat) : Int32.ofInt (n : Int) = nI n := rfl
theorem iI_0 : Int32.ofInt 0 = 0 := rfl
theorem iI_in {z : Int} {n : Nat} (h0 : 0 ≤ z) (h : z < n) (hn : n < 2 ^ 31) : vp_in (Int32.ofInt z) n ∧ (Int32.ofInt z).toNatClampNeg = z.toNat := by
  obtain ⟨k, rfl⟩ := Int.eq_ofNat_of_zero_le h0
  have hk : k < n := by omega
  exact ⟨vp_in_nI hk hn, by rw [iI_nat, nI_clamp (by omega)]; rfl⟩
end
section
/-- the static arrays of the lattice's steps -/
def tabA (j : Nat) : Int := [0, 1, 0, -1].getD j 0
def tabB (j : Nat) : Int := [-1, 0, 1, 0].getD j 0
/-- the texts of the exceptions, and where they stand -/
def txs : List (String × Nat × String) := [(RX11, 89, "the site is not free, or there are 5 paths"), (RX11, 123, "the path has only one site"), (RX11, 165, "the heads are not neighbours, or there are more than 60 sites"), (RX11, 172, "the site is the head already"), (RX11, 175, "there are 5 paths"), (RX11, 224, "no state is saved"), (RX11, 339, "there is no such site"), (RX11, 341, "there is no such path"), (RX11, 346, "the path has no such site"), (RX11, 348, "both paths are the same"), (RX11, 350, "the argument is out of range")]
def tyl (G : Gm) : List (ClassId × FieldType) := [(Gc G 2, .int), (Gc G 3, .char), (Gc G 4, .boolean), (Gc G 5, .object RX9), (Gc G 6, .object RX5)]
def urdl : List Int32 := [85, 82, 68, 76]
def exn (k : Nat) : String := match k with
  | 1 => "java/lang/IndexOutOfBoundsException"
  | 2 => "java/lang/IllegalStateException"
  | _ => "java/lang/IllegalArgumentException"
/-- the links to what is hidden in a nest mate -/
def nestM : List (String × Nat × MethodName) := [(RX0, 24, yX9_init), (RX1, 17, yX5_init), (RX8, 21, yX5_init), (RX11, 32, yX3_init), (RX11, 39, yX9_init), (RX11, 46, yX10_init), (RX11, 53, yX6_init), (RX11, 60, yX4_init), (RX11, 67, yX7_init)]
def nestF : List (String × Nat × String × String × String) := [(RX5, 25, RX0, "trails", "[LLatticePaths$Trail;"), (RX5, 18, RX0, "pathCount", "I"), (RX5, 39, RX0, "stepsMade", "I"), (RX5, 43, RX0, "refusals", "I"), (RX5, 47, RX0, "turnsMade", "I")]
def kEq (k : Nat) : Prop := 1 ≤ k ∧ k ≤ 3
/-- the inherited constructors that the exceptions go through -/
def declY : List MethodName := [Bundle.initS "java/lang/RuntimeException", Bundle.initS "java/lang/Exception", Bundle.initS Bundle.tN]
/-- what a state's tables say, and the cells that were there before -/
def KS (G : Gm) (U : State) (H : Heap) : Prop :=
  va_K (GD G) vwCl (tyl G) U ∧
  vx_Zq Bundle.tN "UNASSIGNED_STACK" Bundle.steD (ownA G) U H ∧ vx_Zq Bundle.tN "SUPPRESSED_SENTINEL" Bundle.listD (ownA G) U H ∧
  (va_Z RX2 "ACROSS" "[I" (.ref (Gs G 1001)) (ownA G) U H ∧ va_T .int (Gs G 1001) 4 (fun j => .int (Int32.ofInt (tabA j))) (ownA G) U H) ∧
  (va_Z RX2 "ALONG" "[I" (.ref (Gs G 1002)) (ownA G) U H ∧ va_T .int (Gs G 1002) 4 (fun j => .int (Int32.ofInt (tabB j))) (ownA G) U H) ∧
  (∀ q ∈ txs, ∃ a, vk_R q.1 q.2.1 q.2.2 a U) ∧
  True ∧
  (va_X (Gs G 1000) (GL G) (Gx G) U H ∧ ¬ ownA G (Gs G 1000)) ∧
  ((∀ q ∈ nestM, va_Nw (.methodLinkNest q.1 q.2.1 q.2.2 "LatticePaths") U) ∧ va_AO RX9 U ∧ va_AO RX5 U) ∧ (∀ q ∈ nestF, va_Nw (.fieldLinkNest q.1 q.2.1 q.2.2.1 q.2.2.2.1 q.2.2.2.2 "LatticePaths") U) ∧
  ((∀ k, kEq k → va_Nw (.castable (exn k) (exn k)) U) ∧ ∀ y ∈ declY, va_Nw (.declares y) U) ∧ (∀ k j, kEq k → kEq j → k ≠ j → va_Nc (exn k) (exn j) U)
theorem KS.go {G : Gm} {s U : State} {H1 : Heap} (h : KS G s s.heap) (hW : s.WarmedH U.vm) (hq : ∀ a : Nat, a < s.heap.size → ¬ ownA G a → H1[a]? = s.heap[a]?) : KS G U H1 := by
  obtain ⟨h1, h2, h3, ⟨h4, h5⟩, ⟨h6, h7⟩, h8, h9, ⟨h15, h16⟩, h17, h18, h19, h20⟩ := h
  have hv := hW.alike
  refine ⟨h1.moved hv, (h2.moved hv).kept hq, (h3.moved hv).kept hq, ⟨(h4.moved hv).kept hq, (h5.moved hv).kept hq⟩, ⟨(h6.moved hv).kept hq, (h7.moved hv).kept hq⟩, fun q hm => ?_, h9, ⟨?_, h16⟩, ⟨fun q hm => (h17.1 q hm).warmM hW, h17.2.1.moved hv, h17.2.2.moved hv⟩, fun q hm => (h18 q hm).warmF hW, ⟨fun k hk => (h19.1 k hk).warmC hW, fun y hy => (h19.2 y hy).warmD hW⟩, fun k j a b c => (h20 k j a b c).moved hv⟩
  · obtain ⟨a, ha⟩ := h8 q hm
    exact ⟨a, ha.warm hW⟩
  · refine va_X.moved hv (h15.kept (hq _ ?_ h16))
    obtain ⟨scr, e1, -⟩ := h15
    exact (Array.getElem?_eq_some_iff.mp e1).1
theorem KS.calling {G : Gm} {U : State} {H1 : Heap} (g : JFrame) (mk : MethodId) (a : Array Value) (h : KS G U H1) : KS G (U.calling g mk a) H1 := by
  obtain ⟨h1, h2, h3, ⟨h4, h5⟩, ⟨h6, h7⟩, h8, h9, ⟨h15, h16⟩, h17, h18, h19, h20⟩ := h
  have hv : U.vm.Alike (U.calling g mk a).vm := Vm.Alike.refl U.vm
  refine ⟨h1.moved hv, h2.moved hv, h3.moved hv, ⟨h4.moved hv, h5.moved hv⟩, ⟨h6.moved hv, h7.moved hv⟩, fun q hm => ?_, h9, ⟨h15.moved hv, h16⟩, ⟨fun q hm => (h17.1 q hm).same rfl rfl, h17.2.1.moved hv, h17.2.2.moved hv⟩, fun q hm => (h18 q hm).same rfl rfl, ⟨fun k hk => (h19.1 k hk).same rfl rfl, fun y hy => (h19.2 y hy).same rfl rfl⟩, fun k j a b c => (h20 k j a b c).moved hv⟩
  obtain ⟨a, ha⟩ := h8 q hm
  exact ⟨a, ha.same rfl⟩
/-- the locals -/
def lsOK (G : Gm) (la : Array Slot) (ls : List (Option Vl)) : Prop := la.size = ls.length ∧ lv_wf la ∧ ∀ (i : Nat) (v : Vl), ls[i]? = some (some v) → la[i]? = some (.val (cv G v))
/-- what holds all through a method's body -/
def Cx (G : Gm) (cc : ByteArray) (mt : Mt) (d : Nat) (p : Program) (R : Room) (s : State) (m : MethodId) (args : Array Value) (meth : Method) (c : Code) (nl : Nat) : Prop :=
  p.tables.exec = Jvm.exec ∧ c.code = cc ∧ meth.sig.returnType = mt.1 ∧ s.vm.findClass mt.2.1 = some m.cls ∧ (∀ w ∈ GW, w.before args s = true) ∧ meth.locks = false ∧ (mt.2.2.1 = true → meth.name = "<init>") ∧ c.maxLocals = nl ∧ d ≤ R.frames ∧ 40 * d ≤ R.locals ∧ KS G s s.heap ∧ G.1.stackTraces = false ∧ Gb G ≤ s.heap.size ∧ c.exceptionTable.toList = tableOf mt.2.2.2
/-- an instruction that returns v, the stack at it -/
def RetI (G : Gm) (mt : Mt) (cc : ByteArray) (pc : Nat) (v : Vl) (st : List Value) : Prop :=
  (mt.1 = none ∧ decode cc pc = .ok (.return_, 1) ∧ v = vi 0 ∧ st = []) ∨
  (∃ (z : Int) (ty : FieldType), v = vi z ∧ mt.1 = some ty ∧ narrow ty (.int (Int32.ofInt z)) = .int (Int32.ofInt z) ∧ decode cc pc = .ok (.ireturn, 1) ∧ st = [.int (Int32.ofInt z)]) ∨
  (∃ (a : Nat), v = vr a ∧ (∃ n, mt.1 = some (.object n)) ∧ decode cc pc = .ok (.areturn, 1) ∧ st = [.ref (rho G a)]) ∨
  (∃ (x : UInt64), v = vd x ∧ mt.1 = some .double ∧ decode cc pc = .ok (.dreturn, 1) ∧ st = [.double x]) ∨
  (∃ (x : UInt32), v = vf x ∧ mt.1 = some .float ∧ decode cc pc = .ok (.freturn, 1) ∧ st = [.float x])
abbrev Kt : Type := Vl → Option Nat → Wd → Prop
abbrev Xt : Type := Nat → Option Nat → Wd → Prop
def EndK (G : Gm) (cc : ByteArray) (mt : Mt) (p : Program) (e : Env) (R : Room) (s : State) (m : MethodId) (args : Array Value) (below : List Frame) (meth : Method) (c : Code) (Q : State → Prop) (K : Kt) : Prop :=
  ∀ (v : Vl) (nx : Option Nat) (w : Wd) (H : Heap) (locs : List Loc) (cells slots : Nat) (la : Array Slot) (pc : Nat) (st : List Value), K v nx w → wholds G nx w H → va_S (ownA G) s.heap H locs → cells ≤ R.cells → slots ≤ R.slots → RetI G mt cc pc v st →
    W p G.1 e R s m args below meth c H locs cells slots Q (F0 m pc la st)
def EndX (G : Gm) (R : Room) (s : State) (args : Array Value) (below : List Frame) (c : Code) (Q : State → Prop) (X : Xt) : Prop :=
  (∀ k nx w, ¬ X k nx w) ∨ ∃ (Qc : Array Value → State → Outcome → State → Prop) (XC : String → State → State → Prop) (mc ms : Nat), Q = vx_MQ below Qc XC args s mc ms (ownA G) ∧ R.cells ≤ mc ∧ R.slots ≤ ms ∧ (∀ x ∈ c.exceptionTable.toList, False) ∧
    ∀ (k : Nat) (nx : Option Nat) (w : Wd) (t : State), X k nx w → wholds G nx w t.heap → va_F (ownA G) s t → XC (exn k) s t
def Go (G : Gm) (cc : ByteArray) (mt : Mt) (nx : Option Nat) (d bc bs pc : Nat) (ls : List (Option Vl)) (st : List Vl) (w : Wd) (K : Kt) (X : Xt) : Prop :=
  ∀ (p : Program) (e : Env) (R : Room) (s : State) (m : MethodId) (args : Array Value) (below : List Frame) (meth : Method) (c : Code) (Q : State → Prop) (H : Heap) (locs : List Loc) (cells slots : Nat) (la : Array Slot),
    Cx G cc mt d p R s m args meth c ls.length → EndK G cc mt p e R s m args below meth c Q K → EndX G R s args below c Q X →
    lsOK G la ls → wholds G nx w H → va_S (ownA G) s.heap H locs → cells + bc ≤ R.cells → slots + bs ≤ R.slots →
    W p G.1 e R s m args below meth c H locs cells slots Q (F0 m pc la (st.map (cv G)))
theorem inR_0 : inR 0 := ⟨by decide, by decide⟩
section GoRules
variable {G : Gm} {cc : ByteArray} {mt : Mt} {nx : Option Nat} {d bc bs pc : Nat} {ls : List (Option Vl)} {st : List Vl} {w : Wd} {K : Kt} {X : Xt}
theorem Go_iconst {n : Int} (dec : decode cc pc = .ok (.iconst n, 1)) (k : Go G cc mt nx d bc bs (pc + 1) ls (vi n :: st) w K X) : Go G cc mt nx d bc bs pc ls st w K X := by
  intro p e R s m args below meth c Q H locs cells slots la C EK EX hl hw hS h1 h2
  exact lv_iconst C.1 C.2.1 dec rfl (k p e R s m args below meth c Q H locs cells slots la C EK EX hl hw hS h1 h2)
theorem Go_bipush {n : Int} (dec : decode cc pc = .ok (.bipush n, 2)) (hn : (Int8.ofInt n).toInt32 = Int32.ofInt n := by decide +kernel) (k : Go G cc mt nx d bc bs (pc + 2) ls (vi n :: st) w K X) : Go G cc mt nx d bc bs pc ls st w K X := by
  intro p e R s m args below meth c Q H locs cells slots la C EK EX hl hw hS h1 h2
  exact lv_bipush C.1 C.2.1 dec hn (k p e R s m args below meth c Q H locs cells slots la C EK EX hl hw hS h1 h2)
theorem Go_sipush {n : Int} (dec : decode cc pc = .ok (.sipush n, 3)) (hn : (Int16.ofInt n).toInt32 = Int32.ofInt n := by decide +kernel) (k : Go G cc mt nx d bc bs (pc + 3) ls (vi n :: st) w K X) : Go G cc mt nx d bc bs pc ls st w K X := by
  intro p e R s m args below meth c Q H locs cells slots la C EK EX hl hw hS h1 h2
  exact lv_sipush C.1 C.2.1 dec hn (k p e R s m args below meth c Q H locs cells slots la C EK EX hl hw hS h1 h2)
theorem Go_iload_n {j : Fin 4} {i : Nat} {z : Int} (dec : decode cc pc = .ok (.iload_n j, 1)) (hi : (j : Nat) = i) (h : ls[i]? = some (some (vi z))) (k : Go G cc mt nx d bc bs (pc + 1) ls (vi z :: st) w K X) : Go G cc mt nx d bc bs pc ls st w K X := by
  intro p e R s m args below meth c Q H locs cells slots la C EK EX hl hw hS h1 h2
  exact lv_iload_n C.1 C.2.1 dec hi (hl.2.2 i _ h) (k p e R s m args below meth c Q H locs cells slots la C EK EX hl hw hS h1 h2)
theorem Go_iload {i : Nat} {z : Int} (dec : decode cc pc = .ok (.iload i, 2)) (h : ls[i]? = some (some (vi z))) (k : Go G cc mt nx d bc bs (pc + 2) ls (vi z :: st) w K X) : Go G cc mt nx d bc bs pc ls st w K X := by
  intro p e R s m args below meth c Q H locs cells slots la C EK EX hl hw hS h1 h2
  exact lv_iload C.1 C.2.1 dec (hl.2.2 i _ h) (k p e R s m args below meth c Q H locs cells slots la C EK EX hl hw hS h1 h2)
theorem Go_aload_n {j : Fin 4} {i a : Nat} (dec : decode cc pc = .ok (.aload_n j, 1)) (hi : (j : Nat) = i) (h : ls[i]? = some (some (vr a))) (k : Go G cc mt nx d bc bs (pc + 1) ls (vr a :: st) w K X) : Go G cc mt nx d bc bs pc ls st w K X := by
  intro p e R s m args below meth c Q H locs cells slots la C EK EX hl hw hS h1 h2
  exact lv_aload_n C.1 C.2.1 dec hi (hl.2.2 i _ h) (k p e R s m args below meth c Q H locs cells slots la C EK EX hl hw hS h1 h2)
theorem Go_aload {i a : Nat} (dec : decode cc pc = .ok (.aload i, 2)) (h : ls[i]? = some (some (vr a))) (k : Go G cc mt nx d bc bs (pc + 2) ls (vr a :: st) w K X) : Go G cc mt nx d bc bs pc ls st w K X := by
  intro p e R s m args below meth c Q H locs cells slots la C EK EX hl hw hS h1 h2
  exact lv_aload C.1 C.2.1 dec (hl.2.2 i _ h) (k p e R s m args below meth c Q H locs cells slots la C EK EX hl hw hS h1 h2)
theorem Go_iadd {a b : Int} (dec : decode cc pc = .ok (.iadd, 1)) (k : Go G cc mt nx d bc bs (pc + 1) ls (vi (a + b) :: st) w K X) : Go G cc mt nx d bc bs pc ls (vi b :: vi a :: st) w K X := by
  intro p e R s m args below meth c Q H locs cells slots la C EK EX hl hw hS h1 h2
  have kk := k p e R s m args below meth c Q H locs cells slots la C EK EX hl hw hS h1 h2
  refine lv_iadd C.1 C.2.1 dec ?_
  rw [← Int32.ofInt_add]
  exact kk
theorem Go_isub {a b : Int} (dec : decode cc pc = .ok (.isub, 1)) (k : Go G cc mt nx d bc bs (pc + 1) ls (vi (a - b) :: st) w K X) : Go G cc mt nx d bc bs pc ls (vi b :: vi a :: st) w K X := by
  intro p e R s m args below meth c Q H locs cells slots la C EK EX hl hw hS h1 h2
  have kk := k p e R s m args below meth c Q H locs cells slots la C EK EX hl hw hS h1 h2
  refine lv_isub C.1 C.2.1 dec ?_
  rw [← Int32.ofInt_sub]
  exact kk
theorem Go_imul {a b : Int} (dec : decode cc pc = .ok (.imul, 1)) (k : Go G cc mt nx d bc bs (pc + 1) ls (vi (a * b) :: st) w K X) : Go G cc mt nx d bc bs pc ls (vi b :: vi a :: st) w K X := by
  intro p e R s m args below meth c Q H locs cells slots la C EK EX hl hw hS h1 h2
  have kk := k p e R s m args below meth c Q H locs cells slots la C EK EX hl hw hS h1 h2
  refine lv_imul C.1 C.2.1 dec ?_
  rw [← Int32.ofInt_mul]
  exact kk
theorem Go_ineg {a : Int} (dec : decode cc pc = .ok (.ineg, 1)) (k : Go G cc mt nx d bc bs (pc + 1) ls (vi (-a) :: st) w K X) : Go G cc mt nx d bc bs pc ls (vi a :: st) w K X := by
  intro p e R s m args below meth c Q H locs cells slots la C EK EX hl hw hS h1 h2
  have kk := k p e R s m args below meth c Q H locs cells slots la C EK EX hl hw hS h1 h2
  refine lv_ineg C.1 C.2.1 dec ?_
  rw [← Int32.ofInt_neg]
  exact kk
theorem Go_goto {off : Int} {tgt : Nat} (dec : decode cc pc = .ok (.goto off, 3)) (ht : (pc : Int) + off = (tgt : Int)) (k : Go G cc mt nx d bc bs tgt ls st w K X) : Go G cc mt nx d bc bs pc ls st w K X := by
  intro p e R s m args below meth c Q H locs cells slots la C EK EX hl hw hS h1 h2
  exact lv_goto C.1 C.2.1 dec ht (k p e R s m args below meth c Q H locs cells slots la C EK EX hl hw hS h1 h2)
theorem Go_dup {a : Nat} (dec : decode cc pc = .ok (.dup, 1)) (k : Go G cc mt nx d bc bs (pc + 1) ls (vr a :: vr a :: st) w K X) : Go G cc mt nx d bc bs pc ls (vr a :: st) w K X := by
  intro p e R s m args below meth c Q H locs cells slots la C EK EX hl hw hS h1 h2
  exact lv_dup C.1 C.2.1 dec rfl (k p e R s m args below meth c Q H locs cells slots la C EK EX hl hw hS h1 h2)
theorem Go_dup2 {a : Nat} {z : Int} (dec : decode cc pc = .ok (.dup2, 1)) (k : Go G cc mt nx d bc bs (pc + 1) ls (vi z :: vr a :: vi z :: vr a :: st) w K X) : Go G cc mt nx d bc bs pc ls (vi z :: vr a :: st) w K X := by
  intro p e R s m args below meth c Q H locs cells slots la C EK EX hl hw hS h1 h2
  exact lv_dup2_11 C.1 C.2.1 dec rfl rfl (k p e R s m args below meth c Q H locs cells slots la C EK EX hl hw hS h1 h2)
theorem Go_icmp_eq {a b : Int} {off : Int} {tgt : Nat} (dec : decode cc pc = .ok (.if_icmp .eq off, 3)) (ht : (pc : Int) + off = (tgt : Int)) (ha : inR a) (hb : inR b) (kt : a = b → Go G cc mt nx d bc bs tgt ls st w K X) (kf : ¬ (a = b) → Go G cc mt nx d bc bs (pc + 3) ls st w K X) : Go G cc mt nx d bc bs pc ls (vi b :: vi a :: st) w K X := by
  intro p e R s m args below meth c Q H locs cells slots la C EK EX hl hw hS h1 h2
  exact lv_icmp_eq C.1 C.2.1 dec ht (fun h => kt ((iI_eq ha hb).mp h) p e R s m args below meth c Q H locs cells slots la C EK EX hl hw hS h1 h2) (fun h => kf (fun q => h ((iI_eq ha hb).mpr q)) p e R s m args below meth c Q H locs cells slots la C EK EX hl hw hS h1 h2)
theorem Go_icmp_ne {a b : Int} {off : Int} {tgt : Nat} (dec : decode cc pc = .ok (.if_icmp .ne off, 3)) (ht : (pc : Int) + off = (tgt : Int)) (ha : inR a) (hb : inR b) (kt : ¬ a = b → Go G cc mt nx d bc bs tgt ls st w K X) (kf : a = b → Go G cc mt nx d bc bs (pc + 3) ls st w K X) : Go G cc mt nx d bc bs pc ls (vi b :: vi a :: st) w K X := by
  intro p e R s m args below meth c Q H locs cells slots la C EK EX hl hw hS h1 h2
  exact lv_icmp_ne C.1 C.2.1 dec ht (fun h => kt (fun q => h ((iI_eq ha hb).mpr q)) p e R s m args below meth c Q H locs cells slots la C EK EX hl hw hS h1 h2) (fun h => kf ((iI_eq ha hb).mp h) p e R s m args below meth c Q H locs cells slots la C EK EX hl hw hS h1 h2)
theorem Go_icmp_lt {a b : Int} {off : Int} {tgt : Nat} (dec : decode cc pc = .ok (.if_icmp .lt off, 3)) (ht : (pc : Int) + off = (tgt : Int)) (ha : inR a) (hb : inR b) (kt : a < b → Go G cc mt nx d bc bs tgt ls st w K X) (kf : ¬ (a < b) → Go G cc mt nx d bc bs (pc + 3) ls st w K X) : Go G cc mt nx d bc bs pc ls (vi b :: vi a :: st) w K X := by
  intro p e R s m args below meth c Q H locs cells slots la C EK EX hl hw hS h1 h2
  exact lv_icmp_lt C.1 C.2.1 dec ht (fun h => kt ((iI_lt ha hb).mp h) p e R s m args below meth c Q H locs cells slots la C EK EX hl hw hS h1 h2) (fun h => kf (fun q => h ((iI_lt ha hb).mpr q)) p e R s m args below meth c Q H locs cells slots la C EK EX hl hw hS h1 h2)
theorem Go_icmp_ge {a b : Int} {off : Int} {tgt : Nat} (dec : decode cc pc = .ok (.if_icmp .ge off, 3)) (ht : (pc : Int) + off = (tgt : Int)) (ha : inR a) (hb : inR b) (kt : b ≤ a → Go G cc mt nx d bc bs tgt ls st w K X) (kf : ¬ (b ≤ a) → Go G cc mt nx d bc bs (pc + 3) ls st w K X) : Go G cc mt nx d bc bs pc ls (vi b :: vi a :: st) w K X := by
  intro p e R s m args below meth c Q H locs cells slots la C EK EX hl hw hS h1 h2
  exact lv_icmp_ge C.1 C.2.1 dec ht (fun h => kt ((iI_le hb ha).mp h) p e R s m args below meth c Q H locs cells slots la C EK EX hl hw hS h1 h2) (fun h => kf (fun q => h ((iI_le hb ha).mpr q)) p e R s m args below meth c Q H locs cells slots la C EK EX hl hw hS h1 h2)
theorem Go_icmp_gt {a b : Int} {off : Int} {tgt : Nat} (dec : decode cc pc = .ok (.if_icmp .gt off, 3)) (ht : (pc : Int) + off = (tgt : Int)) (ha : inR a) (hb : inR b) (kt : b < a → Go G cc mt nx d bc bs tgt ls st w K X) (kf : ¬ (b < a) → Go G cc mt nx d bc bs (pc + 3) ls st w K X) : Go G cc mt nx d bc bs pc ls (vi b :: vi a :: st) w K X := by
  intro p e R s m args below meth c Q H locs cells slots la C EK EX hl hw hS h1 h2
  exact lv_icmp_gt C.1 C.2.1 dec ht (fun h => kt ((iI_lt hb ha).mp h) p e R s m args below meth c Q H locs cells slots la C EK EX hl hw hS h1 h2) (fun h => kf (fun q => h ((iI_lt hb ha).mpr q)) p e R s m args below meth c Q H locs cells slots la C EK EX hl hw hS h1 h2)
theorem Go_icmp_le {a b : Int} {off : Int} {tgt : Nat} (dec : decode cc pc = .ok (.if_icmp .le off, 3)) (ht : (pc : Int) + off = (tgt : Int)) (ha : inR a) (hb : inR b) (kt : a ≤ b → Go G cc mt nx d bc bs tgt ls st w K X) (kf : ¬ (a ≤ b) → Go G cc mt nx d bc bs (pc + 3) ls st w K X) : Go G cc mt nx d bc bs pc ls (vi b :: vi a :: st) w K X := by
  intro p e R s m args below meth c Q H locs cells slots la C EK EX hl hw hS h1 h2
  exact lv_icmp_le C.1 C.2.1 dec ht (fun h => kt ((iI_le ha hb).mp h) p e R s m args below meth c Q H locs cells slots la C EK EX hl hw hS h1 h2) (fun h => kf (fun q => h ((iI_le ha hb).mpr q)) p e R s m args below meth c Q H locs cells slots la C EK EX hl hw hS h1 h2)
theorem Go_if_eq {a : Int} {off : Int} {tgt : Nat} (dec : decode cc pc = .ok (.ifCond .eq off, 3)) (ht : (pc : Int) + off = (tgt : Int)) (ha : inR a) (kt : a = 0 → Go G cc mt nx d bc bs tgt ls st w K X) (kf : ¬ (a = 0) → Go G cc mt nx d bc bs (pc + 3) ls st w K X) : Go G cc mt nx d bc bs pc ls (vi a :: st) w K X := by
  intro p e R s m args below meth c Q H locs cells slots la C EK EX hl hw hS h1 h2
  exact lv_if_eq C.1 C.2.1 dec ht (fun h => kt ((iI_eq ha inR_0).mp h) p e R s m args below meth c Q H locs cells slots la C EK EX hl hw hS h1 h2) (fun h => kf (fun q => h ((iI_eq ha inR_0).mpr q)) p e R s m args below meth c Q H locs cells slots la C EK EX hl hw hS h1 h2)
theorem Go_if_ne {a : Int} {off : Int} {tgt : Nat} (dec : decode cc pc = .ok (.ifCond .ne off, 3)) (ht : (pc : Int) + off = (tgt : Int)) (ha : inR a) (kt : ¬ a = 0 → Go G cc mt nx d bc bs tgt ls st w K X) (kf : a = 0 → Go G cc mt nx d bc bs (pc + 3) ls st w K X) : Go G cc mt nx d bc bs pc ls (vi a :: st) w K X := by
  intro p e R s m args below meth c Q H locs cells slots la C EK EX hl hw hS h1 h2
  exact lv_if_ne C.1 C.2.1 dec ht (fun h => kt (fun q => h ((iI_eq ha inR_0).mpr q)) p e R s m args below meth c Q H locs cells slots la C EK EX hl hw hS h1 h2) (fun h => kf ((iI_eq ha inR_0).mp h) p e R s m args below meth c Q H locs cells slots la C EK EX hl hw hS h1 h2)
theorem Go_if_lt {a : Int} {off : Int} {tgt : Nat} (dec : decode cc pc = .ok (.ifCond .lt off, 3)) (ht : (pc : Int) + off = (tgt : Int)) (ha : inR a) (kt : a < 0 → Go G cc mt nx d bc bs tgt ls st w K X) (kf : ¬ (a < 0) → Go G cc mt nx d bc bs (pc + 3) ls st w K X) : Go G cc mt nx d bc bs pc ls (vi a :: st) w K X := by
  intro p e R s m args below meth c Q H locs cells slots la C EK EX hl hw hS h1 h2
  exact lv_if_lt C.1 C.2.1 dec ht (fun h => kt ((iI_lt ha inR_0).mp h) p e R s m args below meth c Q H locs cells slots la C EK EX hl hw hS h1 h2) (fun h => kf (fun q => h ((iI_lt ha inR_0).mpr q)) p e R s m args below meth c Q H locs cells slots la C EK EX hl hw hS h1 h2)
theorem Go_if_ge {a : Int} {off : Int} {tgt : Nat} (dec : decode cc pc = .ok (.ifCond .ge off, 3)) (ht : (pc : Int) + off = (tgt : Int)) (ha : inR a) (kt : 0 ≤ a → Go G cc mt nx d bc bs tgt ls st w K X) (kf : ¬ (0 ≤ a) → Go G cc mt nx d bc bs (pc + 3) ls st w K X) : Go G cc mt nx d bc bs pc ls (vi a :: st) w K X := by
  intro p e R s m args below meth c Q H locs cells slots la C EK EX hl hw hS h1 h2
  exact lv_if_ge C.1 C.2.1 dec ht (fun h => kt ((iI_le inR_0 ha).mp h) p e R s m args below meth c Q H locs cells slots la C EK EX hl hw hS h1 h2) (fun h => kf (fun q => h ((iI_le inR_0 ha).mpr q)) p e R s m args below meth c Q H locs cells slots la C EK EX hl hw hS h1 h2)
theorem Go_if_gt {a : Int} {off : Int} {tgt : Nat} (dec : decode cc pc = .ok (.ifCond .gt off, 3)) (ht : (pc : Int) + off = (tgt : Int)) (ha : inR a) (kt : 0 < a → Go G cc mt nx d bc bs tgt ls st w K X) (kf : ¬ (0 < a) → Go G cc mt nx d bc bs (pc + 3) ls st w K X) : Go G cc mt nx d bc bs pc ls (vi a :: st) w K X := by
  intro p e R s m args below meth c Q H locs cells slots la C EK EX hl hw hS h1 h2
  exact lv_if_gt C.1 C.2.1 dec ht (fun h => kt ((iI_lt inR_0 ha).mp h) p e R s m args below meth c Q H locs cells slots la C EK EX hl hw hS h1 h2) (fun h => kf (fun q => h ((iI_lt inR_0 ha).mpr q)) p e R s m args below meth c Q H locs cells slots la C EK EX hl hw hS h1 h2)
theorem Go_if_le {a : Int} {off : Int} {tgt : Nat} (dec : decode cc pc = .ok (.ifCond .le off, 3)) (ht : (pc : Int) + off = (tgt : Int)) (ha : inR a) (kt : a ≤ 0 → Go G cc mt nx d bc bs tgt ls st w K X) (kf : ¬ (a ≤ 0) → Go G cc mt nx d bc bs (pc + 3) ls st w K X) : Go G cc mt nx d bc bs pc ls (vi a :: st) w K X := by
  intro p e R s m args below meth c Q H locs cells slots la C EK EX hl hw hS h1 h2
  exact lv_if_le C.1 C.2.1 dec ht (fun h => kt ((iI_le ha inR_0).mp h) p e R s m args below meth c Q H locs cells slots la C EK EX hl hw hS h1 h2) (fun h => kf (fun q => h ((iI_le ha inR_0).mpr q)) p e R s m args below meth c Q H locs cells slots la C EK EX hl hw hS h1 h2)
end GoRules
end
section
section GoMem
variable {G : Gm} {cc : ByteArray} {mt : Mt} {nx : Option Nat} {d bc bs pc : Nat} {ls : List (Option Vl)} {st : List Vl} {w : Wd} {K : Kt} {X : Xt}
/-- a value of one slot, or none known -/
def c1 : Option Vl → Bool
  | some (.inr (.inr (.inl _))) => false
  | some (.inr (.inr (.inr (.inl _)))) => false
  | _ => true
theorem lsOK_list {G : Gm} {la : Array Slot} {ls : List (Option Vl)} (h : lsOK G la ls) : lv_has la ls.length ((List.range ls.length).filterMap fun i => (ls.getD i none).map fun v => (i, cv G v)) := by
  refine ⟨h.1, h.2.1, fun q hq => ?_⟩
  obtain ⟨i, hi, hv⟩ := List.mem_filterMap.mp hq
  cases hg : ls.getD i none with
  | none => rw [hg] at hv; cases hv
  | some v =>
    rw [hg] at hv
    cases hv
    refine h.2.2 i v ?_
    rw [List.getD_eq_getElem?_getD] at hg
    cases hx : ls[i]? with
    | none => rw [hx] at hg; cases hg
    | some y => rw [hx] at hg; exact congrArg some hg
theorem cv_cat1 {G : Gm} {v : Vl} (h : c1 (some v) = true) : (cv G v).category = 1 := by
  match v with
  | .inl z => rfl
  | .inr (.inl a) => rfl
  | .inr (.inr (.inr (.inr (.inl x)))) => rfl
  | .inr (.inr (.inr (.inr (.inr _)))) =>
    show (va_rf (Gn G)).category = 1
    cases Gn G <;> rfl
  | .inr (.inr (.inl z)) => cases h
  | .inr (.inr (.inr (.inl z))) => cases h
/-- one local of one slot is stored -/
theorem lsOK_store {G : Gm} {la : Array Slot} {ls : List (Option Vl)} {i : Nat} {v : Vl} (h : lsOK G la ls) (hi : i < ls.length) (hv : c1 (some v) = true) (hp : ∀ j : Nat, j + 1 = i → c1 (ls.getD j none) = true) :
    ∀ la' : Array Slot, lv_has la' ls.length ((i, cv G v) :: ((List.range ls.length).filterMap fun i => (ls.getD i none).map fun v => (i, cv G v)).filter (fun q => !(q.1 == i) && !(q.1 + 1 == i && q.2.category == 2))) → lsOK G la' (ls.set i (some v)) := by
  intro la' hl
  refine ⟨by rw [List.length_set]; exact hl.1, hl.2.1, fun j x hj => ?_⟩
  by_cases hji : j = i
  · subst hji
    rw [List.getElem?_set_self hi] at hj
    cases hj
    exact hl.2.2 _ List.mem_cons_self
  · rw [List.getElem?_set_ne (Ne.symm hji)] at hj
    have hjl : j < ls.length := (List.getElem?_eq_some_iff.mp hj).1
    refine hl.2.2 (j, cv G x) (List.mem_cons_of_mem _ (List.mem_filter.mpr ⟨List.mem_filterMap.mpr ⟨j, List.mem_range.mpr hjl, ?_⟩, ?_⟩))
    · rw [List.getD_eq_getElem?_getD, hj]
      rfl
    · simp only [Bool.and_eq_true, Bool.not_eq_true', beq_eq_false_iff_ne, ne_eq, Bool.and_eq_false_iff]
      refine ⟨hji, ?_⟩
      by_cases h1 : j + 1 = i
      · right
        have := hp j h1
        rw [List.getD_eq_getElem?_getD, hj] at this
        rw [cv_cat1 this]
        decide
      · exact Or.inl h1
theorem Go_istore_n {j : Fin 4} {i : Nat} {z : Int} {ls' : List (Option Vl)} (dec : decode cc pc = .ok (.istore_n j, 1)) (hi : (j : Nat) = i) (hl' : ls.set i (some (vi z)) = ls') (hn : i < ls.length) (hp : ∀ j : Nat, j + 1 = i → c1 (ls.getD j none) = true) (k : Go G cc mt nx d bc bs (pc + 1) ls' st w K X) : Go G cc mt nx d bc bs pc ls (vi z :: st) w K X := by
  intro p e R s m args below meth c Q H locs cells slots la C EK EX hl hw hS h1 h2
  subst hl'
  refine lv_istore_n C.1 C.2.1 dec hi (lsOK_list hl) hn rfl (fun la' hla => ?_)
  have hk := lsOK_store (v := vi z) hl hn rfl hp la' hla
  exact k p e R s m args below meth c Q H locs cells slots la' (by rw [List.length_set]; exact C) EK EX hk hw hS h1 h2
theorem Go_istore {i : Nat} {z : Int} {ls' : List (Option Vl)} (dec : decode cc pc = .ok (.istore i, 2)) (hl' : ls.set i (some (vi z)) = ls') (hn : i < ls.length) (hp : ∀ j : Nat, j + 1 = i → c1 (ls.getD j none) = true) (k : Go G cc mt nx d bc bs (pc + 2) ls' st w K X) : Go G cc mt nx d bc bs pc ls (vi z :: st) w K X := by
  intro p e R s m args below meth c Q H locs cells slots la C EK EX hl hw hS h1 h2
  subst hl'
  refine lv_istore C.1 C.2.1 dec (lsOK_list hl) hn rfl (fun la' hla => ?_)
  have hk := lsOK_store (v := vi z) hl hn rfl hp la' hla
  exact k p e R s m args below meth c Q H locs cells slots la' (by rw [List.length_set]; exact C) EK EX hk hw hS h1 h2
theorem Go_astore_n {j : Fin 4} {i a : Nat} {ls' : List (Option Vl)} (dec : decode cc pc = .ok (.astore_n j, 1)) (hi : (j : Nat) = i) (hl' : ls.set i (some (vr a)) = ls') (hn : i < ls.length) (hp : ∀ j : Nat, j + 1 = i → c1 (ls.getD j none) = true) (k : Go G cc mt nx d bc bs (pc + 1) ls' st w K X) : Go G cc mt nx d bc bs pc ls (vr a :: st) w K X := by
  intro p e R s m args below meth c Q H locs cells slots la C EK EX hl hw hS h1 h2
  subst hl'
  refine lv_astore_n C.1 C.2.1 dec hi (lsOK_list hl) hn rfl (fun la' hla => ?_)
  have hk := lsOK_store (v := vr a) hl hn rfl hp la' hla
  exact k p e R s m args below meth c Q H locs cells slots la' (by rw [List.length_set]; exact C) EK EX hk hw hS h1 h2
theorem Go_astore {i a : Nat} {ls' : List (Option Vl)} (dec : decode cc pc = .ok (.astore i, 2)) (hl' : ls.set i (some (vr a)) = ls') (hn : i < ls.length) (hp : ∀ j : Nat, j + 1 = i → c1 (ls.getD j none) = true) (k : Go G cc mt nx d bc bs (pc + 2) ls' st w K X) : Go G cc mt nx d bc bs pc ls (vr a :: st) w K X := by
  intro p e R s m args below meth c Q H locs cells slots la C EK EX hl hw hS h1 h2
  subst hl'
  refine lv_astore C.1 C.2.1 dec (lsOK_list hl) hn rfl (fun la' hla => ?_)
  have hk := lsOK_store (v := vr a) hl hn rfl hp la' hla
  exact k p e R s m args below meth c Q H locs cells slots la' (by rw [List.length_set]; exact C) EK EX hk hw hS h1 h2
/-- the place of a local among the listed ones -/
theorem lsOK_place {G : Gm} {la : Array Slot} {ls : List (Option Vl)} {i : Nat} {v : Vl} (h : ls[i]? = some (some v)) : ∃ k : Nat, ((List.range ls.length).filterMap fun i => (ls.getD i none).map fun v => (i, cv G v))[k]? = some (i, cv G v) := by
  have hi : i < ls.length := (List.getElem?_eq_some_iff.mp h).1
  refine List.getElem?_of_mem (List.mem_filterMap.mpr ⟨i, List.mem_range.mpr hi, ?_⟩)
  rw [List.getD_eq_getElem?_getD, h]
  rfl
theorem Go_iinc {i : Nat} {n z : Int} {ls' : List (Option Vl)} (dec : decode cc pc = .ok (.iinc i n, 3)) (h : ls[i]? = some (some (vi z))) (hl' : ls.set i (some (vi (z + n))) = ls') (hp : ∀ j : Nat, j + 1 = i → c1 (ls.getD j none) = true) (k : Go G cc mt nx d bc bs (pc + 3) ls' st w K X) : Go G cc mt nx d bc bs pc ls st w K X := by
  intro p e R s m args below meth c Q H locs cells slots la C EK EX hl hw hS h1 h2
  subst hl'
  have hn : i < ls.length := (List.getElem?_eq_some_iff.mp h).1
  obtain ⟨k0, hk0⟩ := lsOK_place (G := G) (la := la) h
  refine lv_iinc (v := Int32.ofInt (z + n)) C.1 C.2.1 dec (lsOK_list hl) hk0 (by rw [← Int32.ofInt_add]) hn rfl (fun la' hla => ?_)
  have hk := lsOK_store (v := vi (z + n)) hl hn rfl hp la' hla
  exact k p e R s m args below meth c Q H locs cells slots la' (by rw [List.length_set]; exact C) EK EX hk hw hS h1 h2
theorem cont_1 {G : Gm} {nx : Option Nat} {w : Wd} {a ci : Nat} (h : SH a = (1, ci)) : cont G nx w a = .inr (ci, flds G nx w a ci) := by unfold cont; rw [h]; rfl
theorem cont_2 {G : Gm} {nx : Option Nat} {w : Wd} {a n : Nat} (h : SH a = (2, n)) : cont G nx w a = .inl (Gc G 2, n, .inl (fun j => Int32.ofInt (w a j))) := by unfold cont; rw [h]; rfl
theorem cont_3 {G : Gm} {nx : Option Nat} {w : Wd} {a n : Nat} (h : SH a = (3, n)) : cont G nx w a = .inl (Gc G 3, n, .inl (fun j => Int32.ofInt (w a j))) := by unfold cont; rw [h]; rfl
theorem cont_4 {G : Gm} {nx : Option Nat} {w : Wd} {a n : Nat} (h : SH a = (4, n)) : cont G nx w a = .inl (Gc G 4, n, .inl (fun j => Int32.ofInt (w a j))) := by unfold cont; rw [h]; rfl
theorem cont_5 {G : Gm} {nx : Option Nat} {w : Wd} {a n : Nat} (h : SH a = (5, n)) : cont G nx w a = .inl (Gc G 5, n, .inr (.inr (.inr (.inr (fun j => rfo G (w a j)))))) := by unfold cont; rw [h]; rfl
theorem cont_6 {G : Gm} {nx : Option Nat} {w : Wd} {a n : Nat} (h : SH a = (6, n)) : cont G nx w a = .inl (Gc G 6, n, .inr (.inr (.inr (.inr (fun j => rfo G (rv nx w a j)))))) := by unfold cont; rw [h]; rfl
theorem cont_7 {G : Gm} {nx : Option Nat} {w : Wd} {a n : Nat} (h : SH a = (7, n)) : cont G nx w a = .inl (Gc G 7, n, .inr (.inl (fun j => Int64.ofInt (w a j)))) := by unfold cont; rw [h]; rfl
theorem cont_8 {G : Gm} {nx : Option Nat} {w : Wd} {a n : Nat} (h : SH a = (8, n)) : cont G nx w a = .inl (Gc G 8, n, .inr (.inr (.inr (.inl (fun j => UInt64.ofNat (w a j).toNat))))) := by unfold cont; rw [h]; rfl
theorem rv_up {nx : Option Nat} {w : Wd} {a k : Nat} {z : Int} {b j : Nat} (h : b ≠ a) : rv nx (up w a k z) b j = rv nx w b j := by
  cases nx with
  | none => rfl
  | some n => exact up_a h
theorem cont_up {G : Gm} {nx : Option Nat} {w : Wd} {a k : Nat} {z : Int} {b : Nat} (h : b ≠ a) : cont G nx (up w a k z) b = cont G nx w b := by
  unfold cont flds
  simp only [up_a h, rv_up h]
/-- the world at a cell -/
theorem wl_e (G : Gm) {nx : Option Nat} (w : Wd) {a k n : Nat} {E : va_E} (hs : SH a = (k, n)) (hk : k ≠ 0) (hx : okx nx a) (he : cont G nx w a = E) : (wl G nx w)[a - 1]? = some (rho G a, E) := by
  rw [← he]
  exact wl_at G w (okx_cnt hs hk hx).1 (okx_cnt hs hk hx).2
theorem wl_inv (G : Gm) {nx : Option Nat} (w : Wd) {k : Nat} {q : Nat × va_E} (h : (wl G nx w)[k]? = some q) : k < cnt nx ∧ q = (rho G (k + 1), cont G nx w (k + 1)) := by
  have hl : k < cnt nx := by rw [← wl_len G nx w]; exact (List.getElem?_eq_some_iff.mp h).1
  refine ⟨hl, ?_⟩
  have h2 := wl_at G (nx := nx) w (a := k + 1) (by omega) (by omega)
  rw [show k + 1 - 1 = k by omega, h] at h2
  exact Option.some.inj h2
theorem rho_ne (G : Gm) {a b : Nat} (ha : a ≤ NA) (hb : b ≤ NA) (ha1 : 1 ≤ a) (hb1 : 1 ≤ b) (h : a ≠ b) : rho G a ≠ rho G b := by
  rw [rho_own G ha, rho_own G hb]
  omega
theorem wholds_put {G : Gm} {nx : Option Nat} {w : Wd} {H H1 : Heap} {a i k n : Nat} {z : Int} (hs : SH a = (k, n)) (hk : k ≠ 0) (hw : wholds G nx w H) (hz : H1.size = H.size) (oq : ∀ q, q ≠ rho G a → H1[q]? = H[q]?) (hat : va_at (GD G) vwCl (rho G a, cont G nx (up w a i z) a) H1) : wholds G nx (up w a i z) H1 := by
  refine ⟨fun j q hj => ?_, fun n hn => by rw [hz]; exact hw.2 n hn⟩
  obtain ⟨hl, rfl⟩ := wl_inv G _ hj
  have hc := wholds_cnt hw
  have hsl := SH_lt hs hk
  by_cases hja : j + 1 = a
  · rw [hja]; exact hat
  · rw [cont_up hja]
    have h0 := hw.1 j _ (by have := wl_at G (nx := nx) w (a := j + 1) (by omega) (by omega); rw [show j + 1 - 1 = j by omega] at this; exact this)
    exact h0.kept (oq _ (rho_ne G (by omega) hsl.2 (by omega) hsl.1 hja))
theorem own_in {G : Gm} {a k n : Nat} (hs : SH a = (k, n)) (hk : k ≠ 0) : ownA G (rho G a) := by
  rw [rho_own G (SH_lt hs hk).2]
  show Gb G ≤ _
  omega
theorem Go_gfi {a ci k idx : Nat} (dec : decode cc pc = .ok (.getfield idx, 3)) (f : FL mt.2.1 idx ci k) (hs : SH a = (1, ci)) (hx : okx nx a) (hk : (ftl ci)[k]? = some false) (kk : Go G cc mt nx d bc bs (pc + 3) ls (vi (w a k) :: st) w K X) : Go G cc mt nx d bc bs pc ls (vr a :: st) w K X := by
  intro p e R s m args below meth c Q H locs cells slots la C EK EX hl hw hS h1 h2
  obtain ⟨⟨r0, ty, hr0, hin, -, -⟩, r, hr, hlt, hsame, hfl⟩ := f
  obtain ⟨cx, cb, -, co, ct, -, -, -, -, -, cK, -⟩ := id C
  cases hr0.symm.trans hr
  have hat := wl_e G w hs (by decide) hx (cont_1 hs)
  refine va_get (ref := r0.1) (v := .int (Int32.ofInt (w a k))) cx cb ct hin co cK.1 hw.1 (a - 1) hat hr k hlt (ct _ hfl) (fun x h => by rw [← hsame]; exact h) ?_ dec (kk p e R s m args below meth c Q H locs cells slots la C EK EX hl hw hS h1 h2)
  unfold flds
  rw [List.getElem?_mapIdx, hk]
  rfl
theorem Go_gfr {a b ci k idx : Nat} (dec : decode cc pc = .ok (.getfield idx, 3)) (f : FL mt.2.1 idx ci k) (hs : SH a = (1, ci)) (hx : okx nx a) (hk : (ftl ci)[k]? = some true) (hb : rv nx w a k = (b : Int)) (hb0 : b ≠ 0) (kk : Go G cc mt nx d bc bs (pc + 3) ls (vr b :: st) w K X) : Go G cc mt nx d bc bs pc ls (vr a :: st) w K X := by
  intro p e R s m args below meth c Q H locs cells slots la C EK EX hl hw hS h1 h2
  obtain ⟨⟨r0, ty, hr0, hin, -, -⟩, r, hr, hlt, hsame, hfl⟩ := f
  obtain ⟨cx, cb, -, co, ct, -, -, -, -, -, cK, -⟩ := id C
  cases hr0.symm.trans hr
  have hat := wl_e G w hs (by decide) hx (cont_1 hs)
  refine va_get (ref := r0.1) (v := .ref (rho G b)) cx cb ct hin co cK.1 hw.1 (a - 1) hat hr k hlt (ct _ hfl) (fun x h => by rw [← hsame]; exact h) ?_ dec (kk p e R s m args below meth c Q H locs cells slots la C EK EX hl hw hS h1 h2)
  unfold flds
  rw [List.getElem?_mapIdx, hk]
  have hne : ¬ ((b : Int) = 0) := by omega
  simp [fldv, rfo, hb, hb0, va_rf]
theorem flds_at {G : Gm} {nx : Option Nat} {w : Wd} {a ci k : Nat} {z : Int} {b : Bool} (hk : (ftl ci)[k]? = some b) (j : Nat) : vp_V (flds G nx (up w a k z) a ci) j = updV (vp_V (flds G nx w a ci)) k (fldv G b (if b then rv nx (up w a k z) a k else z)) j := by
  have hlt : k < (ftl ci).length := (List.getElem?_eq_some_iff.mp hk).1
  unfold vp_V updV
  by_cases hj : j = k
  · subst hj
    rw [if_pos rfl]
    unfold flds
    rw [List.getD_eq_getElem?_getD, List.getElem?_mapIdx, hk]
    simp [up_s]
  · rw [if_neg hj]
    have e1 : up w a k z a j = w a j := up_k hj
    have e2 : rv nx (up w a k z) a j = rv nx w a j := by
      cases nx with
      | none => rfl
      | some n => exact e1
    show (flds G nx (up w a k z) a ci).getD j .null = (flds G nx w a ci).getD j .null
    unfold flds
    simp only [List.getD_eq_getElem?_getD, List.getElem?_mapIdx, e1, e2]
theorem Go_pfi {a ci k idx : Nat} {z : Int} (dec : decode cc pc = .ok (.putfield idx, 3)) (f : FL mt.2.1 idx ci k) (hs : SH a = (1, ci)) (hx : okx nx a) (hk : (ftl ci)[k]? = some false) (hty : ∀ r : vw_C, vwCl[ci]? = some r → (r.2.1 k).2.2.1 = "I" ∧ (r.2.1 k).2.2.2 = false) (kk : Go G cc mt nx d bc bs (pc + 3) ls st (up w a k z) K X) : Go G cc mt nx d bc bs pc ls (vi z :: vr a :: st) w K X := by
  intro p e R s m args below meth c Q H locs cells slots la C EK EX hl hw hS h1 h2
  obtain ⟨⟨r0, ty, hr0, hin, htyok, hnm⟩, r, hr, hlt, hsame, hfl⟩ := f
  obtain ⟨cx, cb, -, co, ct, -, -, -, -, -, cK, -⟩ := id C
  cases hr0.symm.trans hr
  have hat := hw.1 _ _ (wl_e G w hs (by decide) hx (cont_1 hs))
  obtain ⟨hI, hF⟩ := hty _ hr
  have hap := va_apart (own := mt.2.1) ct hin ty htyok hnm cK.1 hr
  obtain ⟨r1, e1, cell, q1, q2, q3, q4⟩ := hat
  cases e1.symm.trans hr
  obtain ⟨hSl, hfc, kC, hkC, hkind⟩ := cK.1.1 ci _ hr
  obtain ⟨cf, kf, fi, f, hi, hsl⟩ := hSl k hlt
  have hlay := ct _ (hin _ (u_in_lay hlt))
  unfold u_lay at hlay
  rw [if_neg (by rw [hF]; decide)] at hlay
  have hst := (u_facts hfc hkC (u_lays ct hin hlt) hi).1
  have h6 := u_store (v := .int (Int32.ofInt z)) (ty := .int) hfc hkC hkind hlay hi (by rw [hI]; decide) rfl rfl
  refine W.putK (ref := r0.1) cx cb (f := f) ⟨co, ct _ hfl, ⟨_, _, _, (by rw [← hsame]; exact hi)⟩, hst⟩ (by rw [q2]; exact h6) q1 q3 (by rw [hsl]; exact k2_hasslot (q4 k hlt)) rfl rfl dec fun H' g1 g2 g3 => ?_
  rw [hsl] at g1 ⊢
  refine kk p e R s m args below meth c Q H' _ cells slots la C EK EX hl (wholds_put hs (by decide) hw g2 g3 ?_) (hS.put g2 g3 (own_in hs (by decide))) h1 h2
  rw [cont_1 hs]
  exact ⟨_, hr, t_OB.to (V := updV (vp_V (flds G nx w a ci)) k (.int (Int32.ofInt z))) ⟨_, g1, q2, q3, t_set q4 hap hlt _⟩ (fun j _ => (flds_at (b := false) hk j).symm)⟩
theorem KS_ty {G : Gm} {U : State} {H : Heap} (h : KS G U H) (k : Nat) {cA : ClassId} {ty : FieldType} (e : (tyl G)[k]? = some (cA, ty)) (n : Nat) (z : Nat → Value) : U.isArrayOf (arrV cA n z) ty := (h.1.2 k _ e).1 n z
theorem Go_iald {a n : Nat} {z : Int} (dec : decode cc pc = .ok (.iaload, 1)) (hs : SH a = (2, n)) (hx : okx nx a) (hz0 : 0 ≤ z) (hz : z < n) (hn : n < 2147483648) (kk : Go G cc mt nx d bc bs (pc + 1) ls (vi (w a z.toNat) :: st) w K X) : Go G cc mt nx d bc bs pc ls (vi z :: vr a :: st) w K X := by
  intro p e R s m args below meth c Q H locs cells slots la C EK EX hl hw hS h1 h2
  obtain ⟨cx, cb, -, co, ct, -, -, -, -, -, cK, -⟩ := id C
  obtain ⟨i1, i2⟩ := iI_in hz0 hz hn
  refine va_iald cx cb cK.1 hw.1 (a - 1) 0 (wl_e G w hs (by decide) hx (cont_2 hs)) rfl i1 dec ?_
  rw [i2]
  exact kk p e R s m args below meth c Q H locs cells slots la C EK EX hl hw hS h1 h2
theorem Go_cald {a n : Nat} {z : Int} (dec : decode cc pc = .ok (.caload, 1)) (hs : SH a = (3, n)) (hx : okx nx a) (hz0 : 0 ≤ z) (hz : z < n) (hn : n < 2147483648) (kk : Go G cc mt nx d bc bs (pc + 1) ls (vi (w a z.toNat) :: st) w K X) : Go G cc mt nx d bc bs pc ls (vi z :: vr a :: st) w K X := by
  intro p e R s m args below meth c Q H locs cells slots la C EK EX hl hw hS h1 h2
  obtain ⟨cx, cb, -, co, ct, -, -, -, -, -, cK, -⟩ := id C
  obtain ⟨i1, i2⟩ := iI_in hz0 hz hn
  refine va_cald cx cb cK.1 hw.1 (a - 1) 1 (wl_e G w hs (by decide) hx (cont_3 hs)) rfl i1 dec ?_
  rw [i2]
  exact kk p e R s m args below meth c Q H locs cells slots la C EK EX hl hw hS h1 h2
theorem Go_zald {a n : Nat} {z : Int} (dec : decode cc pc = .ok (.baload, 1)) (hs : SH a = (4, n)) (hx : okx nx a) (hz0 : 0 ≤ z) (hz : z < n) (hn : n < 2147483648) (kk : Go G cc mt nx d bc bs (pc + 1) ls (vi (w a z.toNat) :: st) w K X) : Go G cc mt nx d bc bs pc ls (vi z :: vr a :: st) w K X := by
  intro p e R s m args below meth c Q H locs cells slots la C EK EX hl hw hS h1 h2
  obtain ⟨cx, cb, -, co, ct, -, -, -, -, -, cK, -⟩ := id C
  obtain ⟨i1, i2⟩ := iI_in hz0 hz hn
  refine va_zald cx cb cK.1 hw.1 (a - 1) 2 (wl_e G w hs (by decide) hx (cont_4 hs)) rfl i1 dec ?_
  rw [i2]
  exact kk p e R s m args below meth c Q H locs cells slots la C EK EX hl hw hS h1 h2
/-- an array of trails: its elements move -/
theorem Go_aald5 {a b n : Nat} {z : Int} (dec : decode cc pc = .ok (.aaload, 1)) (hs : SH a = (5, n)) (hx : okx nx a) (hz0 : 0 ≤ z) (hz : z < n) (hn : n < 2147483648) (hb : w a z.toNat = (b : Int)) (hb0 : b ≠ 0) (kk : Go G cc mt nx d bc bs (pc + 1) ls (vr b :: st) w K X) : Go G cc mt nx d bc bs pc ls (vi z :: vr a :: st) w K X := by
  intro p e R s m args below meth c Q H locs cells slots la C EK EX hl hw hS h1 h2
  obtain ⟨cx, cb, -, co, ct, -, -, -, -, -, cK, -⟩ := id C
  obtain ⟨i1, i2⟩ := iI_in hz0 hz hn
  refine va_aldq cx cb cK.1 hw.1 (a - 1) 3 (wl_e G w hs (by decide) hx (cont_5 hs)) rfl i1 dec ?_
  have e9 : va_rf (rfo G (w a z.toNat)) = .ref (rho G b) := by
    have hne : ¬ ((b : Int) = 0) := by omega
    simp [rfo, hb, hb0, va_rf]
  rw [i2, e9]
  exact kk p e R s m args below meth c Q H locs cells slots la C EK EX hl hw hS h1 h2
theorem Go_aald6 {a b n : Nat} {z : Int} (dec : decode cc pc = .ok (.aaload, 1)) (hs : SH a = (6, n)) (hx : okx nx a) (hz0 : 0 ≤ z) (hz : z < n) (hn : n < 2147483648) (hb : rv nx w a z.toNat = (b : Int)) (hb0 : b ≠ 0) (kk : Go G cc mt nx d bc bs (pc + 1) ls (vr b :: st) w K X) : Go G cc mt nx d bc bs pc ls (vi z :: vr a :: st) w K X := by
  intro p e R s m args below meth c Q H locs cells slots la C EK EX hl hw hS h1 h2
  obtain ⟨cx, cb, -, co, ct, -, -, -, -, -, cK, -⟩ := id C
  obtain ⟨i1, i2⟩ := iI_in hz0 hz hn
  refine va_aldq cx cb cK.1 hw.1 (a - 1) 4 (wl_e G w hs (by decide) hx (cont_6 hs)) rfl i1 dec ?_
  have e9 : va_rf (rfo G (rv nx w a z.toNat)) = .ref (rho G b) := by
    have hne : ¬ ((b : Int) = 0) := by omega
    simp [rfo, hb, hb0, va_rf]
  rw [i2, e9]
  exact kk p e R s m args below meth c Q H locs cells slots la C EK EX hl hw hS h1 h2
theorem Go_iast {a n : Nat} {x z : Int} (dec : decode cc pc = .ok (.iastore, 1)) (hs : SH a = (2, n)) (hx : okx nx a) (hz0 : 0 ≤ z) (hz : z < n) (hn : n < 2147483648) (kk : Go G cc mt nx d bc bs (pc + 1) ls st (up w a z.toNat x) K X) : Go G cc mt nx d bc bs pc ls (vi x :: vi z :: vr a :: st) w K X := by
  intro p e R s m args below meth c Q H locs cells slots la C EK EX hl hw hS h1 h2
  obtain ⟨cx, cb, -, co, ct, -, -, -, -, -, cK, -⟩ := id C
  obtain ⟨i1, i2⟩ := iI_in hz0 hz hn
  refine W.iast cx cb (hw.1 _ _ (wl_e G w hs (by decide) hx (cont_2 hs))) (KS_ty cK 0 rfl n _) (fun q => by cases q) (by show ¬ (_ < 0 ∨ (arrV _ _ _).slots.size ≤ _); rw [arrV_size]; exact i1) rfl rfl dec fun H1 g1 g2 g3 => ?_
  refine kk p e R s m args below meth c Q H1 _ cells slots la C EK EX hl (wholds_put hs (by decide) hw g2 g3 ?_) (hS.put g2 g3 (own_in hs (by decide))) h1 h2
  rw [cont_2 hs]
  show H1[_]? = some (vp_cell _ _)
  rw [g1, i2, vp_cell_i, vp_cell_i, arrV_store]
  congr 2
  funext q
  by_cases hq : q = z.toNat
  · subst hq; simp [updV, up]
  · simp [updV, up, hq]
theorem Go_zast {a n : Nat} {x z : Int} (dec : decode cc pc = .ok (.bastore, 1)) (hs : SH a = (4, n)) (hx : okx nx a) (hz0 : 0 ≤ z) (hz : z < n) (hn : n < 2147483648) (hv : x = 0 ∨ x = 1) (kk : Go G cc mt nx d bc bs (pc + 1) ls st (up w a z.toNat x) K X) : Go G cc mt nx d bc bs pc ls (vi x :: vi z :: vr a :: st) w K X := by
  intro p e R s m args below meth c Q H locs cells slots la C EK EX hl hw hS h1 h2
  obtain ⟨cx, cb, -, co, ct, -, -, -, -, -, cK, -⟩ := id C
  obtain ⟨i1, i2⟩ := iI_in hz0 hz hn
  have hnar : narrow .boolean (.int (Int32.ofInt x)) = .int (Int32.ofInt x) := by
    rcases hv with rfl | rfl <;> decide
  refine W.zast cx cb (hw.1 _ _ (wl_e G w hs (by decide) hx (cont_4 hs))) (KS_ty cK 2 rfl n _) (fun q => by cases q) (by show ¬ (_ < 0 ∨ (arrV _ _ _).slots.size ≤ _); rw [arrV_size]; exact i1) rfl rfl dec fun H1 g1 g2 g3 => ?_
  refine kk p e R s m args below meth c Q H1 _ cells slots la C EK EX hl (wholds_put hs (by decide) hw g2 g3 ?_) (hS.put g2 g3 (own_in hs (by decide))) h1 h2
  rw [cont_4 hs]
  show H1[_]? = some (vp_cell _ _)
  rw [g1, i2, hnar, vp_cell_i, vp_cell_i, arrV_store]
  congr 2
  funext q
  by_cases hq : q = z.toNat
  · subst hq; simp [updV, up]
  · simp [updV, up, hq]
theorem Go_cast {a n : Nat} {x z : Int} (dec : decode cc pc = .ok (.castore, 1)) (hs : SH a = (3, n)) (hx : okx nx a) (hz0 : 0 ≤ z) (hz : z < n) (hn : n < 2147483648) (hv0 : 0 ≤ x) (hv : x < 65536) (kk : Go G cc mt nx d bc bs (pc + 1) ls st (up w a z.toNat x) K X) : Go G cc mt nx d bc bs pc ls (vi x :: vi z :: vr a :: st) w K X := by
  intro p e R s m args below meth c Q H locs cells slots la C EK EX hl hw hS h1 h2
  obtain ⟨cx, cb, -, co, ct, -, -, -, -, -, cK, -⟩ := id C
  obtain ⟨i1, i2⟩ := iI_in hz0 hz hn
  have hnar : narrow .char (.int (Int32.ofInt x)) = .int (Int32.ofInt x) := by
    obtain ⟨q, rfl⟩ := Int.eq_ofNat_of_zero_le hv0
    exact (pk_charN (by omega)).1
  refine W.cast cx cb (hw.1 _ _ (wl_e G w hs (by decide) hx (cont_3 hs))) (KS_ty cK 1 rfl n _) (fun q => by cases q) (by show ¬ (_ < 0 ∨ (arrV _ _ _).slots.size ≤ _); rw [arrV_size]; exact i1) rfl rfl dec fun H1 g1 g2 g3 => ?_
  refine kk p e R s m args below meth c Q H1 _ cells slots la C EK EX hl (wholds_put hs (by decide) hw g2 g3 ?_) (hS.put g2 g3 (own_in hs (by decide))) h1 h2
  rw [cont_3 hs]
  show H1[_]? = some (vp_cell _ _)
  rw [g1, i2, hnar, vp_cell_i, vp_cell_i, arrV_store]
  congr 2
  funext q
  by_cases hq : q = z.toNat
  · subst hq; simp [updV, up]
  · simp [updV, up, hq]
end GoMem
end
section
section GoCall
variable {G : Gm} {cc : ByteArray} {mt : Mt} {nx : Option Nat} {d bc bs pc : Nat} {ls : List (Option Vl)} {st : List Vl} {w : Wd} {K : Kt} {X : Xt}
/-- the words of a method: its own code, and all -/
def wsM (y : MethodName) (cc : ByteArray) (nl : Nat) (mt : Mt) : List Cond := codeW y cc nl mt :: GW
def PcG (G : Gm) (nx : Option Nat) (w : Wd) (as : List Vl) : Array Value → State → Prop := fun v U => v = (as.map (cv G)).toArray ∧ KS G U U.heap ∧ wholds G nx w U.heap ∧ Gb G ≤ U.heap.size
def rvl (G : Gm) (mt : Mt) (v : Vl) : Option Value := match mt.1 with
  | none => none
  | some _ => some (cv G v)
def QcG (G : Gm) (mt : Mt) (K : Kt) : Array Value → State → Outcome → State → Prop := fun _ st o t => ∃ (v : Vl) (nx : Option Nat) (w : Wd), o = .returned (rvl G mt v) ∧ K v nx w ∧ wholds G nx w t.heap ∧ va_F (ownA G) st t
def XcG (G : Gm) (X : Xt) : String → State → State → Prop := fun E st t => ∃ (k : Nat) (nx : Option Nat) (w : Wd), E = exn k ∧ X k nx w ∧ wholds G nx w t.heap ∧ va_F (ownA G) st t
def rmG (d bc bs : Nat) : Room := { frames := d, cells := bc, slots := bs, locals := 40 * d }
/-- a method's contract: from these arguments and this world it returns so that K holds, or throws so that X holds -/
def Ev (G : Gm) (y : MethodName) (cc : ByteArray) (nl : Nat) (mt : Mt) (nx : Option Nat) (d bc bs : Nat) (as : List Vl) (w : Wd) (K : Kt) (X : Xt) : Prop :=
  G.1.stackTraces = false → vx_Met G.1 y (wsM y cc nl mt) (rmG d bc bs) (PcG G nx w as) (QcG G mt K) (XcG G X) bc bs (ownA G)
theorem lsOK_entry {G : Gm} {as : List Vl} {nl : Nat} (ha : ∀ v ∈ as, c1 (some v) = true) (hn : as.length ≤ nl) : lsOK G (((lg_sl (as.map (cv G))) ++ List.replicate (nl - (lg_sl (as.map (cv G))).length) Slot.unset).toArray) (as.map some ++ List.replicate (nl - as.length) none) := by
  have e : ∀ as : List Vl, (∀ v ∈ as, c1 (some v) = true) → lg_sl (as.map (cv G)) = as.map fun v => Slot.val (cv G v) := by
    intro as
    induction as with
    | nil => intro _; rfl
    | cons v l ih =>
      intro h
      have h1 := cv_cat1 (G := G) (h v List.mem_cons_self)
      have h2 := ih (fun x hx => h x (List.mem_cons_of_mem _ hx))
      unfold lg_sl at h2 ⊢
      rw [List.map_cons, List.flatMap_cons, List.map_cons, h2, if_neg (by omega)]
      rfl
  have e1 := e as ha
  have hlen : (lg_sl (as.map (cv G))).length = as.length := by rw [e1, List.length_map]
  have hb := lv_entry (as.map (cv G)) (n := nl) (by rw [hlen]; exact hn)
  refine ⟨?_, hb.2.1, fun i v hv => ?_⟩
  · rw [hb.1]
    simp
    omega
  · rw [e1]
    have hi : i < as.length := by
      rcases Nat.lt_or_ge i as.length with q | q
      · exact q
      · rw [List.getElem?_append_right (by simp; exact q)] at hv
        rw [List.getElem?_replicate] at hv
        split at hv <;> cases hv
    rw [List.getElem?_append_left (by simp; exact hi), List.getElem?_map] at hv
    rw [List.getElem?_toArray, List.getElem?_append_left (by simp; exact hi), List.getElem?_map]
    cases hx : as[i]? with
    | none => rw [hx] at hv; cases hv
    | some y => rw [hx] at hv; cases hv; rfl
theorem GW_bef {args a' : Array Value} {s U : State} (hW : s.WarmedH U.vm) {w : Cond} (hw : w ∈ GW) (h : w.before args s = true) : w.before a' U = true := word_at hW (good_of_word (GW_good hw)) h
/-- the end of a body -/
theorem endK_of {G : Gm} {cc : ByteArray} {mt : Mt} {p : Program} {e : Env} {R : Room} {s : State} {m : MethodId} {args : Array Value} {below : List Frame} {meth : Method} {c : Code} {K : Kt} {X : Xt} {nl d : Nat} (C : Cx G cc mt d p R s m args meth c nl) :
    EndK G cc mt p e R s m args below meth c (vx_MQ below (QcG G mt K) (XcG G X) args s R.cells R.slots (ownA G)) K := by
  intro v nx w H locs cells slots la pc st hK hw hS h1 h2 hr
  obtain ⟨cx, cb, cr, -, -, cl, -⟩ := C
  refine vx_ret (W.widen h1 h2 ?_)
  have hf : ∀ q ∈ locs, ownA G q.base := hS.2.2
  have hq : ∀ (o : Option Value), o = rvl G mt v → ∀ t : State, t.heap = H → s.WarmedH t.vm → QcG G mt K args s (.returned o) t := fun o ho t ht _ => ⟨v, nx, w, by rw [ho], hK, by rw [ht]; exact hw, hS.F ht⟩
  rcases hr with ⟨h0, hd, rfl, rfl⟩ | ⟨z, ty, rfl, h0, hn, hd, rfl⟩ | ⟨a, rfl, ⟨n, h0⟩, hd, rfl⟩ | ⟨x, rfl, h0, hd, rfl⟩ | ⟨x, rfl, h0, hd, rfl⟩
  · exact W.vret cx cb (by rw [cr, h0]) (hq _ (by rw [rvl, h0])) hf hd cl
  · exact W.zret cx cb (by rw [cr, h0]) hn (hq _ (by rw [rvl, h0]; rfl)) hf hd cl
  · exact W.aret cx cb (by rw [cr, h0]) (Or.inl ⟨n, rfl⟩) (Or.inr ⟨_, rfl⟩) (hq _ (by rw [rvl, h0]; rfl)) hf hd cl
  · exact W.dret cx cb (by rw [cr, h0]) (hq _ (by rw [rvl, h0]; rfl)) hf hd cl
  · exact W.fret cx cb (by rw [cr, h0]) (hq _ (by rw [rvl, h0]; rfl)) hf hd cl
/-- a body's walk gives the contract -/
theorem Ev_intro {y : MethodName} {nl n : Nat} {as : List Vl} (mb : MB y cc nl mt n) (ho : y.cls = mt.2.1) (hi : mt.2.2.1 = true → y.name = "<init>") (ha : ∀ v ∈ as, c1 (some v) = true) (hn : as.length ≤ nl) (htb : mt.2.2.2 = [] ∨ ∀ k nx w, ¬ X k nx w) (k : Go G cc mt nx d bc bs 0 (as.map some ++ List.replicate (nl - as.length) none) [] w K X) : Ev G y cc nl mt nx d bc bs as w K X := by
  intro hst
  obtain ⟨hcode, hini, hmh, har, hpl, hnl, -⟩ := mb
  have main : ∀ (p : Program) (e : Env) (s : State) (m : MethodId) (args : Array Value) (below : List Frame) (meth : Method) (c : Code) (s₁ : State), BodyLoose p G.1 y (headSpec (wsM y cc nl mt) (rmG d bc bs)) cc nl mt.1 e s m args below meth c s₁ → c.maxLocals = nl → c.exceptionTable.toList = tableOf mt.2.2.2 → PcG G nx w as args s →
      W p G.1 e (headSpec (wsM y cc nl mt) (rmG d bc bs)).room s m args below meth c s.heap [] 0 0 (vx_MQ below (QcG G mt K) (XcG G X) args s bc bs (ownA G)) (entryFrame m args nl) := by
    intro p e s m args below meth c s₁ B hml htab hv
    obtain ⟨rfl, hKS, hwh, hsz⟩ := hv
    have hts := atoms_spec (ws := wsM y cc nl mt) B.pre
    have hown : s.vm.findClass mt.2.1 = some m.cls := by rw [← ho]; exact findClass_of_methodNamed B.named
    have hC : Cx G cc mt d p (rmG d bc bs) s m ((as.map (cv G)).toArray) meth c (as.map some ++ List.replicate (nl - as.length) none).length := by
      refine ⟨B.exec, B.bytes, B.returns, hown, fun w hw => hts w (List.mem_cons_of_mem _ hw), B.notSynchronized, fun h => ?_, ?_, Nat.le_refl _, Nat.le_refl _, hKS, hst, hsz, htab⟩
      · rw [(name_of_methodNamed B.named B.method).1]; exact hi h
      · rw [hml]; simp; omega
    have hl := lsOK_entry (G := G) ha hn
    rw [lg_entry_eq]
    refine k p e (rmG d bc bs) s m _ below meth c _ s.heap [] 0 0 _ hC (endK_of hC) ?_ hl hwh va_S.rf (by show 0 + bc ≤ bc; omega) (by show 0 + bs ≤ bs; omega)
    rcases htb with htb | htb
    · refine Or.inr ⟨_, _, bc, bs, rfl, Nat.le_refl _, Nat.le_refl _, ?_, fun k nx w t hX hw hF => ⟨k, nx, w, rfl, hX, hw, hF⟩⟩
      rw [htab, htb]
      intro x hx
      cases hx
    · exact Or.inl htb
  cases htb2 : mt.2.2.2 with
  | nil =>
    refine vx_ofW (cc := cc) (maxL := nl) (ret := mt.1) (ws' := GW) hpl (by unfold wsM codeW; rw [htb2]) ?_
    intro p e s m args below meth c s₁ B hml htab hv
    refine main p e s m args below meth c s₁ B hml ?_ hv
    rw [htb2]
    cases hx : c.exceptionTable.toList with
    | nil => rfl
    | cons x l => exact (htab x (by rw [hx]; exact List.mem_cons_self)).elim
  | cons t ts =>
    have ew : codeW y cc nl mt = Cond.codeWith y cc nl mt.1 (t :: ts) := by unfold codeW; rw [htb2]
    refine vx_ofWH (cc := cc) (maxL := nl) (ret := mt.1) (hh := t :: ts) (ws' := GW) hpl (by unfold wsM; rw [ew]) ?_
    intro p e s m args below meth c s₁ B hml hv
    refine main p e s m args below meth c s₁ B hml ?_ hv
    rw [htb2]
    exact vx_table (x := y) B (atoms_spec (ws := wsM y cc nl mt) B.pre _ (by unfold wsM; rw [ew]; exact List.mem_cons_self))
/-- behind a call: it has returned, or thrown -/
theorem run_go {p : Program} {e : Env} {R : Room} {s : State} {m : MethodId} {args : Array Value} {below : List Frame} {meth : Method} {c : Code} {Q : State → Prop} {H : Heap} {locs : List Loc} {cells slots mc ms : Nat} {la : Array Slot} {st0 rest : List Value} {a : Array Value} {mt' : Mt} {K1 : Kt} {X1 : Xt}
    (hr : vx_Run p G.1 e R s m args below meth c H locs cells slots mc ms (F0 m pc la st0) rest (QcG G mt' K1 a) (XcG G X1) (ownA G)) (hS : va_S (ownA G) s.heap H locs)
    (kk : ∀ (v : Vl) (nx' : Option Nat) (w' : Wd) (H1 : Heap) (locs1 : List Loc), K1 v nx' w' → wholds G nx' w' H1 → va_S (ownA G) s.heap H1 locs1 → W p G.1 e R s m args below meth c H1 locs1 (cells + mc) (slots + ms) Q (F0 m (pc + 3) la ((rvl G mt' v).toList ++ rest)))
    (kx : ∀ (k : Nat) (nx' : Option Nat) (w' : Wd) (H1 : Heap) (locs1 : List Loc) (ce : Cell) (q : Addr), X1 k nx' w' → wholds G nx' w' H1 → va_S (ownA G) s.heap H1 locs1 → H1[q]? = some ce → ce.vm = .none → s.vm.findClass (exn k) = some ce.cls → vx_W p G.1 e R s m args below meth c H1 locs1 (cells + mc) (slots + ms) Q (F0 m pc la rest) q) :
    W p G.1 e R s m args below meth c H locs cells slots Q (F0 m pc la st0) := by
  intro T hT Y
  rcases hr T hT Y with ⟨v, st₀, t, T', L, h0, Y', hL, e1, e2, ⟨v1, nx1, w1, hv, hK, hw, hF⟩, st⟩ | ⟨q, st₀, t, T', L, E, ce, h0, Y', hL, e1, e2, ⟨k, nx1, w1, rfl, hX, hw, hF⟩, hce, hcv, hcl, st⟩
  · cases hv
    obtain ⟨k1, k2, k3⟩ := vx_keep (A0 := ownA G) (A1 := ownA G) (free := ownA G) h0 e1 hS (fun _ _ h => h) (fun _ h => h) hL hF
    obtain ⟨t2, a1, b1⟩ := kk v1 nx1 w1 T'.heap (locs ++ L) hK (by rw [e1]; exact hw) k3 T' rfl Y'
    exact ⟨t2, st t2 a1, b1⟩
  · obtain ⟨k1, k2, k3⟩ := vx_keep (A0 := ownA G) (A1 := ownA G) (free := ownA G) h0 e1 hS (fun _ _ h => h) (fun _ h => h) hL hF
    obtain ⟨t2, a1, b1⟩ := kx k nx1 w1 T'.heap (locs ++ L) ce q hX (by rw [e1]; exact hw) k3 (by rw [e1]; exact hce) hcv hcl T' rfl Y'
    exact ⟨t2, st.trans a1, b1⟩
/-- what is thrown leaves a body without handlers -/
theorem out_go {p : Program} {e : Env} {R : Room} {s : State} {m : MethodId} {args : Array Value} {below : List Frame} {meth : Method} {c : Code} {Q : State → Prop} {la : Array Slot} {rest : List Value} {nl : Nat} (C : Cx G cc mt d p R s m args meth c nl) (EX : EndX G R s args below c Q X) {k : Nat} {nx' : Option Nat} {w' : Wd} {H1 : Heap} {locs1 : List Loc} {cells slots : Nat} {ce : Cell} {q : Addr} (hX : X k nx' w') (hw : wholds G nx' w' H1) (hS : va_S (ownA G) s.heap H1 locs1) (hce : H1[q]? = some ce) (hcv : ce.vm = .none) (hcl : s.vm.findClass (exn k) = some ce.cls) (h1 : cells ≤ R.cells) (h2 : slots ≤ R.slots) :
    vx_W p G.1 e R s m args below meth c H1 locs1 cells slots Q (F0 m pc la rest) q := by
  obtain ⟨-, -, -, -, -, cl, -⟩ := C
  rcases EX with h | ⟨Qc, XC, mc, ms, rfl, hc, hs, htab, hXC⟩
  · exact (h k nx' w' hX).elim
  · exact vx_out (fun x hx => (htab x hx).elim) cl hce hcv hcl (fun t ht _ => hXC k nx' w' t hX (by rw [ht]; exact hw) (hS.F ht)) hS.2.2 (Nat.le_trans h1 hc) (Nat.le_trans h2 hs)
theorem PcG_blind {as : List Vl} : FrameBlind (PcG G nx w as) := fun _ _ _ _ h => ⟨h.1, KS.calling _ _ _ h.2.1, h.2.2.1, h.2.2.2⟩
theorem PcG_at {p : Program} {R : Room} {s : State} {m : MethodId} {args : Array Value} {meth : Method} {c : Code} {nl : Nat} {H : Heap} {locs : List Loc} (C : Cx G cc mt d p R s m args meth c nl) (hw : wholds G nx w H) (hS : va_S (ownA G) s.heap H locs) (as : List Vl) (av : Array Value) (hav : av = (as.map (cv G)).toArray) : ∀ U : State, U.heap = H → s.WarmedH U.vm → PcG G nx w as av U := by
  obtain ⟨-, -, -, -, -, -, -, -, -, -, cK, -, csz, -⟩ := C
  intro U hU hW
  subst hU
  exact ⟨hav, KS.go cK hW hS.2.1, hw, Nat.le_trans csz hS.1⟩
/-- what a call wants of the tables and of the room -/
theorem callB_go {p : Program} {R : Room} {s : State} {m : MethodId} {args : Array Value} {meth : Method} {c : Code} {nl : Nat} (C : Cx G cc mt d p R s m args meth c nl) {y : MethodName} {cc' : ByteArray} {nl' n idx d' bc' bs' : Nat} {mt' : Mt} (mb : MB y cc' nl' mt' n) (ht : mt'.2.2.2 = []) (lk : Cond.methodLink mt.2.1 idx y ∈ GW) (hd : d' < d) : CallB R s args mt.2.1 idx y cc' nl' mt'.1 (wsM y cc' nl' mt') (rmG d' bc' bs') bc' bs' n := by
  obtain ⟨-, -, -, -, ct, -, -, -, cf, cl, -⟩ := C
  obtain ⟨hcode, hini, hmh, har, -, hnl, -⟩ := mb
  have ew : codeW y cc' nl' mt' = Cond.code y cc' nl' mt'.1 := by unfold codeW; rw [ht]
  refine ⟨rfl, rfl, by show d' + 1 ≤ _; omega, by show 8 + (nl' + 11) + 40 * d' ≤ _; omega, fun w hw a' U hW => ?_, by unfold wsM; rw [ew]; exact List.mem_cons_self, ?_, ct _ hini, hmh, fun sig h => ?_, ct _ lk⟩
  · rcases List.mem_cons.mp hw with rfl | hw
    · exact GW_bef hW hcode (ct _ hcode)
    · exact GW_bef hW hw (ct _ hw)
  · rw [← ew]; exact ct _ hcode
  · rw [h] at har
    exact (Option.some.inj har).symm
theorem Go_callV {y : MethodName} {cc' : ByteArray} {nl' n idx d' bc' bs' a ci : Nat} {mt' : Mt} {as stk : List Vl} {K1 : Kt} (dec : decode cc pc = .ok (.invokevirtual idx, 3)) (mv : MV y cc' nl' mt' n) (ht : mt'.2.2.2 = []) (lk : Cond.methodLink mt.2.1 idx y ∈ GW) (hs : SH a = (1, ci)) (hc : (vwCl[ci]?).map (·.1) = some y.cls) (hx : okx nx a) (hn : as.length = n) (hstk : stk = as.reverse ++ vr a :: st) (hsum : (st.map fun v => (cv G v).category).sum ≤ 8) (hd : d' < d) (hbc : bc' ≤ bc) (hbs : bs' ≤ bs)
    (hK : ∀ v nx' w', K1 v nx' w' → Go G cc mt nx' d (bc - bc') (bs - bs') (pc + 3) ls ((match mt'.1 with | none => [] | some _ => [v]) ++ st) w' K X)
    (E : Ev G y cc' nl' mt' nx d' bc' bs' (vr a :: as) w K1 X) : Go G cc mt nx d bc bs pc ls stk w K X := by
  intro p e R s m args below meth c Q H locs cells slots la C EK EX hl hw hS h1 h2
  subst hstk
  have hcx := C
  obtain ⟨cx, cb, -, co, ct, -, -, cml, -, -, cK, cst, -⟩ := id C
  obtain ⟨r, hr, hrc⟩ := Option.map_eq_some_iff.mp hc
  have hrun := vx_runV (s := s) (R := R) (args := args) (H := H) (locs := locs) (cells := cells) (slots := slots) (below := below) (meth := meth) (e := e) (b := rho G a) (As := as.map (cv G)) (rest := st.map (cv G)) (C := r.1) (g := F0 m pc la ((as.reverse ++ vr a :: st).map (cv G))) (Ts := GW)
    ⟨cx, cb, cml, co, ct⟩ (E cst) ⟨callB_go C mv.1 ht lk hd, ct _ mv.2.1, by rw [hrc]; exact ct _ mv.2.2⟩ ⟨PcG_blind, va_recv cK.1 hw.1 hr (wl_e G w hs (by decide) hx (cont_1 hs)), PcG_at C hw hS _ _ rfl⟩ rfl (by rw [List.length_map]; exact hn) (by show la.size = _; rw [hl.1]) (by simp; rfl) (lv_room (by rw [List.map_map]; exact hsum)) dec ⟨by omega, by omega⟩
  refine run_go hrun hS (fun v nx' w' H1 locs1 k1 k2 k3 => ?_) (fun k nx' w' H1 locs1 ce q k1 k2 k3 g1 g2 g3 => out_go C EX k1 k2 k3 g1 g2 g3 (by omega) (by omega))
  have k4 := hK v nx' w' k1 p e R s m args below meth c Q H1 locs1 (cells + bc') (slots + bs') la C EK EX hl k2 k3 (by omega) (by omega)
  unfold rvl
  revert k4
  cases mt'.1 with
  | none => intro k4; exact k4
  | some ty => intro k4; exact k4
theorem Go_callS {y : MethodName} {cc' : ByteArray} {nl' n idx d' bc' bs' : Nat} {mt' : Mt} {as stk : List Vl} {K1 : Kt} (dec : decode cc pc = .ok (.invokestatic idx, 3)) (mv : MS y cc' nl' mt' n) (ht : mt'.2.2.2 = []) (lk : Cond.methodLink mt.2.1 idx y ∈ GW) (hn : as.length = n) (hstk : stk = as.reverse ++ st) (hsum : (st.map fun v => (cv G v).category).sum ≤ 8) (hd : d' < d) (hbc : bc' ≤ bc) (hbs : bs' ≤ bs)
    (hK : ∀ v nx' w', K1 v nx' w' → Go G cc mt nx' d (bc - bc') (bs - bs') (pc + 3) ls ((match mt'.1 with | none => [] | some _ => [v]) ++ st) w' K X)
    (E : Ev G y cc' nl' mt' nx d' bc' bs' as w K1 X) : Go G cc mt nx d bc bs pc ls stk w K X := by
  intro p e R s m args below meth c Q H locs cells slots la C EK EX hl hw hS h1 h2
  subst hstk
  obtain ⟨cx, cb, -, co, ct, -, -, cml, -, -, cK, cst, -⟩ := id C
  have hrun := vx_runS (s := s) (R := R) (args := args) (H := H) (locs := locs) (cells := cells) (slots := slots) (below := below) (meth := meth) (e := e) (As := as.map (cv G)) (rest := st.map (cv G)) (g := F0 m pc la ((as.reverse ++ st).map (cv G))) (Ts := GW)
    ⟨cx, cb, cml, co, ct⟩ (E cst) ⟨callB_go C mv.1 ht lk hd, ct _ mv.2⟩ ⟨PcG_blind, PcG_at C hw hS _ _ rfl⟩ rfl (by rw [List.length_map]; exact hn) (by show la.size = _; rw [hl.1]) (by simp) (lv_room (by rw [List.map_map]; exact hsum)) dec ⟨by omega, by omega⟩
  refine run_go hrun hS (fun v nx' w' H1 locs1 k1 k2 k3 => ?_) (fun k nx' w' H1 locs1 ce q k1 k2 k3 g1 g2 g3 => out_go C EX k1 k2 k3 g1 g2 g3 (by omega) (by omega))
  have k4 := hK v nx' w' k1 p e R s m args below meth c Q H1 locs1 (cells + bc') (slots + bs') la C EK EX hl k2 k3 (by omega) (by omega)
  unfold rvl
  revert k4
  cases mt'.1 with
  | none => intro k4; exact k4
  | some ty => intro k4; exact k4
/-- a static method with handlers, that throws nothing -/
theorem Go_callSW {y : MethodName} {cc' : ByteArray} {nl' n idx d' bc' bs' : Nat} {mt' : Mt} {as stk : List Vl} {K1 : Kt} {t : Nat × Nat × Nat × Nat} {ts : List (Nat × Nat × Nat × Nat)} (dec : decode cc pc = .ok (.invokestatic idx, 3)) (mv : MS y cc' nl' mt' n) (ht : mt'.2.2.2 = t :: ts) (lk : Cond.methodLink mt.2.1 idx y ∈ GW) (hn : as.length = n) (hstk : stk = as.reverse ++ st) (hsum : (st.map fun v => (cv G v).category).sum ≤ 8) (hd : d' < d) (hbc : bc' ≤ bc) (hbs : bs' ≤ bs)
    (hK : ∀ v nx' w', K1 v nx' w' → Go G cc mt nx' d (bc - bc') (bs - bs') (pc + 3) ls ((match mt'.1 with | none => [] | some _ => [v]) ++ st) w' K X)
    (E : Ev G y cc' nl' mt' nx d' bc' bs' as w K1 (fun _ _ _ => False)) : Go G cc mt nx d bc bs pc ls stk w K X := by
  intro p e R s m args below meth c Q H locs cells slots la C EK EX hl hw hS h1 h2
  subst hstk
  obtain ⟨cx, cb, -, co, ct, -, -, cml, cf, cl, cK, cst, -⟩ := id C
  obtain ⟨hcode, hini, hmh, har, -, hnl, -⟩ := mv.1
  have ew : codeW y cc' nl' mt' = Cond.codeWith y cc' nl' mt'.1 (t :: ts) := by unfold codeW; rw [ht]
  have hcw : vx_CSW R s args mt.2.1 idx y cc' nl' mt'.1 (t :: ts) (wsM y cc' nl' mt') (rmG d' bc' bs') bc' bs' n := by
    refine ⟨⟨rfl, rfl, by show d' + 1 ≤ _; omega, by show 8 + (nl' + 11) + 40 * d' ≤ _; omega, fun w hw a' U hW => ?_, by unfold wsM; rw [ew]; exact List.mem_cons_self⟩, ?_, ct _ hini, hmh, fun sig h => ?_, ct _ lk, ct _ mv.2⟩
    · rcases List.mem_cons.mp hw with rfl | hw
      · exact GW_bef hW hcode (ct _ hcode)
      · exact GW_bef hW hw (ct _ hw)
    · rw [← ew]; exact ct _ hcode
    · rw [h] at har
      exact (Option.some.inj har).symm
  have hrun := vx_runSX (s := s) (R := R) (args := args) (H := H) (locs := locs) (cells := cells) (slots := slots) (below := below) (meth := meth) (e := e) (As := as.map (cv G)) (rest := st.map (cv G)) (g := F0 m pc la ((as.reverse ++ st).map (cv G))) (Ts := GW)
    ⟨cx, cb, cml, co, ct⟩ (E cst) hcw ⟨PcG_blind, PcG_at C hw hS _ _ rfl⟩ rfl (by rw [List.length_map]; exact hn) (by show la.size = _; rw [hl.1]) (by simp) (lv_room (by rw [List.map_map]; exact hsum)) dec ⟨by omega, by omega⟩
  refine run_go hrun hS (fun v nx' w' H1 locs1 k1 k2 k3 => ?_) (fun k nx' w' H1 locs1 ce q k1 k2 k3 g1 g2 g3 => k1.elim)
  have k4 := hK v nx' w' k1 p e R s m args below meth c Q H1 locs1 (cells + bc') (slots + bs') la C EK EX hl k2 k3 (by omega) (by omega)
  unfold rvl
  revert k4
  cases mt'.1 with
  | none => intro k4; exact k4
  | some ty => intro k4; exact k4
section Ends
theorem Go_ireturn {z : Int} {ty : FieldType} (dec : decode cc pc = .ok (.ireturn, 1)) (hr : mt.1 = some ty) (hn : narrow ty (.int (Int32.ofInt z)) = .int (Int32.ofInt z)) (k : K (vi z) nx w) : Go G cc mt nx d bc bs pc ls [vi z] w K X := by
  intro p e R s m args below meth c Q H locs cells slots la C EK EX hl hw hS h1 h2
  exact EK (vi z) nx w H locs cells slots la pc _ k hw hS (by omega) (by omega) (Or.inr (Or.inl ⟨z, ty, rfl, hr, hn, dec, rfl⟩))
theorem Go_return (dec : decode cc pc = .ok (.return_, 1)) (hr : mt.1 = none) (k : K (vi 0) nx w) : Go G cc mt nx d bc bs pc ls [] w K X := by
  intro p e R s m args below meth c Q H locs cells slots la C EK EX hl hw hS h1 h2
  exact EK (vi 0) nx w H locs cells slots la pc _ k hw hS (by omega) (by omega) (Or.inl ⟨hr, dec, rfl, rfl⟩)
theorem Go_areturn {a : Nat} {n : String} (dec : decode cc pc = .ok (.areturn, 1)) (hr : mt.1 = some (.object n)) (k : K (vr a) nx w) : Go G cc mt nx d bc bs pc ls [vr a] w K X := by
  intro p e R s m args below meth c Q H locs cells slots la C EK EX hl hw hS h1 h2
  exact EK (vr a) nx w H locs cells slots la pc _ k hw hS (by omega) (by omega) (Or.inr (Or.inr (Or.inl ⟨a, rfl, ⟨n, hr⟩, dec, rfl⟩)))
theorem Go_dreturn {x : UInt64} (dec : decode cc pc = .ok (.dreturn, 1)) (hr : mt.1 = some .double) (k : K (vd x) nx w) : Go G cc mt nx d bc bs pc ls [vd x] w K X := by
  intro p e R s m args below meth c Q H locs cells slots la C EK EX hl hw hS h1 h2
  exact EK (vd x) nx w H locs cells slots la pc _ k hw hS (by omega) (by omega) (Or.inr (Or.inr (Or.inr (Or.inl ⟨x, rfl, hr, dec, rfl⟩))))
theorem Go_freturn {x : UInt32} (dec : decode cc pc = .ok (.freturn, 1)) (hr : mt.1 = some .float) (k : K (vf x) nx w) : Go G cc mt nx d bc bs pc ls [vf x] w K X := by
  intro p e R s m args below meth c Q H locs cells slots la C EK EX hl hw hS h1 h2
  exact EK (vf x) nx w H locs cells slots la pc _ k hw hS (by omega) (by omega) (Or.inr (Or.inr (Or.inr (Or.inr ⟨x, rfl, hr, dec, rfl⟩))))
end Ends
end GoCall
end
section
section GoIdx
variable {G : Gm} {cc : ByteArray} {mt : Mt} {nx : Option Nat} {d bc bs pc : Nat} {st : List Vl} {w : Wd} {K : Kt} {X : Xt}
theorem Go_ild0 {r : List (Option Vl)} {z : Int} (dec : decode cc pc = .ok (.iload_n 0, 1)) (k : Go G cc mt nx d bc bs (pc + 1) (some (vi z) :: r) (vi z :: st) w K X) : Go G cc mt nx d bc bs pc (some (vi z) :: r) st w K X := Go_iload_n (i := 0) dec rfl rfl k
theorem Go_ald0 {r : List (Option Vl)} {z : Nat} (dec : decode cc pc = .ok (.aload_n 0, 1)) (k : Go G cc mt nx d bc bs (pc + 1) (some (vr z) :: r) (vr z :: st) w K X) : Go G cc mt nx d bc bs pc (some (vr z) :: r) st w K X := Go_aload_n (i := 0) dec rfl rfl k
theorem Go_ist0 {r : List (Option Vl)} {x : Option Vl} {z : Int} (dec : decode cc pc = .ok (.istore_n 0, 1)) (k : Go G cc mt nx d bc bs (pc + 1) (some (vi z) :: r) st w K X) : Go G cc mt nx d bc bs pc (x :: r) (vi z :: st) w K X := Go_istore_n (i := 0) dec rfl rfl (by simp) (fun j h => by omega) k
theorem Go_ast0 {r : List (Option Vl)} {x : Option Vl} {z : Nat} (dec : decode cc pc = .ok (.astore_n 0, 1)) (k : Go G cc mt nx d bc bs (pc + 1) (some (vr z) :: r) st w K X) : Go G cc mt nx d bc bs pc (x :: r) (vr z :: st) w K X := Go_astore_n (i := 0) dec rfl rfl (by simp) (fun j h => by omega) k
theorem Go_inc0 {r : List (Option Vl)} {z n : Int} (dec : decode cc pc = .ok (.iinc 0 n, 3)) (k : Go G cc mt nx d bc bs (pc + 3) (some (vi (z + n)) :: r) st w K X) : Go G cc mt nx d bc bs pc (some (vi z) :: r) st w K X := Go_iinc dec rfl rfl (fun j h => by omega) k
theorem Go_ild1 {a0 : Option Vl} {r : List (Option Vl)} {z : Int} (dec : decode cc pc = .ok (.iload_n 1, 1)) (k : Go G cc mt nx d bc bs (pc + 1) (a0 :: some (vi z) :: r) (vi z :: st) w K X) : Go G cc mt nx d bc bs pc (a0 :: some (vi z) :: r) st w K X := Go_iload_n (i := 1) dec rfl rfl k
theorem Go_ald1 {a0 : Option Vl} {r : List (Option Vl)} {z : Nat} (dec : decode cc pc = .ok (.aload_n 1, 1)) (k : Go G cc mt nx d bc bs (pc + 1) (a0 :: some (vr z) :: r) (vr z :: st) w K X) : Go G cc mt nx d bc bs pc (a0 :: some (vr z) :: r) st w K X := Go_aload_n (i := 1) dec rfl rfl k
theorem Go_ist1 {a0 : Option Vl} {r : List (Option Vl)} {x : Option Vl} {z : Int} (dec : decode cc pc = .ok (.istore_n 1, 1)) (hp : c1 a0 = true) (k : Go G cc mt nx d bc bs (pc + 1) (a0 :: some (vi z) :: r) st w K X) : Go G cc mt nx d bc bs pc (a0 :: x :: r) (vi z :: st) w K X := Go_istore_n (i := 1) dec rfl rfl (by simp) (fun j h => by have e : j = 0 := (by omega); rw [e]; exact hp) k
theorem Go_ast1 {a0 : Option Vl} {r : List (Option Vl)} {x : Option Vl} {z : Nat} (dec : decode cc pc = .ok (.astore_n 1, 1)) (hp : c1 a0 = true) (k : Go G cc mt nx d bc bs (pc + 1) (a0 :: some (vr z) :: r) st w K X) : Go G cc mt nx d bc bs pc (a0 :: x :: r) (vr z :: st) w K X := Go_astore_n (i := 1) dec rfl rfl (by simp) (fun j h => by have e : j = 0 := (by omega); rw [e]; exact hp) k
theorem Go_inc1 {a0 : Option Vl} {r : List (Option Vl)} {z n : Int} (dec : decode cc pc = .ok (.iinc 1 n, 3)) (hp : c1 a0 = true) (k : Go G cc mt nx d bc bs (pc + 3) (a0 :: some (vi (z + n)) :: r) st w K X) : Go G cc mt nx d bc bs pc (a0 :: some (vi z) :: r) st w K X := Go_iinc dec rfl rfl (fun j h => by have e : j = 0 := (by omega); rw [e]; exact hp) k
theorem Go_ild2 {a0 a1 : Option Vl} {r : List (Option Vl)} {z : Int} (dec : decode cc pc = .ok (.iload_n 2, 1)) (k : Go G cc mt nx d bc bs (pc + 1) (a0 :: a1 :: some (vi z) :: r) (vi z :: st) w K X) : Go G cc mt nx d bc bs pc (a0 :: a1 :: some (vi z) :: r) st w K X := Go_iload_n (i := 2) dec rfl rfl k
theorem Go_ald2 {a0 a1 : Option Vl} {r : List (Option Vl)} {z : Nat} (dec : decode cc pc = .ok (.aload_n 2, 1)) (k : Go G cc mt nx d bc bs (pc + 1) (a0 :: a1 :: some (vr z) :: r) (vr z :: st) w K X) : Go G cc mt nx d bc bs pc (a0 :: a1 :: some (vr z) :: r) st w K X := Go_aload_n (i := 2) dec rfl rfl k
theorem Go_ist2 {a0 a1 : Option Vl} {r : List (Option Vl)} {x : Option Vl} {z : Int} (dec : decode cc pc = .ok (.istore_n 2, 1)) (hp : c1 a1 = true) (k : Go G cc mt nx d bc bs (pc + 1) (a0 :: a1 :: some (vi z) :: r) st w K X) : Go G cc mt nx d bc bs pc (a0 :: a1 :: x :: r) (vi z :: st) w K X := Go_istore_n (i := 2) dec rfl rfl (by simp) (fun j h => by have e : j = 1 := (by omega); rw [e]; exact hp) k
theorem Go_ast2 {a0 a1 : Option Vl} {r : List (Option Vl)} {x : Option Vl} {z : Nat} (dec : decode cc pc = .ok (.astore_n 2, 1)) (hp : c1 a1 = true) (k : Go G cc mt nx d bc bs (pc + 1) (a0 :: a1 :: some (vr z) :: r) st w K X) : Go G cc mt nx d bc bs pc (a0 :: a1 :: x :: r) (vr z :: st) w K X := Go_astore_n (i := 2) dec rfl rfl (by simp) (fun j h => by have e : j = 1 := (by omega); rw [e]; exact hp) k
theorem Go_inc2 {a0 a1 : Option Vl} {r : List (Option Vl)} {z n : Int} (dec : decode cc pc = .ok (.iinc 2 n, 3)) (hp : c1 a1 = true) (k : Go G cc mt nx d bc bs (pc + 3) (a0 :: a1 :: some (vi (z + n)) :: r) st w K X) : Go G cc mt nx d bc bs pc (a0 :: a1 :: some (vi z) :: r) st w K X := Go_iinc dec rfl rfl (fun j h => by have e : j = 1 := (by omega); rw [e]; exact hp) k
theorem Go_ild3 {a0 a1 a2 : Option Vl} {r : List (Option Vl)} {z : Int} (dec : decode cc pc = .ok (.iload_n 3, 1)) (k : Go G cc mt nx d bc bs (pc + 1) (a0 :: a1 :: a2 :: some (vi z) :: r) (vi z :: st) w K X) : Go G cc mt nx d bc bs pc (a0 :: a1 :: a2 :: some (vi z) :: r) st w K X := Go_iload_n (i := 3) dec rfl rfl k
theorem Go_ald3 {a0 a1 a2 : Option Vl} {r : List (Option Vl)} {z : Nat} (dec : decode cc pc = .ok (.aload_n 3, 1)) (k : Go G cc mt nx d bc bs (pc + 1) (a0 :: a1 :: a2 :: some (vr z) :: r) (vr z :: st) w K X) : Go G cc mt nx d bc bs pc (a0 :: a1 :: a2 :: some (vr z) :: r) st w K X := Go_aload_n (i := 3) dec rfl rfl k
theorem Go_ist3 {a0 a1 a2 : Option Vl} {r : List (Option Vl)} {x : Option Vl} {z : Int} (dec : decode cc pc = .ok (.istore_n 3, 1)) (hp : c1 a2 = true) (k : Go G cc mt nx d bc bs (pc + 1) (a0 :: a1 :: a2 :: some (vi z) :: r) st w K X) : Go G cc mt nx d bc bs pc (a0 :: a1 :: a2 :: x :: r) (vi z :: st) w K X := Go_istore_n (i := 3) dec rfl rfl (by simp) (fun j h => by have e : j = 2 := (by omega); rw [e]; exact hp) k
theorem Go_ast3 {a0 a1 a2 : Option Vl} {r : List (Option Vl)} {x : Option Vl} {z : Nat} (dec : decode cc pc = .ok (.astore_n 3, 1)) (hp : c1 a2 = true) (k : Go G cc mt nx d bc bs (pc + 1) (a0 :: a1 :: a2 :: some (vr z) :: r) st w K X) : Go G cc mt nx d bc bs pc (a0 :: a1 :: a2 :: x :: r) (vr z :: st) w K X := Go_astore_n (i := 3) dec rfl rfl (by simp) (fun j h => by have e : j = 2 := (by omega); rw [e]; exact hp) k
theorem Go_inc3 {a0 a1 a2 : Option Vl} {r : List (Option Vl)} {z n : Int} (dec : decode cc pc = .ok (.iinc 3 n, 3)) (hp : c1 a2 = true) (k : Go G cc mt nx d bc bs (pc + 3) (a0 :: a1 :: a2 :: some (vi (z + n)) :: r) st w K X) : Go G cc mt nx d bc bs pc (a0 :: a1 :: a2 :: some (vi z) :: r) st w K X := Go_iinc dec rfl rfl (fun j h => by have e : j = 2 := (by omega); rw [e]; exact hp) k
theorem Go_ild4 {a0 a1 a2 a3 : Option Vl} {r : List (Option Vl)} {z : Int} (dec : decode cc pc = .ok (.iload 4, 2)) (k : Go G cc mt nx d bc bs (pc + 2) (a0 :: a1 :: a2 :: a3 :: some (vi z) :: r) (vi z :: st) w K X) : Go G cc mt nx d bc bs pc (a0 :: a1 :: a2 :: a3 :: some (vi z) :: r) st w K X := Go_iload dec rfl k
theorem Go_ald4 {a0 a1 a2 a3 : Option Vl} {r : List (Option Vl)} {z : Nat} (dec : decode cc pc = .ok (.aload 4, 2)) (k : Go G cc mt nx d bc bs (pc + 2) (a0 :: a1 :: a2 :: a3 :: some (vr z) :: r) (vr z :: st) w K X) : Go G cc mt nx d bc bs pc (a0 :: a1 :: a2 :: a3 :: some (vr z) :: r) st w K X := Go_aload dec rfl k
theorem Go_ist4 {a0 a1 a2 a3 : Option Vl} {r : List (Option Vl)} {x : Option Vl} {z : Int} (dec : decode cc pc = .ok (.istore 4, 2)) (hp : c1 a3 = true) (k : Go G cc mt nx d bc bs (pc + 2) (a0 :: a1 :: a2 :: a3 :: some (vi z) :: r) st w K X) : Go G cc mt nx d bc bs pc (a0 :: a1 :: a2 :: a3 :: x :: r) (vi z :: st) w K X := Go_istore dec rfl (by simp) (fun j h => by have e : j = 3 := (by omega); rw [e]; exact hp) k
theorem Go_ast4 {a0 a1 a2 a3 : Option Vl} {r : List (Option Vl)} {x : Option Vl} {z : Nat} (dec : decode cc pc = .ok (.astore 4, 2)) (hp : c1 a3 = true) (k : Go G cc mt nx d bc bs (pc + 2) (a0 :: a1 :: a2 :: a3 :: some (vr z) :: r) st w K X) : Go G cc mt nx d bc bs pc (a0 :: a1 :: a2 :: a3 :: x :: r) (vr z :: st) w K X := Go_astore dec rfl (by simp) (fun j h => by have e : j = 3 := (by omega); rw [e]; exact hp) k
theorem Go_inc4 {a0 a1 a2 a3 : Option Vl} {r : List (Option Vl)} {z n : Int} (dec : decode cc pc = .ok (.iinc 4 n, 3)) (hp : c1 a3 = true) (k : Go G cc mt nx d bc bs (pc + 3) (a0 :: a1 :: a2 :: a3 :: some (vi (z + n)) :: r) st w K X) : Go G cc mt nx d bc bs pc (a0 :: a1 :: a2 :: a3 :: some (vi z) :: r) st w K X := Go_iinc dec rfl rfl (fun j h => by have e : j = 3 := (by omega); rw [e]; exact hp) k
theorem Go_ild5 {a0 a1 a2 a3 a4 : Option Vl} {r : List (Option Vl)} {z : Int} (dec : decode cc pc = .ok (.iload 5, 2)) (k : Go G cc mt nx d bc bs (pc + 2) (a0 :: a1 :: a2 :: a3 :: a4 :: some (vi z) :: r) (vi z :: st) w K X) : Go G cc mt nx d bc bs pc (a0 :: a1 :: a2 :: a3 :: a4 :: some (vi z) :: r) st w K X := Go_iload dec rfl k
theorem Go_ald5 {a0 a1 a2 a3 a4 : Option Vl} {r : List (Option Vl)} {z : Nat} (dec : decode cc pc = .ok (.aload 5, 2)) (k : Go G cc mt nx d bc bs (pc + 2) (a0 :: a1 :: a2 :: a3 :: a4 :: some (vr z) :: r) (vr z :: st) w K X) : Go G cc mt nx d bc bs pc (a0 :: a1 :: a2 :: a3 :: a4 :: some (vr z) :: r) st w K X := Go_aload dec rfl k
theorem Go_ist5 {a0 a1 a2 a3 a4 : Option Vl} {r : List (Option Vl)} {x : Option Vl} {z : Int} (dec : decode cc pc = .ok (.istore 5, 2)) (hp : c1 a4 = true) (k : Go G cc mt nx d bc bs (pc + 2) (a0 :: a1 :: a2 :: a3 :: a4 :: some (vi z) :: r) st w K X) : Go G cc mt nx d bc bs pc (a0 :: a1 :: a2 :: a3 :: a4 :: x :: r) (vi z :: st) w K X := Go_istore dec rfl (by simp) (fun j h => by have e : j = 4 := (by omega); rw [e]; exact hp) k
theorem Go_ast5 {a0 a1 a2 a3 a4 : Option Vl} {r : List (Option Vl)} {x : Option Vl} {z : Nat} (dec : decode cc pc = .ok (.astore 5, 2)) (hp : c1 a4 = true) (k : Go G cc mt nx d bc bs (pc + 2) (a0 :: a1 :: a2 :: a3 :: a4 :: some (vr z) :: r) st w K X) : Go G cc mt nx d bc bs pc (a0 :: a1 :: a2 :: a3 :: a4 :: x :: r) (vr z :: st) w K X := Go_astore dec rfl (by simp) (fun j h => by have e : j = 4 := (by omega); rw [e]; exact hp) k
theorem Go_inc5 {a0 a1 a2 a3 a4 : Option Vl} {r : List (Option Vl)} {z n : Int} (dec : decode cc pc = .ok (.iinc 5 n, 3)) (hp : c1 a4 = true) (k : Go G cc mt nx d bc bs (pc + 3) (a0 :: a1 :: a2 :: a3 :: a4 :: some (vi (z + n)) :: r) st w K X) : Go G cc mt nx d bc bs pc (a0 :: a1 :: a2 :: a3 :: a4 :: some (vi z) :: r) st w K X := Go_iinc dec rfl rfl (fun j h => by have e : j = 4 := (by omega); rw [e]; exact hp) k
theorem Go_ild6 {a0 a1 a2 a3 a4 a5 : Option Vl} {r : List (Option Vl)} {z : Int} (dec : decode cc pc = .ok (.iload 6, 2)) (k : Go G cc mt nx d bc bs (pc + 2) (a0 :: a1 :: a2 :: a3 :: a4 :: a5 :: some (vi z) :: r) (vi z :: st) w K X) : Go G cc mt nx d bc bs pc (a0 :: a1 :: a2 :: a3 :: a4 :: a5 :: some (vi z) :: r) st w K X := Go_iload dec rfl k
theorem Go_ald6 {a0 a1 a2 a3 a4 a5 : Option Vl} {r : List (Option Vl)} {z : Nat} (dec : decode cc pc = .ok (.aload 6, 2)) (k : Go G cc mt nx d bc bs (pc + 2) (a0 :: a1 :: a2 :: a3 :: a4 :: a5 :: some (vr z) :: r) (vr z :: st) w K X) : Go G cc mt nx d bc bs pc (a0 :: a1 :: a2 :: a3 :: a4 :: a5 :: some (vr z) :: r) st w K X := Go_aload dec rfl k
theorem Go_ist6 {a0 a1 a2 a3 a4 a5 : Option Vl} {r : List (Option Vl)} {x : Option Vl} {z : Int} (dec : decode cc pc = .ok (.istore 6, 2)) (hp : c1 a5 = true) (k : Go G cc mt nx d bc bs (pc + 2) (a0 :: a1 :: a2 :: a3 :: a4 :: a5 :: some (vi z) :: r) st w K X) : Go G cc mt nx d bc bs pc (a0 :: a1 :: a2 :: a3 :: a4 :: a5 :: x :: r) (vi z :: st) w K X := Go_istore dec rfl (by simp) (fun j h => by have e : j = 5 := (by omega); rw [e]; exact hp) k
theorem Go_ast6 {a0 a1 a2 a3 a4 a5 : Option Vl} {r : List (Option Vl)} {x : Option Vl} {z : Nat} (dec : decode cc pc = .ok (.astore 6, 2)) (hp : c1 a5 = true) (k : Go G cc mt nx d bc bs (pc + 2) (a0 :: a1 :: a2 :: a3 :: a4 :: a5 :: some (vr z) :: r) st w K X) : Go G cc mt nx d bc bs pc (a0 :: a1 :: a2 :: a3 :: a4 :: a5 :: x :: r) (vr z :: st) w K X := Go_astore dec rfl (by simp) (fun j h => by have e : j = 5 := (by omega); rw [e]; exact hp) k
theorem Go_inc6 {a0 a1 a2 a3 a4 a5 : Option Vl} {r : List (Option Vl)} {z n : Int} (dec : decode cc pc = .ok (.iinc 6 n, 3)) (hp : c1 a5 = true) (k : Go G cc mt nx d bc bs (pc + 3) (a0 :: a1 :: a2 :: a3 :: a4 :: a5 :: some (vi (z + n)) :: r) st w K X) : Go G cc mt nx d bc bs pc (a0 :: a1 :: a2 :: a3 :: a4 :: a5 :: some (vi z) :: r) st w K X := Go_iinc dec rfl rfl (fun j h => by have e : j = 5 := (by omega); rw [e]; exact hp) k
theorem Go_ild7 {a0 a1 a2 a3 a4 a5 a6 : Option Vl} {r : List (Option Vl)} {z : Int} (dec : decode cc pc = .ok (.iload 7, 2)) (k : Go G cc mt nx d bc bs (pc + 2) (a0 :: a1 :: a2 :: a3 :: a4 :: a5 :: a6 :: some (vi z) :: r) (vi z :: st) w K X) : Go G cc mt nx d bc bs pc (a0 :: a1 :: a2 :: a3 :: a4 :: a5 :: a6 :: some (vi z) :: r) st w K X := Go_iload dec rfl k
theorem Go_ald7 {a0 a1 a2 a3 a4 a5 a6 : Option Vl} {r : List (Option Vl)} {z : Nat} (dec : decode cc pc = .ok (.aload 7, 2)) (k : Go G cc mt nx d bc bs (pc + 2) (a0 :: a1 :: a2 :: a3 :: a4 :: a5 :: a6 :: some (vr z) :: r) (vr z :: st) w K X) : Go G cc mt nx d bc bs pc (a0 :: a1 :: a2 :: a3 :: a4 :: a5 :: a6 :: some (vr z) :: r) st w K X := Go_aload dec rfl k
theorem Go_ist7 {a0 a1 a2 a3 a4 a5 a6 : Option Vl} {r : List (Option Vl)} {x : Option Vl} {z : Int} (dec : decode cc pc = .ok (.istore 7, 2)) (hp : c1 a6 = true) (k : Go G cc mt nx d bc bs (pc + 2) (a0 :: a1 :: a2 :: a3 :: a4 :: a5 :: a6 :: some (vi z) :: r) st w K X) : Go G cc mt nx d bc bs pc (a0 :: a1 :: a2 :: a3 :: a4 :: a5 :: a6 :: x :: r) (vi z :: st) w K X := Go_istore dec rfl (by simp) (fun j h => by have e : j = 6 := (by omega); rw [e]; exact hp) k
theorem Go_ast7 {a0 a1 a2 a3 a4 a5 a6 : Option Vl} {r : List (Option Vl)} {x : Option Vl} {z : Nat} (dec : decode cc pc = .ok (.astore 7, 2)) (hp : c1 a6 = true) (k : Go G cc mt nx d bc bs (pc + 2) (a0 :: a1 :: a2 :: a3 :: a4 :: a5 :: a6 :: some (vr z) :: r) st w K X) : Go G cc mt nx d bc bs pc (a0 :: a1 :: a2 :: a3 :: a4 :: a5 :: a6 :: x :: r) (vr z :: st) w K X := Go_astore dec rfl (by simp) (fun j h => by have e : j = 6 := (by omega); rw [e]; exact hp) k
theorem Go_inc7 {a0 a1 a2 a3 a4 a5 a6 : Option Vl} {r : List (Option Vl)} {z n : Int} (dec : decode cc pc = .ok (.iinc 7 n, 3)) (hp : c1 a6 = true) (k : Go G cc mt nx d bc bs (pc + 3) (a0 :: a1 :: a2 :: a3 :: a4 :: a5 :: a6 :: some (vi (z + n)) :: r) st w K X) : Go G cc mt nx d bc bs pc (a0 :: a1 :: a2 :: a3 :: a4 :: a5 :: a6 :: some (vi z) :: r) st w K X := Go_iinc dec rfl rfl (fun j h => by have e : j = 6 := (by omega); rw [e]; exact hp) k
theorem Go_ild8 {a0 a1 a2 a3 a4 a5 a6 a7 : Option Vl} {r : List (Option Vl)} {z : Int} (dec : decode cc pc = .ok (.iload 8, 2)) (k : Go G cc mt nx d bc bs (pc + 2) (a0 :: a1 :: a2 :: a3 :: a4 :: a5 :: a6 :: a7 :: some (vi z) :: r) (vi z :: st) w K X) : Go G cc mt nx d bc bs pc (a0 :: a1 :: a2 :: a3 :: a4 :: a5 :: a6 :: a7 :: some (vi z) :: r) st w K X := Go_iload dec rfl k
theorem Go_ald8 {a0 a1 a2 a3 a4 a5 a6 a7 : Option Vl} {r : List (Option Vl)} {z : Nat} (dec : decode cc pc = .ok (.aload 8, 2)) (k : Go G cc mt nx d bc bs (pc + 2) (a0 :: a1 :: a2 :: a3 :: a4 :: a5 :: a6 :: a7 :: some (vr z) :: r) (vr z :: st) w K X) : Go G cc mt nx d bc bs pc (a0 :: a1 :: a2 :: a3 :: a4 :: a5 :: a6 :: a7 :: some (vr z) :: r) st w K X := Go_aload dec rfl k
theorem Go_ist8 {a0 a1 a2 a3 a4 a5 a6 a7 : Option Vl} {r : List (Option Vl)} {x : Option Vl} {z : Int} (dec : decode cc pc = .ok (.istore 8, 2)) (hp : c1 a7 = true) (k : Go G cc mt nx d bc bs (pc + 2) (a0 :: a1 :: a2 :: a3 :: a4 :: a5 :: a6 :: a7 :: some (vi z) :: r) st w K X) : Go G cc mt nx d bc bs pc (a0 :: a1 :: a2 :: a3 :: a4 :: a5 :: a6 :: a7 :: x :: r) (vi z :: st) w K X := Go_istore dec rfl (by simp) (fun j h => by have e : j = 7 := (by omega); rw [e]; exact hp) k
theorem Go_ast8 {a0 a1 a2 a3 a4 a5 a6 a7 : Option Vl} {r : List (Option Vl)} {x : Option Vl} {z : Nat} (dec : decode cc pc = .ok (.astore 8, 2)) (hp : c1 a7 = true) (k : Go G cc mt nx d bc bs (pc + 2) (a0 :: a1 :: a2 :: a3 :: a4 :: a5 :: a6 :: a7 :: some (vr z) :: r) st w K X) : Go G cc mt nx d bc bs pc (a0 :: a1 :: a2 :: a3 :: a4 :: a5 :: a6 :: a7 :: x :: r) (vr z :: st) w K X := Go_astore dec rfl (by simp) (fun j h => by have e : j = 7 := (by omega); rw [e]; exact hp) k
theorem Go_inc8 {a0 a1 a2 a3 a4 a5 a6 a7 : Option Vl} {r : List (Option Vl)} {z n : Int} (dec : decode cc pc = .ok (.iinc 8 n, 3)) (hp : c1 a7 = true) (k : Go G cc mt nx d bc bs (pc + 3) (a0 :: a1 :: a2 :: a3 :: a4 :: a5 :: a6 :: a7 :: some (vi (z + n)) :: r) st w K X) : Go G cc mt nx d bc bs pc (a0 :: a1 :: a2 :: a3 :: a4 :: a5 :: a6 :: a7 :: some (vi z) :: r) st w K X := Go_iinc dec rfl rfl (fun j h => by have e : j = 7 := (by omega); rw [e]; exact hp) k
theorem Go_ild9 {a0 a1 a2 a3 a4 a5 a6 a7 a8 : Option Vl} {r : List (Option Vl)} {z : Int} (dec : decode cc pc = .ok (.iload 9, 2)) (k : Go G cc mt nx d bc bs (pc + 2) (a0 :: a1 :: a2 :: a3 :: a4 :: a5 :: a6 :: a7 :: a8 :: some (vi z) :: r) (vi z :: st) w K X) : Go G cc mt nx d bc bs pc (a0 :: a1 :: a2 :: a3 :: a4 :: a5 :: a6 :: a7 :: a8 :: some (vi z) :: r) st w K X := Go_iload dec rfl k
theorem Go_ald9 {a0 a1 a2 a3 a4 a5 a6 a7 a8 : Option Vl} {r : List (Option Vl)} {z : Nat} (dec : decode cc pc = .ok (.aload 9, 2)) (k : Go G cc mt nx d bc bs (pc + 2) (a0 :: a1 :: a2 :: a3 :: a4 :: a5 :: a6 :: a7 :: a8 :: some (vr z) :: r) (vr z :: st) w K X) : Go G cc mt nx d bc bs pc (a0 :: a1 :: a2 :: a3 :: a4 :: a5 :: a6 :: a7 :: a8 :: some (vr z) :: r) st w K X := Go_aload dec rfl k
theorem Go_ist9 {a0 a1 a2 a3 a4 a5 a6 a7 a8 : Option Vl} {r : List (Option Vl)} {x : Option Vl} {z : Int} (dec : decode cc pc = .ok (.istore 9, 2)) (hp : c1 a8 = true) (k : Go G cc mt nx d bc bs (pc + 2) (a0 :: a1 :: a2 :: a3 :: a4 :: a5 :: a6 :: a7 :: a8 :: some (vi z) :: r) st w K X) : Go G cc mt nx d bc bs pc (a0 :: a1 :: a2 :: a3 :: a4 :: a5 :: a6 :: a7 :: a8 :: x :: r) (vi z :: st) w K X := Go_istore dec rfl (by simp) (fun j h => by have e : j = 8 := (by omega); rw [e]; exact hp) k
theorem Go_ast9 {a0 a1 a2 a3 a4 a5 a6 a7 a8 : Option Vl} {r : List (Option Vl)} {x : Option Vl} {z : Nat} (dec : decode cc pc = .ok (.astore 9, 2)) (hp : c1 a8 = true) (k : Go G cc mt nx d bc bs (pc + 2) (a0 :: a1 :: a2 :: a3 :: a4 :: a5 :: a6 :: a7 :: a8 :: some (vr z) :: r) st w K X) : Go G cc mt nx d bc bs pc (a0 :: a1 :: a2 :: a3 :: a4 :: a5 :: a6 :: a7 :: a8 :: x :: r) (vr z :: st) w K X := Go_astore dec rfl (by simp) (fun j h => by have e : j = 8 := (by omega); rw [e]; exact hp) k
theorem Go_inc9 {a0 a1 a2 a3 a4 a5 a6 a7 a8 : Option Vl} {r : List (Option Vl)} {z n : Int} (dec : decode cc pc = .ok (.iinc 9 n, 3)) (hp : c1 a8 = true) (k : Go G cc mt nx d bc bs (pc + 3) (a0 :: a1 :: a2 :: a3 :: a4 :: a5 :: a6 :: a7 :: a8 :: some (vi (z + n)) :: r) st w K X) : Go G cc mt nx d bc bs pc (a0 :: a1 :: a2 :: a3 :: a4 :: a5 :: a6 :: a7 :: a8 :: some (vi z) :: r) st w K X := Go_iinc dec rfl rfl (fun j h => by have e : j = 8 := (by omega); rw [e]; exact hp) k
theorem Go_ild10 {a0 a1 a2 a3 a4 a5 a6 a7 a8 a9 : Option Vl} {r : List (Option Vl)} {z : Int} (dec : decode cc pc = .ok (.iload 10, 2)) (k : Go G cc mt nx d bc bs (pc + 2) (a0 :: a1 :: a2 :: a3 :: a4 :: a5 :: a6 :: a7 :: a8 :: a9 :: some (vi z) :: r) (vi z :: st) w K X) : Go G cc mt nx d bc bs pc (a0 :: a1 :: a2 :: a3 :: a4 :: a5 :: a6 :: a7 :: a8 :: a9 :: some (vi z) :: r) st w K X := Go_iload dec rfl k
theorem Go_ald10 {a0 a1 a2 a3 a4 a5 a6 a7 a8 a9 : Option Vl} {r : List (Option Vl)} {z : Nat} (dec : decode cc pc = .ok (.aload 10, 2)) (k : Go G cc mt nx d bc bs (pc + 2) (a0 :: a1 :: a2 :: a3 :: a4 :: a5 :: a6 :: a7 :: a8 :: a9 :: some (vr z) :: r) (vr z :: st) w K X) : Go G cc mt nx d bc bs pc (a0 :: a1 :: a2 :: a3 :: a4 :: a5 :: a6 :: a7 :: a8 :: a9 :: some (vr z) :: r) st w K X := Go_aload dec rfl k
theorem Go_ist10 {a0 a1 a2 a3 a4 a5 a6 a7 a8 a9 : Option Vl} {r : List (Option Vl)} {x : Option Vl} {z : Int} (dec : decode cc pc = .ok (.istore 10, 2)) (hp : c1 a9 = true) (k : Go G cc mt nx d bc bs (pc + 2) (a0 :: a1 :: a2 :: a3 :: a4 :: a5 :: a6 :: a7 :: a8 :: a9 :: some (vi z) :: r) st w K X) : Go G cc mt nx d bc bs pc (a0 :: a1 :: a2 :: a3 :: a4 :: a5 :: a6 :: a7 :: a8 :: a9 :: x :: r) (vi z :: st) w K X := Go_istore dec rfl (by simp) (fun j h => by have e : j = 9 := (by omega); rw [e]; exact hp) k
theorem Go_ast10 {a0 a1 a2 a3 a4 a5 a6 a7 a8 a9 : Option Vl} {r : List (Option Vl)} {x : Option Vl} {z : Nat} (dec : decode cc pc = .ok (.astore 10, 2)) (hp : c1 a9 = true) (k : Go G cc mt nx d bc bs (pc + 2) (a0 :: a1 :: a2 :: a3 :: a4 :: a5 :: a6 :: a7 :: a8 :: a9 :: some (vr z) :: r) st w K X) : Go G cc mt nx d bc bs pc (a0 :: a1 :: a2 :: a3 :: a4 :: a5 :: a6 :: a7 :: a8 :: a9 :: x :: r) (vr z :: st) w K X := Go_astore dec rfl (by simp) (fun j h => by have e : j = 9 := (by omega); rw [e]; exact hp) k
theorem Go_inc10 {a0 a1 a2 a3 a4 a5 a6 a7 a8 a9 : Option Vl} {r : List (Option Vl)} {z n : Int} (dec : decode cc pc = .ok (.iinc 10 n, 3)) (hp : c1 a9 = true) (k : Go G cc mt nx d bc bs (pc + 3) (a0 :: a1 :: a2 :: a3 :: a4 :: a5 :: a6 :: a7 :: a8 :: a9 :: some (vi (z + n)) :: r) st w K X) : Go G cc mt nx d bc bs pc (a0 :: a1 :: a2 :: a3 :: a4 :: a5 :: a6 :: a7 :: a8 :: a9 :: some (vi z) :: r) st w K X := Go_iinc dec rfl rfl (fun j h => by have e : j = 9 := (by omega); rw [e]; exact hp) k
theorem Go_ild11 {a0 a1 a2 a3 a4 a5 a6 a7 a8 a9 a10 : Option Vl} {r : List (Option Vl)} {z : Int} (dec : decode cc pc = .ok (.iload 11, 2)) (k : Go G cc mt nx d bc bs (pc + 2) (a0 :: a1 :: a2 :: a3 :: a4 :: a5 :: a6 :: a7 :: a8 :: a9 :: a10 :: some (vi z) :: r) (vi z :: st) w K X) : Go G cc mt nx d bc bs pc (a0 :: a1 :: a2 :: a3 :: a4 :: a5 :: a6 :: a7 :: a8 :: a9 :: a10 :: some (vi z) :: r) st w K X := Go_iload dec rfl k
theorem Go_ald11 {a0 a1 a2 a3 a4 a5 a6 a7 a8 a9 a10 : Option Vl} {r : List (Option Vl)} {z : Nat} (dec : decode cc pc = .ok (.aload 11, 2)) (k : Go G cc mt nx d bc bs (pc + 2) (a0 :: a1 :: a2 :: a3 :: a4 :: a5 :: a6 :: a7 :: a8 :: a9 :: a10 :: some (vr z) :: r) (vr z :: st) w K X) : Go G cc mt nx d bc bs pc (a0 :: a1 :: a2 :: a3 :: a4 :: a5 :: a6 :: a7 :: a8 :: a9 :: a10 :: some (vr z) :: r) st w K X := Go_aload dec rfl k
theorem Go_ist11 {a0 a1 a2 a3 a4 a5 a6 a7 a8 a9 a10 : Option Vl} {r : List (Option Vl)} {x : Option Vl} {z : Int} (dec : decode cc pc = .ok (.istore 11, 2)) (hp : c1 a10 = true) (k : Go G cc mt nx d bc bs (pc + 2) (a0 :: a1 :: a2 :: a3 :: a4 :: a5 :: a6 :: a7 :: a8 :: a9 :: a10 :: some (vi z) :: r) st w K X) : Go G cc mt nx d bc bs pc (a0 :: a1 :: a2 :: a3 :: a4 :: a5 :: a6 :: a7 :: a8 :: a9 :: a10 :: x :: r) (vi z :: st) w K X := Go_istore dec rfl (by simp) (fun j h => by have e : j = 10 := (by omega); rw [e]; exact hp) k
theorem Go_ast11 {a0 a1 a2 a3 a4 a5 a6 a7 a8 a9 a10 : Option Vl} {r : List (Option Vl)} {x : Option Vl} {z : Nat} (dec : decode cc pc = .ok (.astore 11, 2)) (hp : c1 a10 = true) (k : Go G cc mt nx d bc bs (pc + 2) (a0 :: a1 :: a2 :: a3 :: a4 :: a5 :: a6 :: a7 :: a8 :: a9 :: a10 :: some (vr z) :: r) st w K X) : Go G cc mt nx d bc bs pc (a0 :: a1 :: a2 :: a3 :: a4 :: a5 :: a6 :: a7 :: a8 :: a9 :: a10 :: x :: r) (vr z :: st) w K X := Go_astore dec rfl (by simp) (fun j h => by have e : j = 10 := (by omega); rw [e]; exact hp) k
theorem Go_inc11 {a0 a1 a2 a3 a4 a5 a6 a7 a8 a9 a10 : Option Vl} {r : List (Option Vl)} {z n : Int} (dec : decode cc pc = .ok (.iinc 11 n, 3)) (hp : c1 a10 = true) (k : Go G cc mt nx d bc bs (pc + 3) (a0 :: a1 :: a2 :: a3 :: a4 :: a5 :: a6 :: a7 :: a8 :: a9 :: a10 :: some (vi (z + n)) :: r) st w K X) : Go G cc mt nx d bc bs pc (a0 :: a1 :: a2 :: a3 :: a4 :: a5 :: a6 :: a7 :: a8 :: a9 :: a10 :: some (vi z) :: r) st w K X := Go_iinc dec rfl rfl (fun j h => by have e : j = 10 := (by omega); rw [e]; exact hp) k
theorem Go_ild12 {a0 a1 a2 a3 a4 a5 a6 a7 a8 a9 a10 a11 : Option Vl} {r : List (Option Vl)} {z : Int} (dec : decode cc pc = .ok (.iload 12, 2)) (k : Go G cc mt nx d bc bs (pc + 2) (a0 :: a1 :: a2 :: a3 :: a4 :: a5 :: a6 :: a7 :: a8 :: a9 :: a10 :: a11 :: some (vi z) :: r) (vi z :: st) w K X) : Go G cc mt nx d bc bs pc (a0 :: a1 :: a2 :: a3 :: a4 :: a5 :: a6 :: a7 :: a8 :: a9 :: a10 :: a11 :: some (vi z) :: r) st w K X := Go_iload dec rfl k
theorem Go_ald12 {a0 a1 a2 a3 a4 a5 a6 a7 a8 a9 a10 a11 : Option Vl} {r : List (Option Vl)} {z : Nat} (dec : decode cc pc = .ok (.aload 12, 2)) (k : Go G cc mt nx d bc bs (pc + 2) (a0 :: a1 :: a2 :: a3 :: a4 :: a5 :: a6 :: a7 :: a8 :: a9 :: a10 :: a11 :: some (vr z) :: r) (vr z :: st) w K X) : Go G cc mt nx d bc bs pc (a0 :: a1 :: a2 :: a3 :: a4 :: a5 :: a6 :: a7 :: a8 :: a9 :: a10 :: a11 :: some (vr z) :: r) st w K X := Go_aload dec rfl k
theorem Go_ist12 {a0 a1 a2 a3 a4 a5 a6 a7 a8 a9 a10 a11 : Option Vl} {r : List (Option Vl)} {x : Option Vl} {z : Int} (dec : decode cc pc = .ok (.istore 12, 2)) (hp : c1 a11 = true) (k : Go G cc mt nx d bc bs (pc + 2) (a0 :: a1 :: a2 :: a3 :: a4 :: a5 :: a6 :: a7 :: a8 :: a9 :: a10 :: a11 :: some (vi z) :: r) st w K X) : Go G cc mt nx d bc bs pc (a0 :: a1 :: a2 :: a3 :: a4 :: a5 :: a6 :: a7 :: a8 :: a9 :: a10 :: a11 :: x :: r) (vi z :: st) w K X := Go_istore dec rfl (by simp) (fun j h => by have e : j = 11 := (by omega); rw [e]; exact hp) k
theorem Go_ast12 {a0 a1 a2 a3 a4 a5 a6 a7 a8 a9 a10 a11 : Option Vl} {r : List (Option Vl)} {x : Option Vl} {z : Nat} (dec : decode cc pc = .ok (.astore 12, 2)) (hp : c1 a11 = true) (k : Go G cc mt nx d bc bs (pc + 2) (a0 :: a1 :: a2 :: a3 :: a4 :: a5 :: a6 :: a7 :: a8 :: a9 :: a10 :: a11 :: some (vr z) :: r) st w K X) : Go G cc mt nx d bc bs pc (a0 :: a1 :: a2 :: a3 :: a4 :: a5 :: a6 :: a7 :: a8 :: a9 :: a10 :: a11 :: x :: r) (vr z :: st) w K X := Go_astore dec rfl (by simp) (fun j h => by have e : j = 11 := (by omega); rw [e]; exact hp) k
theorem Go_inc12 {a0 a1 a2 a3 a4 a5 a6 a7 a8 a9 a10 a11 : Option Vl} {r : List (Option Vl)} {z n : Int} (dec : decode cc pc = .ok (.iinc 12 n, 3)) (hp : c1 a11 = true) (k : Go G cc mt nx d bc bs (pc + 3) (a0 :: a1 :: a2 :: a3 :: a4 :: a5 :: a6 :: a7 :: a8 :: a9 :: a10 :: a11 :: some (vi (z + n)) :: r) st w K X) : Go G cc mt nx d bc bs pc (a0 :: a1 :: a2 :: a3 :: a4 :: a5 :: a6 :: a7 :: a8 :: a9 :: a10 :: a11 :: some (vi z) :: r) st w K X := Go_iinc dec rfl rfl (fun j h => by have e : j = 11 := (by omega); rw [e]; exact hp) k
theorem Go_ild13 {a0 a1 a2 a3 a4 a5 a6 a7 a8 a9 a10 a11 a12 : Option Vl} {r : List (Option Vl)} {z : Int} (dec : decode cc pc = .ok (.iload 13, 2)) (k : Go G cc mt nx d bc bs (pc + 2) (a0 :: a1 :: a2 :: a3 :: a4 :: a5 :: a6 :: a7 :: a8 :: a9 :: a10 :: a11 :: a12 :: some (vi z) :: r) (vi z :: st) w K X) : Go G cc mt nx d bc bs pc (a0 :: a1 :: a2 :: a3 :: a4 :: a5 :: a6 :: a7 :: a8 :: a9 :: a10 :: a11 :: a12 :: some (vi z) :: r) st w K X := Go_iload dec rfl k
theorem Go_ald13 {a0 a1 a2 a3 a4 a5 a6 a7 a8 a9 a10 a11 a12 : Option Vl} {r : List (Option Vl)} {z : Nat} (dec : decode cc pc = .ok (.aload 13, 2)) (k : Go G cc mt nx d bc bs (pc + 2) (a0 :: a1 :: a2 :: a3 :: a4 :: a5 :: a6 :: a7 :: a8 :: a9 :: a10 :: a11 :: a12 :: some (vr z) :: r) (vr z :: st) w K X) : Go G cc mt nx d bc bs pc (a0 :: a1 :: a2 :: a3 :: a4 :: a5 :: a6 :: a7 :: a8 :: a9 :: a10 :: a11 :: a12 :: some (vr z) :: r) st w K X := Go_aload dec rfl k
theorem Go_ist13 {a0 a1 a2 a3 a4 a5 a6 a7 a8 a9 a10 a11 a12 : Option Vl} {r : List (Option Vl)} {x : Option Vl} {z : Int} (dec : decode cc pc = .ok (.istore 13, 2)) (hp : c1 a12 = true) (k : Go G cc mt nx d bc bs (pc + 2) (a0 :: a1 :: a2 :: a3 :: a4 :: a5 :: a6 :: a7 :: a8 :: a9 :: a10 :: a11 :: a12 :: some (vi z) :: r) st w K X) : Go G cc mt nx d bc bs pc (a0 :: a1 :: a2 :: a3 :: a4 :: a5 :: a6 :: a7 :: a8 :: a9 :: a10 :: a11 :: a12 :: x :: r) (vi z :: st) w K X := Go_istore dec rfl (by simp) (fun j h => by have e : j = 12 := (by omega); rw [e]; exact hp) k
theorem Go_ast13 {a0 a1 a2 a3 a4 a5 a6 a7 a8 a9 a10 a11 a12 : Option Vl} {r : List (Option Vl)} {x : Option Vl} {z : Nat} (dec : decode cc pc = .ok (.astore 13, 2)) (hp : c1 a12 = true) (k : Go G cc mt nx d bc bs (pc + 2) (a0 :: a1 :: a2 :: a3 :: a4 :: a5 :: a6 :: a7 :: a8 :: a9 :: a10 :: a11 :: a12 :: some (vr z) :: r) st w K X) : Go G cc mt nx d bc bs pc (a0 :: a1 :: a2 :: a3 :: a4 :: a5 :: a6 :: a7 :: a8 :: a9 :: a10 :: a11 :: a12 :: x :: r) (vr z :: st) w K X := Go_astore dec rfl (by simp) (fun j h => by have e : j = 12 := (by omega); rw [e]; exact hp) k
theorem Go_inc13 {a0 a1 a2 a3 a4 a5 a6 a7 a8 a9 a10 a11 a12 : Option Vl} {r : List (Option Vl)} {z n : Int} (dec : decode cc pc = .ok (.iinc 13 n, 3)) (hp : c1 a12 = true) (k : Go G cc mt nx d bc bs (pc + 3) (a0 :: a1 :: a2 :: a3 :: a4 :: a5 :: a6 :: a7 :: a8 :: a9 :: a10 :: a11 :: a12 :: some (vi (z + n)) :: r) st w K X) : Go G cc mt nx d bc bs pc (a0 :: a1 :: a2 :: a3 :: a4 :: a5 :: a6 :: a7 :: a8 :: a9 :: a10 :: a11 :: a12 :: some (vi z) :: r) st w K X := Go_iinc dec rfl rfl (fun j h => by have e : j = 12 := (by omega); rw [e]; exact hp) k
theorem Go_ild14 {a0 a1 a2 a3 a4 a5 a6 a7 a8 a9 a10 a11 a12 a13 : Option Vl} {r : List (Option Vl)} {z : Int} (dec : decode cc pc = .ok (.iload 14, 2)) (k : Go G cc mt nx d bc bs (pc + 2) (a0 :: a1 :: a2 :: a3 :: a4 :: a5 :: a6 :: a7 :: a8 :: a9 :: a10 :: a11 :: a12 :: a13 :: some (vi z) :: r) (vi z :: st) w K X) : Go G cc mt nx d bc bs pc (a0 :: a1 :: a2 :: a3 :: a4 :: a5 :: a6 :: a7 :: a8 :: a9 :: a10 :: a11 :: a12 :: a13 :: some (vi z) :: r) st w K X := Go_iload dec rfl k
theorem Go_ald14 {a0 a1 a2 a3 a4 a5 a6 a7 a8 a9 a10 a11 a12 a13 : Option Vl} {r : List (Option Vl)} {z : Nat} (dec : decode cc pc = .ok (.aload 14, 2)) (k : Go G cc mt nx d bc bs (pc + 2) (a0 :: a1 :: a2 :: a3 :: a4 :: a5 :: a6 :: a7 :: a8 :: a9 :: a10 :: a11 :: a12 :: a13 :: some (vr z) :: r) (vr z :: st) w K X) : Go G cc mt nx d bc bs pc (a0 :: a1 :: a2 :: a3 :: a4 :: a5 :: a6 :: a7 :: a8 :: a9 :: a10 :: a11 :: a12 :: a13 :: some (vr z) :: r) st w K X := Go_aload dec rfl k
theorem Go_ist14 {a0 a1 a2 a3 a4 a5 a6 a7 a8 a9 a10 a11 a12 a13 : Option Vl} {r : List (Option Vl)} {x : Option Vl} {z : Int} (dec : decode cc pc = .ok (.istore 14, 2)) (hp : c1 a13 = true) (k : Go G cc mt nx d bc bs (pc + 2) (a0 :: a1 :: a2 :: a3 :: a4 :: a5 :: a6 :: a7 :: a8 :: a9 :: a10 :: a11 :: a12 :: a13 :: some (vi z) :: r) st w K X) : Go G cc mt nx d bc bs pc (a0 :: a1 :: a2 :: a3 :: a4 :: a5 :: a6 :: a7 :: a8 :: a9 :: a10 :: a11 :: a12 :: a13 :: x :: r) (vi z :: st) w K X := Go_istore dec rfl (by simp) (fun j h => by have e : j = 13 := (by omega); rw [e]; exact hp) k
theorem Go_ast14 {a0 a1 a2 a3 a4 a5 a6 a7 a8 a9 a10 a11 a12 a13 : Option Vl} {r : List (Option Vl)} {x : Option Vl} {z : Nat} (dec : decode cc pc = .ok (.astore 14, 2)) (hp : c1 a13 = true) (k : Go G cc mt nx d bc bs (pc + 2) (a0 :: a1 :: a2 :: a3 :: a4 :: a5 :: a6 :: a7 :: a8 :: a9 :: a10 :: a11 :: a12 :: a13 :: some (vr z) :: r) st w K X) : Go G cc mt nx d bc bs pc (a0 :: a1 :: a2 :: a3 :: a4 :: a5 :: a6 :: a7 :: a8 :: a9 :: a10 :: a11 :: a12 :: a13 :: x :: r) (vr z :: st) w K X := Go_astore dec rfl (by simp) (fun j h => by have e : j = 13 := (by omega); rw [e]; exact hp) k
theorem Go_inc14 {a0 a1 a2 a3 a4 a5 a6 a7 a8 a9 a10 a11 a12 a13 : Option Vl} {r : List (Option Vl)} {z n : Int} (dec : decode cc pc = .ok (.iinc 14 n, 3)) (hp : c1 a13 = true) (k : Go G cc mt nx d bc bs (pc + 3) (a0 :: a1 :: a2 :: a3 :: a4 :: a5 :: a6 :: a7 :: a8 :: a9 :: a10 :: a11 :: a12 :: a13 :: some (vi (z + n)) :: r) st w K X) : Go G cc mt nx d bc bs pc (a0 :: a1 :: a2 :: a3 :: a4 :: a5 :: a6 :: a7 :: a8 :: a9 :: a10 :: a11 :: a12 :: a13 :: some (vi z) :: r) st w K X := Go_iinc dec rfl rfl (fun j h => by have e : j = 13 := (by omega); rw [e]; exact hp) k
theorem Go_ild15 {a0 a1 a2 a3 a4 a5 a6 a7 a8 a9 a10 a11 a12 a13 a14 : Option Vl} {r : List (Option Vl)} {z : Int} (dec : decode cc pc = .ok (.iload 15, 2)) (k : Go G cc mt nx d bc bs (pc + 2) (a0 :: a1 :: a2 :: a3 :: a4 :: a5 :: a6 :: a7 :: a8 :: a9 :: a10 :: a11 :: a12 :: a13 :: a14 :: some (vi z) :: r) (vi z :: st) w K X) : Go G cc mt nx d bc bs pc (a0 :: a1 :: a2 :: a3 :: a4 :: a5 :: a6 :: a7 :: a8 :: a9 :: a10 :: a11 :: a12 :: a13 :: a14 :: some (vi z) :: r) st w K X := Go_iload dec rfl k
theorem Go_ald15 {a0 a1 a2 a3 a4 a5 a6 a7 a8 a9 a10 a11 a12 a13 a14 : Option Vl} {r : List (Option Vl)} {z : Nat} (dec : decode cc pc = .ok (.aload 15, 2)) (k : Go G cc mt nx d bc bs (pc + 2) (a0 :: a1 :: a2 :: a3 :: a4 :: a5 :: a6 :: a7 :: a8 :: a9 :: a10 :: a11 :: a12 :: a13 :: a14 :: some (vr z) :: r) (vr z :: st) w K X) : Go G cc mt nx d bc bs pc (a0 :: a1 :: a2 :: a3 :: a4 :: a5 :: a6 :: a7 :: a8 :: a9 :: a10 :: a11 :: a12 :: a13 :: a14 :: some (vr z) :: r) st w K X := Go_aload dec rfl k
theorem Go_ist15 {a0 a1 a2 a3 a4 a5 a6 a7 a8 a9 a10 a11 a12 a13 a14 : Option Vl} {r : List (Option Vl)} {x : Option Vl} {z : Int} (dec : decode cc pc = .ok (.istore 15, 2)) (hp : c1 a14 = true) (k : Go G cc mt nx d bc bs (pc + 2) (a0 :: a1 :: a2 :: a3 :: a4 :: a5 :: a6 :: a7 :: a8 :: a9 :: a10 :: a11 :: a12 :: a13 :: a14 :: some (vi z) :: r) st w K X) : Go G cc mt nx d bc bs pc (a0 :: a1 :: a2 :: a3 :: a4 :: a5 :: a6 :: a7 :: a8 :: a9 :: a10 :: a11 :: a12 :: a13 :: a14 :: x :: r) (vi z :: st) w K X := Go_istore dec rfl (by simp) (fun j h => by have e : j = 14 := (by omega); rw [e]; exact hp) k
theorem Go_ast15 {a0 a1 a2 a3 a4 a5 a6 a7 a8 a9 a10 a11 a12 a13 a14 : Option Vl} {r : List (Option Vl)} {x : Option Vl} {z : Nat} (dec : decode cc pc = .ok (.astore 15, 2)) (hp : c1 a14 = true) (k : Go G cc mt nx d bc bs (pc + 2) (a0 :: a1 :: a2 :: a3 :: a4 :: a5 :: a6 :: a7 :: a8 :: a9 :: a10 :: a11 :: a12 :: a13 :: a14 :: some (vr z) :: r) st w K X) : Go G cc mt nx d bc bs pc (a0 :: a1 :: a2 :: a3 :: a4 :: a5 :: a6 :: a7 :: a8 :: a9 :: a10 :: a11 :: a12 :: a13 :: a14 :: x :: r) (vr z :: st) w K X := Go_astore dec rfl (by simp) (fun j h => by have e : j = 14 := (by omega); rw [e]; exact hp) k
theorem Go_inc15 {a0 a1 a2 a3 a4 a5 a6 a7 a8 a9 a10 a11 a12 a13 a14 : Option Vl} {r : List (Option Vl)} {z n : Int} (dec : decode cc pc = .ok (.iinc 15 n, 3)) (hp : c1 a14 = true) (k : Go G cc mt nx d bc bs (pc + 3) (a0 :: a1 :: a2 :: a3 :: a4 :: a5 :: a6 :: a7 :: a8 :: a9 :: a10 :: a11 :: a12 :: a13 :: a14 :: some (vi (z + n)) :: r) st w K X) : Go G cc mt nx d bc bs pc (a0 :: a1 :: a2 :: a3 :: a4 :: a5 :: a6 :: a7 :: a8 :: a9 :: a10 :: a11 :: a12 :: a13 :: a14 :: some (vi z) :: r) st w K X := Go_iinc dec rfl rfl (fun j h => by have e : j = 14 := (by omega); rw [e]; exact hp) k
theorem Go_ild16 {a0 a1 a2 a3 a4 a5 a6 a7 a8 a9 a10 a11 a12 a13 a14 a15 : Option Vl} {r : List (Option Vl)} {z : Int} (dec : decode cc pc = .ok (.iload 16, 2)) (k : Go G cc mt nx d bc bs (pc + 2) (a0 :: a1 :: a2 :: a3 :: a4 :: a5 :: a6 :: a7 :: a8 :: a9 :: a10 :: a11 :: a12 :: a13 :: a14 :: a15 :: some (vi z) :: r) (vi z :: st) w K X) : Go G cc mt nx d bc bs pc (a0 :: a1 :: a2 :: a3 :: a4 :: a5 :: a6 :: a7 :: a8 :: a9 :: a10 :: a11 :: a12 :: a13 :: a14 :: a15 :: some (vi z) :: r) st w K X := Go_iload dec rfl k
theorem Go_ald16 {a0 a1 a2 a3 a4 a5 a6 a7 a8 a9 a10 a11 a12 a13 a14 a15 : Option Vl} {r : List (Option Vl)} {z : Nat} (dec : decode cc pc = .ok (.aload 16, 2)) (k : Go G cc mt nx d bc bs (pc + 2) (a0 :: a1 :: a2 :: a3 :: a4 :: a5 :: a6 :: a7 :: a8 :: a9 :: a10 :: a11 :: a12 :: a13 :: a14 :: a15 :: some (vr z) :: r) (vr z :: st) w K X) : Go G cc mt nx d bc bs pc (a0 :: a1 :: a2 :: a3 :: a4 :: a5 :: a6 :: a7 :: a8 :: a9 :: a10 :: a11 :: a12 :: a13 :: a14 :: a15 :: some (vr z) :: r) st w K X := Go_aload dec rfl k
theorem Go_ist16 {a0 a1 a2 a3 a4 a5 a6 a7 a8 a9 a10 a11 a12 a13 a14 a15 : Option Vl} {r : List (Option Vl)} {x : Option Vl} {z : Int} (dec : decode cc pc = .ok (.istore 16, 2)) (hp : c1 a15 = true) (k : Go G cc mt nx d bc bs (pc + 2) (a0 :: a1 :: a2 :: a3 :: a4 :: a5 :: a6 :: a7 :: a8 :: a9 :: a10 :: a11 :: a12 :: a13 :: a14 :: a15 :: some (vi z) :: r) st w K X) : Go G cc mt nx d bc bs pc (a0 :: a1 :: a2 :: a3 :: a4 :: a5 :: a6 :: a7 :: a8 :: a9 :: a10 :: a11 :: a12 :: a13 :: a14 :: a15 :: x :: r) (vi z :: st) w K X := Go_istore dec rfl (by simp) (fun j h => by have e : j = 15 := (by omega); rw [e]; exact hp) k
theorem Go_ast16 {a0 a1 a2 a3 a4 a5 a6 a7 a8 a9 a10 a11 a12 a13 a14 a15 : Option Vl} {r : List (Option Vl)} {x : Option Vl} {z : Nat} (dec : decode cc pc = .ok (.astore 16, 2)) (hp : c1 a15 = true) (k : Go G cc mt nx d bc bs (pc + 2) (a0 :: a1 :: a2 :: a3 :: a4 :: a5 :: a6 :: a7 :: a8 :: a9 :: a10 :: a11 :: a12 :: a13 :: a14 :: a15 :: some (vr z) :: r) st w K X) : Go G cc mt nx d bc bs pc (a0 :: a1 :: a2 :: a3 :: a4 :: a5 :: a6 :: a7 :: a8 :: a9 :: a10 :: a11 :: a12 :: a13 :: a14 :: a15 :: x :: r) (vr z :: st) w K X := Go_astore dec rfl (by simp) (fun j h => by have e : j = 15 := (by omega); rw [e]; exact hp) k
theorem Go_inc16 {a0 a1 a2 a3 a4 a5 a6 a7 a8 a9 a10 a11 a12 a13 a14 a15 : Option Vl} {r : List (Option Vl)} {z n : Int} (dec : decode cc pc = .ok (.iinc 16 n, 3)) (hp : c1 a15 = true) (k : Go G cc mt nx d bc bs (pc + 3) (a0 :: a1 :: a2 :: a3 :: a4 :: a5 :: a6 :: a7 :: a8 :: a9 :: a10 :: a11 :: a12 :: a13 :: a14 :: a15 :: some (vi (z + n)) :: r) st w K X) : Go G cc mt nx d bc bs pc (a0 :: a1 :: a2 :: a3 :: a4 :: a5 :: a6 :: a7 :: a8 :: a9 :: a10 :: a11 :: a12 :: a13 :: a14 :: a15 :: some (vi z) :: r) st w K X := Go_iinc dec rfl rfl (fun j h => by have e : j = 15 := (by omega); rw [e]; exact hp) k
theorem Go_ild17 {a0 a1 a2 a3 a4 a5 a6 a7 a8 a9 a10 a11 a12 a13 a14 a15 a16 : Option Vl} {r : List (Option Vl)} {z : Int} (dec : decode cc pc = .ok (.iload 17, 2)) (k : Go G cc mt nx d bc bs (pc + 2) (a0 :: a1 :: a2 :: a3 :: a4 :: a5 :: a6 :: a7 :: a8 :: a9 :: a10 :: a11 :: a12 :: a13 :: a14 :: a15 :: a16 :: some (vi z) :: r) (vi z :: st) w K X) : Go G cc mt nx d bc bs pc (a0 :: a1 :: a2 :: a3 :: a4 :: a5 :: a6 :: a7 :: a8 :: a9 :: a10 :: a11 :: a12 :: a13 :: a14 :: a15 :: a16 :: some (vi z) :: r) st w K X := Go_iload dec rfl k
theorem Go_ald17 {a0 a1 a2 a3 a4 a5 a6 a7 a8 a9 a10 a11 a12 a13 a14 a15 a16 : Option Vl} {r : List (Option Vl)} {z : Nat} (dec : decode cc pc = .ok (.aload 17, 2)) (k : Go G cc mt nx d bc bs (pc + 2) (a0 :: a1 :: a2 :: a3 :: a4 :: a5 :: a6 :: a7 :: a8 :: a9 :: a10 :: a11 :: a12 :: a13 :: a14 :: a15 :: a16 :: some (vr z) :: r) (vr z :: st) w K X) : Go G cc mt nx d bc bs pc (a0 :: a1 :: a2 :: a3 :: a4 :: a5 :: a6 :: a7 :: a8 :: a9 :: a10 :: a11 :: a12 :: a13 :: a14 :: a15 :: a16 :: some (vr z) :: r) st w K X := Go_aload dec rfl k
theorem Go_ist17 {a0 a1 a2 a3 a4 a5 a6 a7 a8 a9 a10 a11 a12 a13 a14 a15 a16 : Option Vl} {r : List (Option Vl)} {x : Option Vl} {z : Int} (dec : decode cc pc = .ok (.istore 17, 2)) (hp : c1 a16 = true) (k : Go G cc mt nx d bc bs (pc + 2) (a0 :: a1 :: a2 :: a3 :: a4 :: a5 :: a6 :: a7 :: a8 :: a9 :: a10 :: a11 :: a12 :: a13 :: a14 :: a15 :: a16 :: some (vi z) :: r) st w K X) : Go G cc mt nx d bc bs pc (a0 :: a1 :: a2 :: a3 :: a4 :: a5 :: a6 :: a7 :: a8 :: a9 :: a10 :: a11 :: a12 :: a13 :: a14 :: a15 :: a16 :: x :: r) (vi z :: st) w K X := Go_istore dec rfl (by simp) (fun j h => by have e : j = 16 := (by omega); rw [e]; exact hp) k
theorem Go_ast17 {a0 a1 a2 a3 a4 a5 a6 a7 a8 a9 a10 a11 a12 a13 a14 a15 a16 : Option Vl} {r : List (Option Vl)} {x : Option Vl} {z : Nat} (dec : decode cc pc = .ok (.astore 17, 2)) (hp : c1 a16 = true) (k : Go G cc mt nx d bc bs (pc + 2) (a0 :: a1 :: a2 :: a3 :: a4 :: a5 :: a6 :: a7 :: a8 :: a9 :: a10 :: a11 :: a12 :: a13 :: a14 :: a15 :: a16 :: some (vr z) :: r) st w K X) : Go G cc mt nx d bc bs pc (a0 :: a1 :: a2 :: a3 :: a4 :: a5 :: a6 :: a7 :: a8 :: a9 :: a10 :: a11 :: a12 :: a13 :: a14 :: a15 :: a16 :: x :: r) (vr z :: st) w K X := Go_astore dec rfl (by simp) (fun j h => by have e : j = 16 := (by omega); rw [e]; exact hp) k
theorem Go_inc17 {a0 a1 a2 a3 a4 a5 a6 a7 a8 a9 a10 a11 a12 a13 a14 a15 a16 : Option Vl} {r : List (Option Vl)} {z n : Int} (dec : decode cc pc = .ok (.iinc 17 n, 3)) (hp : c1 a16 = true) (k : Go G cc mt nx d bc bs (pc + 3) (a0 :: a1 :: a2 :: a3 :: a4 :: a5 :: a6 :: a7 :: a8 :: a9 :: a10 :: a11 :: a12 :: a13 :: a14 :: a15 :: a16 :: some (vi (z + n)) :: r) st w K X) : Go G cc mt nx d bc bs pc (a0 :: a1 :: a2 :: a3 :: a4 :: a5 :: a6 :: a7 :: a8 :: a9 :: a10 :: a11 :: a12 :: a13 :: a14 :: a15 :: a16 :: some (vi z) :: r) st w K X := Go_iinc dec rfl rfl (fun j h => by have e : j = 16 := (by omega); rw [e]; exact hp) k
end GoIdx
section GoFld
variable {G : Gm} {cc : ByteArray} {mt : Mt} {d bc bs pc : Nat} {ls : List (Option Vl)} {st : List Vl} {w : Wd} {K : Kt} {X : Xt}
theorem fty_of {ci k : Nat} {r0 : vw_C} (h : vwCl[ci]? = some r0) (h1 : (r0.2.1 k).2.2.1 = "I" ∧ (r0.2.1 k).2.2.2 = false) : ∀ r : vw_C, vwCl[ci]? = some r → (r.2.1 k).2.2.1 = "I" ∧ (r.2.1 k).2.2.2 = false := fun r hr => by cases h.symm.trans hr; exact h1
theorem gf0_0 {idx : Nat} (dec : decode cc pc = .ok (.getfield idx, 3)) (f : FL mt.2.1 idx 0 0) (k : Go G cc mt none d bc bs (pc + 3) ls (vr 3 :: st) w K X) : Go G cc mt none d bc bs pc ls (vr 2 :: st) w K X := Go_gfr dec f (ci := 0) (k := 0) rfl trivial rfl rfl (by decide) k
theorem gf0_1 {a idx : Nat} (dec : decode cc pc = .ok (.getfield idx, 3)) (f : FL mt.2.1 idx 0 1) (hs : SH a = (1, 0)) (k : Go G cc mt none d bc bs (pc + 3) ls (vi (w a 1) :: st) w K X) : Go G cc mt none d bc bs pc ls (vr a :: st) w K X := Go_gfi dec f hs trivial rfl k
theorem pf0_1 {a idx : Nat} {z : Int} (dec : decode cc pc = .ok (.putfield idx, 3)) (f : FL mt.2.1 idx 0 1) (hs : SH a = (1, 0)) (k : Go G cc mt none d bc bs (pc + 3) ls st (up w a 1 z) K X) : Go G cc mt none d bc bs pc ls (vi z :: vr a :: st) w K X := Go_pfi dec f hs trivial rfl (fty_of (r0 := (RX0, TX0, 8)) rfl ⟨rfl, rfl⟩) k
theorem gf0_2 {a idx : Nat} (dec : decode cc pc = .ok (.getfield idx, 3)) (f : FL mt.2.1 idx 0 2) (hs : SH a = (1, 0)) (k : Go G cc mt none d bc bs (pc + 3) ls (vi (w a 2) :: st) w K X) : Go G cc mt none d bc bs pc ls (vr a :: st) w K X := Go_gfi dec f hs trivial rfl k
theorem pf0_2 {a idx : Nat} {z : Int} (dec : decode cc pc = .ok (.putfield idx, 3)) (f : FL mt.2.1 idx 0 2) (hs : SH a = (1, 0)) (k : Go G cc mt none d bc bs (pc + 3) ls st (up w a 2 z) K X) : Go G cc mt none d bc bs pc ls (vi z :: vr a :: st) w K X := Go_pfi dec f hs trivial rfl (fty_of (r0 := (RX0, TX0, 8)) rfl ⟨rfl, rfl⟩) k
theorem gf0_3 {a idx : Nat} (dec : decode cc pc = .ok (.getfield idx, 3)) (f : FL mt.2.1 idx 0 3) (hs : SH a = (1, 0)) (k : Go G cc mt none d bc bs (pc + 3) ls (vi (w a 3) :: st) w K X) : Go G cc mt none d bc bs pc ls (vr a :: st) w K X := Go_gfi dec f hs trivial rfl k
theorem pf0_3 {a idx : Nat} {z : Int} (dec : decode cc pc = .ok (.putfield idx, 3)) (f : FL mt.2.1 idx 0 3) (hs : SH a = (1, 0)) (k : Go G cc mt none d bc bs (pc + 3) ls st (up w a 3 z) K X) : Go G cc mt none d bc bs pc ls (vi z :: vr a :: st) w K X := Go_pfi dec f hs trivial rfl (fty_of (r0 := (RX0, TX0, 8)) rfl ⟨rfl, rfl⟩) k
theorem gf0_4 {a idx : Nat} (dec : decode cc pc = .ok (.getfield idx, 3)) (f : FL mt.2.1 idx 0 4) (hs : SH a = (1, 0)) (k : Go G cc mt none d bc bs (pc + 3) ls (vi (w a 4) :: st) w K X) : Go G cc mt none d bc bs pc ls (vr a :: st) w K X := Go_gfi dec f hs trivial rfl k
theorem pf0_4 {a idx : Nat} {z : Int} (dec : decode cc pc = .ok (.putfield idx, 3)) (f : FL mt.2.1 idx 0 4) (hs : SH a = (1, 0)) (k : Go G cc mt none d bc bs (pc + 3) ls st (up w a 4 z) K X) : Go G cc mt none d bc bs pc ls (vi z :: vr a :: st) w K X := Go_pfi dec f hs trivial rfl (fty_of (r0 := (RX0, TX0, 8)) rfl ⟨rfl, rfl⟩) k
theorem gf0_5 {idx : Nat} (dec : decode cc pc = .ok (.getfield idx, 3)) (f : FL mt.2.1 idx 0 5) (k : Go G cc mt none d bc bs (pc + 3) ls (vr 4 :: st) w K X) : Go G cc mt none d bc bs pc ls (vr 2 :: st) w K X := Go_gfr dec f (ci := 0) (k := 5) rfl trivial rfl rfl (by decide) k
theorem gf0_6 {idx : Nat} (dec : decode cc pc = .ok (.getfield idx, 3)) (f : FL mt.2.1 idx 0 6) (k : Go G cc mt none d bc bs (pc + 3) ls (vr 5 :: st) w K X) : Go G cc mt none d bc bs pc ls (vr 2 :: st) w K X := Go_gfr dec f (ci := 0) (k := 6) rfl trivial rfl rfl (by decide) k
theorem gf0_7 {a idx : Nat} (dec : decode cc pc = .ok (.getfield idx, 3)) (f : FL mt.2.1 idx 0 7) (hs : SH a = (1, 0)) (k : Go G cc mt none d bc bs (pc + 3) ls (vi (w a 7) :: st) w K X) : Go G cc mt none d bc bs pc ls (vr a :: st) w K X := Go_gfi dec f hs trivial rfl k
theorem pf0_7 {a idx : Nat} {z : Int} (dec : decode cc pc = .ok (.putfield idx, 3)) (f : FL mt.2.1 idx 0 7) (hs : SH a = (1, 0)) (k : Go G cc mt none d bc bs (pc + 3) ls st (up w a 7 z) K X) : Go G cc mt none d bc bs pc ls (vi z :: vr a :: st) w K X := Go_pfi dec f hs trivial rfl (fty_of (r0 := (RX0, TX0, 8)) rfl ⟨rfl, rfl⟩) k
theorem gf1_0 {idx : Nat} (dec : decode cc pc = .ok (.getfield idx, 3)) (f : FL mt.2.1 idx 1 0) (k : Go G cc mt none d bc bs (pc + 3) ls (vr 17 :: st) w K X) : Go G cc mt none d bc bs pc ls (vr 16 :: st) w K X := Go_gfr dec f (ci := 1) (k := 0) rfl trivial rfl rfl (by decide) k
theorem gf1_1 {a idx : Nat} (dec : decode cc pc = .ok (.getfield idx, 3)) (f : FL mt.2.1 idx 1 1) (hs : SH a = (1, 1)) (k : Go G cc mt none d bc bs (pc + 3) ls (vi (w a 1) :: st) w K X) : Go G cc mt none d bc bs pc ls (vr a :: st) w K X := Go_gfi dec f hs trivial rfl k
theorem pf1_1 {a idx : Nat} {z : Int} (dec : decode cc pc = .ok (.putfield idx, 3)) (f : FL mt.2.1 idx 1 1) (hs : SH a = (1, 1)) (k : Go G cc mt none d bc bs (pc + 3) ls st (up w a 1 z) K X) : Go G cc mt none d bc bs pc ls (vi z :: vr a :: st) w K X := Go_pfi dec f hs trivial rfl (fty_of (r0 := (RX1, TX1, 3)) rfl ⟨rfl, rfl⟩) k
theorem gf1_2 {a idx : Nat} (dec : decode cc pc = .ok (.getfield idx, 3)) (f : FL mt.2.1 idx 1 2) (hs : SH a = (1, 1)) (k : Go G cc mt none d bc bs (pc + 3) ls (vi (w a 2) :: st) w K X) : Go G cc mt none d bc bs pc ls (vr a :: st) w K X := Go_gfi dec f hs trivial rfl k
theorem pf1_2 {a idx : Nat} {z : Int} (dec : decode cc pc = .ok (.putfield idx, 3)) (f : FL mt.2.1 idx 1 2) (hs : SH a = (1, 1)) (k : Go G cc mt none d bc bs (pc + 3) ls st (up w a 2 z) K X) : Go G cc mt none d bc bs pc ls (vi z :: vr a :: st) w K X := Go_pfi dec f hs trivial rfl (fty_of (r0 := (RX1, TX1, 3)) rfl ⟨rfl, rfl⟩) k
theorem gf2_0 {idx : Nat} (dec : decode cc pc = .ok (.getfield idx, 3)) (f : FL mt.2.1 idx 2 0) (k : Go G cc mt none d bc bs (pc + 3) ls (vr 46 :: st) w K X) : Go G cc mt none d bc bs pc ls (vr 45 :: st) w K X := Go_gfr dec f (ci := 2) (k := 0) rfl trivial rfl rfl (by decide) k
theorem gf2_1 {a idx : Nat} (dec : decode cc pc = .ok (.getfield idx, 3)) (f : FL mt.2.1 idx 2 1) (hs : SH a = (1, 2)) (k : Go G cc mt none d bc bs (pc + 3) ls (vi (w a 1) :: st) w K X) : Go G cc mt none d bc bs pc ls (vr a :: st) w K X := Go_gfi dec f hs trivial rfl k
theorem pf2_1 {a idx : Nat} {z : Int} (dec : decode cc pc = .ok (.putfield idx, 3)) (f : FL mt.2.1 idx 2 1) (hs : SH a = (1, 2)) (k : Go G cc mt none d bc bs (pc + 3) ls st (up w a 1 z) K X) : Go G cc mt none d bc bs pc ls (vi z :: vr a :: st) w K X := Go_pfi dec f hs trivial rfl (fty_of (r0 := (RX3, TX3, 2)) rfl ⟨rfl, rfl⟩) k
theorem gf3_0 {idx : Nat} (dec : decode cc pc = .ok (.getfield idx, 3)) (f : FL mt.2.1 idx 3 0) (k : Go G cc mt none d bc bs (pc + 3) ls (vr 54 :: st) w K X) : Go G cc mt none d bc bs pc ls (vr 53 :: st) w K X := Go_gfr dec f (ci := 3) (k := 0) rfl trivial rfl rfl (by decide) k
theorem gf3_1 {idx : Nat} (dec : decode cc pc = .ok (.getfield idx, 3)) (f : FL mt.2.1 idx 3 1) (k : Go G cc mt none d bc bs (pc + 3) ls (vr 55 :: st) w K X) : Go G cc mt none d bc bs pc ls (vr 53 :: st) w K X := Go_gfr dec f (ci := 3) (k := 1) rfl trivial rfl rfl (by decide) k
theorem gf3_2 {idx : Nat} (dec : decode cc pc = .ok (.getfield idx, 3)) (f : FL mt.2.1 idx 3 2) (k : Go G cc mt none d bc bs (pc + 3) ls (vr 56 :: st) w K X) : Go G cc mt none d bc bs pc ls (vr 53 :: st) w K X := Go_gfr dec f (ci := 3) (k := 2) rfl trivial rfl rfl (by decide) k
theorem gf3_3 {idx : Nat} (dec : decode cc pc = .ok (.getfield idx, 3)) (f : FL mt.2.1 idx 3 3) (k : Go G cc mt none d bc bs (pc + 3) ls (vr 57 :: st) w K X) : Go G cc mt none d bc bs pc ls (vr 53 :: st) w K X := Go_gfr dec f (ci := 3) (k := 3) rfl trivial rfl rfl (by decide) k
theorem gf3_4 {a idx : Nat} (dec : decode cc pc = .ok (.getfield idx, 3)) (f : FL mt.2.1 idx 3 4) (hs : SH a = (1, 3)) (k : Go G cc mt none d bc bs (pc + 3) ls (vi (w a 4) :: st) w K X) : Go G cc mt none d bc bs pc ls (vr a :: st) w K X := Go_gfi dec f hs trivial rfl k
theorem pf3_4 {a idx : Nat} {z : Int} (dec : decode cc pc = .ok (.putfield idx, 3)) (f : FL mt.2.1 idx 3 4) (hs : SH a = (1, 3)) (k : Go G cc mt none d bc bs (pc + 3) ls st (up w a 4 z) K X) : Go G cc mt none d bc bs pc ls (vi z :: vr a :: st) w K X := Go_pfi dec f hs trivial rfl (fty_of (r0 := (RX4, TX4, 5)) rfl ⟨rfl, rfl⟩) k
theorem gf4_0 {a idx : Nat} (dec : decode cc pc = .ok (.getfield idx, 3)) (f : FL mt.2.1 idx 4 0) (hs : SH a = (1, 4)) (k : Go G cc mt none d bc bs (pc + 3) ls (vr (a + 1) :: st) w K X) : Go G cc mt none d bc bs pc ls (vr a :: st) w K X := Go_gfr dec f hs trivial rfl (by simp only [rv, RF, hs] <;> omega) (by omega) k
theorem gf4_1 {a idx : Nat} (dec : decode cc pc = .ok (.getfield idx, 3)) (f : FL mt.2.1 idx 4 1) (hs : SH a = (1, 4)) (k : Go G cc mt none d bc bs (pc + 3) ls (vr (a + 2) :: st) w K X) : Go G cc mt none d bc bs pc ls (vr a :: st) w K X := Go_gfr dec f hs trivial rfl (by simp only [rv, RF, hs] <;> omega) (by omega) k
theorem gf4_2 {a idx : Nat} (dec : decode cc pc = .ok (.getfield idx, 3)) (f : FL mt.2.1 idx 4 2) (hs : SH a = (1, 4)) (k : Go G cc mt none d bc bs (pc + 3) ls (vi (w a 2) :: st) w K X) : Go G cc mt none d bc bs pc ls (vr a :: st) w K X := Go_gfi dec f hs trivial rfl k
theorem pf4_2 {a idx : Nat} {z : Int} (dec : decode cc pc = .ok (.putfield idx, 3)) (f : FL mt.2.1 idx 4 2) (hs : SH a = (1, 4)) (k : Go G cc mt none d bc bs (pc + 3) ls st (up w a 2 z) K X) : Go G cc mt none d bc bs pc ls (vi z :: vr a :: st) w K X := Go_pfi dec f hs trivial rfl (fty_of (r0 := (RX5, TX5, 6)) rfl ⟨rfl, rfl⟩) k
theorem gf4_3 {a idx : Nat} (dec : decode cc pc = .ok (.getfield idx, 3)) (f : FL mt.2.1 idx 4 3) (hs : SH a = (1, 4)) (k : Go G cc mt none d bc bs (pc + 3) ls (vi (w a 3) :: st) w K X) : Go G cc mt none d bc bs pc ls (vr a :: st) w K X := Go_gfi dec f hs trivial rfl k
theorem pf4_3 {a idx : Nat} {z : Int} (dec : decode cc pc = .ok (.putfield idx, 3)) (f : FL mt.2.1 idx 4 3) (hs : SH a = (1, 4)) (k : Go G cc mt none d bc bs (pc + 3) ls st (up w a 3 z) K X) : Go G cc mt none d bc bs pc ls (vi z :: vr a :: st) w K X := Go_pfi dec f hs trivial rfl (fty_of (r0 := (RX5, TX5, 6)) rfl ⟨rfl, rfl⟩) k
theorem gf4_4 {a idx : Nat} (dec : decode cc pc = .ok (.getfield idx, 3)) (f : FL mt.2.1 idx 4 4) (hs : SH a = (1, 4)) (k : Go G cc mt none d bc bs (pc + 3) ls (vi (w a 4) :: st) w K X) : Go G cc mt none d bc bs pc ls (vr a :: st) w K X := Go_gfi dec f hs trivial rfl k
theorem pf4_4 {a idx : Nat} {z : Int} (dec : decode cc pc = .ok (.putfield idx, 3)) (f : FL mt.2.1 idx 4 4) (hs : SH a = (1, 4)) (k : Go G cc mt none d bc bs (pc + 3) ls st (up w a 4 z) K X) : Go G cc mt none d bc bs pc ls (vi z :: vr a :: st) w K X := Go_pfi dec f hs trivial rfl (fty_of (r0 := (RX5, TX5, 6)) rfl ⟨rfl, rfl⟩) k
theorem gf4_5 {a idx : Nat} (dec : decode cc pc = .ok (.getfield idx, 3)) (f : FL mt.2.1 idx 4 5) (hs : SH a = (1, 4)) (k : Go G cc mt none d bc bs (pc + 3) ls (vi (w a 5) :: st) w K X) : Go G cc mt none d bc bs pc ls (vr a :: st) w K X := Go_gfi dec f hs trivial rfl k
theorem pf4_5 {a idx : Nat} {z : Int} (dec : decode cc pc = .ok (.putfield idx, 3)) (f : FL mt.2.1 idx 4 5) (hs : SH a = (1, 4)) (k : Go G cc mt none d bc bs (pc + 3) ls st (up w a 5 z) K X) : Go G cc mt none d bc bs pc ls (vi z :: vr a :: st) w K X := Go_pfi dec f hs trivial rfl (fty_of (r0 := (RX5, TX5, 6)) rfl ⟨rfl, rfl⟩) k
theorem gf5_0 {idx : Nat} (dec : decode cc pc = .ok (.getfield idx, 3)) (f : FL mt.2.1 idx 5 0) (k : Go G cc mt none d bc bs (pc + 3) ls (vr 52 :: st) w K X) : Go G cc mt none d bc bs pc ls (vr 51 :: st) w K X := Go_gfr dec f (ci := 5) (k := 0) rfl trivial rfl rfl (by decide) k
theorem gf6_0 {a idx : Nat} (dec : decode cc pc = .ok (.getfield idx, 3)) (f : FL mt.2.1 idx 6 0) (hs : SH a = (1, 6)) (k : Go G cc mt none d bc bs (pc + 3) ls (vr (a + 1) :: st) w K X) : Go G cc mt none d bc bs pc ls (vr a :: st) w K X := Go_gfr dec f hs trivial rfl (by simp only [rv, RF, hs] <;> omega) (by omega) k
theorem gf6_1 {a idx : Nat} (dec : decode cc pc = .ok (.getfield idx, 3)) (f : FL mt.2.1 idx 6 1) (hs : SH a = (1, 6)) (k : Go G cc mt none d bc bs (pc + 3) ls (vr (a + 2) :: st) w K X) : Go G cc mt none d bc bs pc ls (vr a :: st) w K X := Go_gfr dec f hs trivial rfl (by simp only [rv, RF, hs] <;> omega) (by omega) k
theorem gf6_2 {a idx : Nat} (dec : decode cc pc = .ok (.getfield idx, 3)) (f : FL mt.2.1 idx 6 2) (hs : SH a = (1, 6)) (k : Go G cc mt none d bc bs (pc + 3) ls (vr (a + 3) :: st) w K X) : Go G cc mt none d bc bs pc ls (vr a :: st) w K X := Go_gfr dec f hs trivial rfl (by simp only [rv, RF, hs] <;> omega) (by omega) k
theorem gf6_3 {a idx : Nat} (dec : decode cc pc = .ok (.getfield idx, 3)) (f : FL mt.2.1 idx 6 3) (hs : SH a = (1, 6)) (k : Go G cc mt none d bc bs (pc + 3) ls (vr (a + 4) :: st) w K X) : Go G cc mt none d bc bs pc ls (vr a :: st) w K X := Go_gfr dec f hs trivial rfl (by simp only [rv, RF, hs] <;> omega) (by omega) k
theorem gf6_4 {a idx : Nat} (dec : decode cc pc = .ok (.getfield idx, 3)) (f : FL mt.2.1 idx 6 4) (hs : SH a = (1, 6)) (k : Go G cc mt none d bc bs (pc + 3) ls (vi (w a 4) :: st) w K X) : Go G cc mt none d bc bs pc ls (vr a :: st) w K X := Go_gfi dec f hs trivial rfl k
theorem pf6_4 {a idx : Nat} {z : Int} (dec : decode cc pc = .ok (.putfield idx, 3)) (f : FL mt.2.1 idx 6 4) (hs : SH a = (1, 6)) (k : Go G cc mt none d bc bs (pc + 3) ls st (up w a 4 z) K X) : Go G cc mt none d bc bs pc ls (vi z :: vr a :: st) w K X := Go_pfi dec f hs trivial rfl (fty_of (r0 := (RX7, TX7, 5)) rfl ⟨rfl, rfl⟩) k
theorem gf7_0 {idx : Nat} (dec : decode cc pc = .ok (.getfield idx, 3)) (f : FL mt.2.1 idx 7 0) (k : Go G cc mt none d bc bs (pc + 3) ls (vr 37 :: st) w K X) : Go G cc mt none d bc bs pc ls (vr 36 :: st) w K X := Go_gfr dec f (ci := 7) (k := 0) rfl trivial rfl rfl (by decide) k
theorem gf7_1 {idx : Nat} (dec : decode cc pc = .ok (.getfield idx, 3)) (f : FL mt.2.1 idx 7 1) (k : Go G cc mt none d bc bs (pc + 3) ls (vr 38 :: st) w K X) : Go G cc mt none d bc bs pc ls (vr 36 :: st) w K X := Go_gfr dec f (ci := 7) (k := 1) rfl trivial rfl rfl (by decide) k
theorem gf8_0 {a idx : Nat} (dec : decode cc pc = .ok (.getfield idx, 3)) (f : FL mt.2.1 idx 8 0) (hs : SH a = (1, 8)) (k : Go G cc mt none d bc bs (pc + 3) ls (vr (a + 1) :: st) w K X) : Go G cc mt none d bc bs pc ls (vr a :: st) w K X := Go_gfr dec f hs trivial rfl (by simp only [rv, RF, hs] <;> omega) (by omega) k
theorem gf8_1 {a idx : Nat} (dec : decode cc pc = .ok (.getfield idx, 3)) (f : FL mt.2.1 idx 8 1) (hs : SH a = (1, 8)) (k : Go G cc mt none d bc bs (pc + 3) ls (vi (w a 1) :: st) w K X) : Go G cc mt none d bc bs pc ls (vr a :: st) w K X := Go_gfi dec f hs trivial rfl k
theorem pf8_1 {a idx : Nat} {z : Int} (dec : decode cc pc = .ok (.putfield idx, 3)) (f : FL mt.2.1 idx 8 1) (hs : SH a = (1, 8)) (k : Go G cc mt none d bc bs (pc + 3) ls st (up w a 1 z) K X) : Go G cc mt none d bc bs pc ls (vi z :: vr a :: st) w K X := Go_pfi dec f hs trivial rfl (fty_of (r0 := (RX9, TX9, 2)) rfl ⟨rfl, rfl⟩) k
theorem gf9_0 {idx : Nat} (dec : decode cc pc = .ok (.getfield idx, 3)) (f : FL mt.2.1 idx 9 0) (k : Go G cc mt none d bc bs (pc + 3) ls (vr 50 :: st) w K X) : Go G cc mt none d bc bs pc ls (vr 49 :: st) w K X := Go_gfr dec f (ci := 9) (k := 0) rfl trivial rfl rfl (by decide) k
theorem gf10_0 {idx : Nat} (dec : decode cc pc = .ok (.getfield idx, 3)) (f : FL mt.2.1 idx 10 0) (k : Go G cc mt none d bc bs (pc + 3) ls (vr 2 :: st) w K X) : Go G cc mt none d bc bs pc ls (vr 1 :: st) w K X := Go_gfr dec f (ci := 10) (k := 0) rfl trivial rfl rfl (by decide) k
theorem gf10_1 {idx : Nat} (dec : decode cc pc = .ok (.getfield idx, 3)) (f : FL mt.2.1 idx 10 1) (k : Go G cc mt none d bc bs (pc + 3) ls (vr 16 :: st) w K X) : Go G cc mt none d bc bs pc ls (vr 1 :: st) w K X := Go_gfr dec f (ci := 10) (k := 1) rfl trivial rfl rfl (by decide) k
theorem gf10_2 {idx : Nat} (dec : decode cc pc = .ok (.getfield idx, 3)) (f : FL mt.2.1 idx 10 2) (k : Go G cc mt none d bc bs (pc + 3) ls (vr 36 :: st) w K X) : Go G cc mt none d bc bs pc ls (vr 1 :: st) w K X := Go_gfr dec f (ci := 10) (k := 2) rfl trivial rfl rfl (by decide) k
theorem gf10_3 {idx : Nat} (dec : decode cc pc = .ok (.getfield idx, 3)) (f : FL mt.2.1 idx 10 3) (k : Go G cc mt none d bc bs (pc + 3) ls (vr 45 :: st) w K X) : Go G cc mt none d bc bs pc ls (vr 1 :: st) w K X := Go_gfr dec f (ci := 10) (k := 3) rfl trivial rfl rfl (by decide) k
theorem gf10_4 {idx : Nat} (dec : decode cc pc = .ok (.getfield idx, 3)) (f : FL mt.2.1 idx 10 4) (k : Go G cc mt none d bc bs (pc + 3) ls (vr 47 :: st) w K X) : Go G cc mt none d bc bs pc ls (vr 1 :: st) w K X := Go_gfr dec f (ci := 10) (k := 4) rfl trivial rfl rfl (by decide) k
theorem gf10_5 {idx : Nat} (dec : decode cc pc = .ok (.getfield idx, 3)) (f : FL mt.2.1 idx 10 5) (k : Go G cc mt none d bc bs (pc + 3) ls (vr 49 :: st) w K X) : Go G cc mt none d bc bs pc ls (vr 1 :: st) w K X := Go_gfr dec f (ci := 10) (k := 5) rfl trivial rfl rfl (by decide) k
theorem gf10_6 {idx : Nat} (dec : decode cc pc = .ok (.getfield idx, 3)) (f : FL mt.2.1 idx 10 6) (k : Go G cc mt none d bc bs (pc + 3) ls (vr 51 :: st) w K X) : Go G cc mt none d bc bs pc ls (vr 1 :: st) w K X := Go_gfr dec f (ci := 10) (k := 6) rfl trivial rfl rfl (by decide) k
theorem gf10_7 {idx : Nat} (dec : decode cc pc = .ok (.getfield idx, 3)) (f : FL mt.2.1 idx 10 7) (k : Go G cc mt none d bc bs (pc + 3) ls (vr 53 :: st) w K X) : Go G cc mt none d bc bs pc ls (vr 1 :: st) w K X := Go_gfr dec f (ci := 10) (k := 7) rfl trivial rfl rfl (by decide) k
theorem gf10_8 {idx : Nat} (dec : decode cc pc = .ok (.getfield idx, 3)) (f : FL mt.2.1 idx 10 8) (k : Go G cc mt none d bc bs (pc + 3) ls (vr 58 :: st) w K X) : Go G cc mt none d bc bs pc ls (vr 1 :: st) w K X := Go_gfr dec f (ci := 10) (k := 8) rfl trivial rfl rfl (by decide) k
theorem gf10_9 {idx : Nat} (dec : decode cc pc = .ok (.getfield idx, 3)) (f : FL mt.2.1 idx 10 9) (k : Go G cc mt none d bc bs (pc + 3) ls (vr 63 :: st) w K X) : Go G cc mt none d bc bs pc ls (vr 1 :: st) w K X := Go_gfr dec f (ci := 10) (k := 9) rfl trivial rfl rfl (by decide) k
end GoFld
section GoN
variable {G : Gm} {cc : ByteArray} {mt : Mt} {nx : Option Nat} {d bc bs pc : Nat} {ls : List (Option Vl)} {st : List Vl} {w : Wd} {K : Kt} {X : Xt}
theorem Go_cV0 {y : MethodName} {cc' : ByteArray} {nl' idx d' bc' bs' a ci : Nat} {mt' : Mt} {ty : FieldType} (hr : mt'.1 = some ty) (dec : decode cc pc = .ok (.invokevirtual idx, 3)) (mv : MV y cc' nl' mt' 0) (ht : mt'.2.2.2 = []) (lk : Cond.methodLink mt.2.1 idx y ∈ GW) (hs : SH a = (1, ci)) (hc : (vwCl[ci]?).map (·.1) = some y.cls) (hx : okx nx a) (hd : d' < d) (hbc : bc' ≤ bc) (hbs : bs' ≤ bs) (hsum : (st.map fun v => (cv G v).category).sum ≤ 8) (E : Ev G y cc' nl' mt' nx d' bc' bs' (vr a :: []) w (fun v nx' w' => Go G cc mt nx' d (bc - bc') (bs - bs') (pc + 3) ls (v :: st) w' K X) X) : Go G cc mt nx d bc bs pc ls (vr a :: st) w K X := Go_callV dec mv ht lk hs hc hx rfl rfl hsum hd hbc hbs (fun v nx' w' h => by rw [hr]; exact h) E
theorem Go_cS0 {y : MethodName} {cc' : ByteArray} {nl' idx d' bc' bs' : Nat} {mt' : Mt} {ty : FieldType} (hr : mt'.1 = some ty) (dec : decode cc pc = .ok (.invokestatic idx, 3)) (mv : MS y cc' nl' mt' 0) (ht : mt'.2.2.2 = []) (lk : Cond.methodLink mt.2.1 idx y ∈ GW) (hd : d' < d) (hbc : bc' ≤ bc) (hbs : bs' ≤ bs) (hsum : (st.map fun v => (cv G v).category).sum ≤ 8) (E : Ev G y cc' nl' mt' nx d' bc' bs' [] w (fun v nx' w' => Go G cc mt nx' d (bc - bc') (bs - bs') (pc + 3) ls (v :: st) w' K X) X) : Go G cc mt nx d bc bs pc ls (st) w K X := Go_callS dec mv ht lk rfl rfl hsum hd hbc hbs (fun v nx' w' h => by rw [hr]; exact h) E
theorem Go_cVv0 {y : MethodName} {cc' : ByteArray} {nl' idx d' bc' bs' a ci : Nat} {mt' : Mt} (hr : mt'.1 = none) (dec : decode cc pc = .ok (.invokevirtual idx, 3)) (mv : MV y cc' nl' mt' 0) (ht : mt'.2.2.2 = []) (lk : Cond.methodLink mt.2.1 idx y ∈ GW) (hs : SH a = (1, ci)) (hc : (vwCl[ci]?).map (·.1) = some y.cls) (hx : okx nx a) (hd : d' < d) (hbc : bc' ≤ bc) (hbs : bs' ≤ bs) (hsum : (st.map fun v => (cv G v).category).sum ≤ 8) (E : Ev G y cc' nl' mt' nx d' bc' bs' (vr a :: []) w (fun v nx' w' => Go G cc mt nx' d (bc - bc') (bs - bs') (pc + 3) ls (st) w' K X) X) : Go G cc mt nx d bc bs pc ls (vr a :: st) w K X := Go_callV dec mv ht lk hs hc hx rfl rfl hsum hd hbc hbs (fun v nx' w' h => by rw [hr]; exact h) E
theorem Go_cSv0 {y : MethodName} {cc' : ByteArray} {nl' idx d' bc' bs' : Nat} {mt' : Mt} (hr : mt'.1 = none) (dec : decode cc pc = .ok (.invokestatic idx, 3)) (mv : MS y cc' nl' mt' 0) (ht : mt'.2.2.2 = []) (lk : Cond.methodLink mt.2.1 idx y ∈ GW) (hd : d' < d) (hbc : bc' ≤ bc) (hbs : bs' ≤ bs) (hsum : (st.map fun v => (cv G v).category).sum ≤ 8) (E : Ev G y cc' nl' mt' nx d' bc' bs' [] w (fun v nx' w' => Go G cc mt nx' d (bc - bc') (bs - bs') (pc + 3) ls (st) w' K X) X) : Go G cc mt nx d bc bs pc ls (st) w K X := Go_callS dec mv ht lk rfl rfl hsum hd hbc hbs (fun v nx' w' h => by rw [hr]; exact h) E
theorem Go_cV1 {y : MethodName} {cc' : ByteArray} {nl' idx d' bc' bs' a ci : Nat} {mt' : Mt} {x0 : Vl} {ty : FieldType} (hr : mt'.1 = some ty) (dec : decode cc pc = .ok (.invokevirtual idx, 3)) (mv : MV y cc' nl' mt' 1) (ht : mt'.2.2.2 = []) (lk : Cond.methodLink mt.2.1 idx y ∈ GW) (hs : SH a = (1, ci)) (hc : (vwCl[ci]?).map (·.1) = some y.cls) (hx : okx nx a) (hd : d' < d) (hbc : bc' ≤ bc) (hbs : bs' ≤ bs) (hsum : (st.map fun v => (cv G v).category).sum ≤ 8) (E : Ev G y cc' nl' mt' nx d' bc' bs' (vr a :: [x0]) w (fun v nx' w' => Go G cc mt nx' d (bc - bc') (bs - bs') (pc + 3) ls (v :: st) w' K X) X) : Go G cc mt nx d bc bs pc ls (x0 :: vr a :: st) w K X := Go_callV dec mv ht lk hs hc hx rfl rfl hsum hd hbc hbs (fun v nx' w' h => by rw [hr]; exact h) E
theorem Go_cS1 {y : MethodName} {cc' : ByteArray} {nl' idx d' bc' bs' : Nat} {mt' : Mt} {x0 : Vl} {ty : FieldType} (hr : mt'.1 = some ty) (dec : decode cc pc = .ok (.invokestatic idx, 3)) (mv : MS y cc' nl' mt' 1) (ht : mt'.2.2.2 = []) (lk : Cond.methodLink mt.2.1 idx y ∈ GW) (hd : d' < d) (hbc : bc' ≤ bc) (hbs : bs' ≤ bs) (hsum : (st.map fun v => (cv G v).category).sum ≤ 8) (E : Ev G y cc' nl' mt' nx d' bc' bs' [x0] w (fun v nx' w' => Go G cc mt nx' d (bc - bc') (bs - bs') (pc + 3) ls (v :: st) w' K X) X) : Go G cc mt nx d bc bs pc ls (x0 :: st) w K X := Go_callS dec mv ht lk rfl rfl hsum hd hbc hbs (fun v nx' w' h => by rw [hr]; exact h) E
theorem Go_cVv1 {y : MethodName} {cc' : ByteArray} {nl' idx d' bc' bs' a ci : Nat} {mt' : Mt} {x0 : Vl} (hr : mt'.1 = none) (dec : decode cc pc = .ok (.invokevirtual idx, 3)) (mv : MV y cc' nl' mt' 1) (ht : mt'.2.2.2 = []) (lk : Cond.methodLink mt.2.1 idx y ∈ GW) (hs : SH a = (1, ci)) (hc : (vwCl[ci]?).map (·.1) = some y.cls) (hx : okx nx a) (hd : d' < d) (hbc : bc' ≤ bc) (hbs : bs' ≤ bs) (hsum : (st.map fun v => (cv G v).category).sum ≤ 8) (E : Ev G y cc' nl' mt' nx d' bc' bs' (vr a :: [x0]) w (fun v nx' w' => Go G cc mt nx' d (bc - bc') (bs - bs') (pc + 3) ls (st) w' K X) X) : Go G cc mt nx d bc bs pc ls (x0 :: vr a :: st) w K X := Go_callV dec mv ht lk hs hc hx rfl rfl hsum hd hbc hbs (fun v nx' w' h => by rw [hr]; exact h) E
theorem Go_cSv1 {y : MethodName} {cc' : ByteArray} {nl' idx d' bc' bs' : Nat} {mt' : Mt} {x0 : Vl} (hr : mt'.1 = none) (dec : decode cc pc = .ok (.invokestatic idx, 3)) (mv : MS y cc' nl' mt' 1) (ht : mt'.2.2.2 = []) (lk : Cond.methodLink mt.2.1 idx y ∈ GW) (hd : d' < d) (hbc : bc' ≤ bc) (hbs : bs' ≤ bs) (hsum : (st.map fun v => (cv G v).category).sum ≤ 8) (E : Ev G y cc' nl' mt' nx d' bc' bs' [x0] w (fun v nx' w' => Go G cc mt nx' d (bc - bc') (bs - bs') (pc + 3) ls (st) w' K X) X) : Go G cc mt nx d bc bs pc ls (x0 :: st) w K X := Go_callS dec mv ht lk rfl rfl hsum hd hbc hbs (fun v nx' w' h => by rw [hr]; exact h) E
theorem Go_cV2 {y : MethodName} {cc' : ByteArray} {nl' idx d' bc' bs' a ci : Nat} {mt' : Mt} {x0 x1 : Vl} {ty : FieldType} (hr : mt'.1 = some ty) (dec : decode cc pc = .ok (.invokevirtual idx, 3)) (mv : MV y cc' nl' mt' 2) (ht : mt'.2.2.2 = []) (lk : Cond.methodLink mt.2.1 idx y ∈ GW) (hs : SH a = (1, ci)) (hc : (vwCl[ci]?).map (·.1) = some y.cls) (hx : okx nx a) (hd : d' < d) (hbc : bc' ≤ bc) (hbs : bs' ≤ bs) (hsum : (st.map fun v => (cv G v).category).sum ≤ 8) (E : Ev G y cc' nl' mt' nx d' bc' bs' (vr a :: [x0, x1]) w (fun v nx' w' => Go G cc mt nx' d (bc - bc') (bs - bs') (pc + 3) ls (v :: st) w' K X) X) : Go G cc mt nx d bc bs pc ls (x1 :: x0 :: vr a :: st) w K X := Go_callV dec mv ht lk hs hc hx rfl rfl hsum hd hbc hbs (fun v nx' w' h => by rw [hr]; exact h) E
theorem Go_cS2 {y : MethodName} {cc' : ByteArray} {nl' idx d' bc' bs' : Nat} {mt' : Mt} {x0 x1 : Vl} {ty : FieldType} (hr : mt'.1 = some ty) (dec : decode cc pc = .ok (.invokestatic idx, 3)) (mv : MS y cc' nl' mt' 2) (ht : mt'.2.2.2 = []) (lk : Cond.methodLink mt.2.1 idx y ∈ GW) (hd : d' < d) (hbc : bc' ≤ bc) (hbs : bs' ≤ bs) (hsum : (st.map fun v => (cv G v).category).sum ≤ 8) (E : Ev G y cc' nl' mt' nx d' bc' bs' [x0, x1] w (fun v nx' w' => Go G cc mt nx' d (bc - bc') (bs - bs') (pc + 3) ls (v :: st) w' K X) X) : Go G cc mt nx d bc bs pc ls (x1 :: x0 :: st) w K X := Go_callS dec mv ht lk rfl rfl hsum hd hbc hbs (fun v nx' w' h => by rw [hr]; exact h) E
theorem Go_cVv2 {y : MethodName} {cc' : ByteArray} {nl' idx d' bc' bs' a ci : Nat} {mt' : Mt} {x0 x1 : Vl} (hr : mt'.1 = none) (dec : decode cc pc = .ok (.invokevirtual idx, 3)) (mv : MV y cc' nl' mt' 2) (ht : mt'.2.2.2 = []) (lk : Cond.methodLink mt.2.1 idx y ∈ GW) (hs : SH a = (1, ci)) (hc : (vwCl[ci]?).map (·.1) = some y.cls) (hx : okx nx a) (hd : d' < d) (hbc : bc' ≤ bc) (hbs : bs' ≤ bs) (hsum : (st.map fun v => (cv G v).category).sum ≤ 8) (E : Ev G y cc' nl' mt' nx d' bc' bs' (vr a :: [x0, x1]) w (fun v nx' w' => Go G cc mt nx' d (bc - bc') (bs - bs') (pc + 3) ls (st) w' K X) X) : Go G cc mt nx d bc bs pc ls (x1 :: x0 :: vr a :: st) w K X := Go_callV dec mv ht lk hs hc hx rfl rfl hsum hd hbc hbs (fun v nx' w' h => by rw [hr]; exact h) E
theorem Go_cSv2 {y : MethodName} {cc' : ByteArray} {nl' idx d' bc' bs' : Nat} {mt' : Mt} {x0 x1 : Vl} (hr : mt'.1 = none) (dec : decode cc pc = .ok (.invokestatic idx, 3)) (mv : MS y cc' nl' mt' 2) (ht : mt'.2.2.2 = []) (lk : Cond.methodLink mt.2.1 idx y ∈ GW) (hd : d' < d) (hbc : bc' ≤ bc) (hbs : bs' ≤ bs) (hsum : (st.map fun v => (cv G v).category).sum ≤ 8) (E : Ev G y cc' nl' mt' nx d' bc' bs' [x0, x1] w (fun v nx' w' => Go G cc mt nx' d (bc - bc') (bs - bs') (pc + 3) ls (st) w' K X) X) : Go G cc mt nx d bc bs pc ls (x1 :: x0 :: st) w K X := Go_callS dec mv ht lk rfl rfl hsum hd hbc hbs (fun v nx' w' h => by rw [hr]; exact h) E
theorem Go_cV3 {y : MethodName} {cc' : ByteArray} {nl' idx d' bc' bs' a ci : Nat} {mt' : Mt} {x0 x1 x2 : Vl} {ty : FieldType} (hr : mt'.1 = some ty) (dec : decode cc pc = .ok (.invokevirtual idx, 3)) (mv : MV y cc' nl' mt' 3) (ht : mt'.2.2.2 = []) (lk : Cond.methodLink mt.2.1 idx y ∈ GW) (hs : SH a = (1, ci)) (hc : (vwCl[ci]?).map (·.1) = some y.cls) (hx : okx nx a) (hd : d' < d) (hbc : bc' ≤ bc) (hbs : bs' ≤ bs) (hsum : (st.map fun v => (cv G v).category).sum ≤ 8) (E : Ev G y cc' nl' mt' nx d' bc' bs' (vr a :: [x0, x1, x2]) w (fun v nx' w' => Go G cc mt nx' d (bc - bc') (bs - bs') (pc + 3) ls (v :: st) w' K X) X) : Go G cc mt nx d bc bs pc ls (x2 :: x1 :: x0 :: vr a :: st) w K X := Go_callV dec mv ht lk hs hc hx rfl rfl hsum hd hbc hbs (fun v nx' w' h => by rw [hr]; exact h) E
theorem Go_cS3 {y : MethodName} {cc' : ByteArray} {nl' idx d' bc' bs' : Nat} {mt' : Mt} {x0 x1 x2 : Vl} {ty : FieldType} (hr : mt'.1 = some ty) (dec : decode cc pc = .ok (.invokestatic idx, 3)) (mv : MS y cc' nl' mt' 3) (ht : mt'.2.2.2 = []) (lk : Cond.methodLink mt.2.1 idx y ∈ GW) (hd : d' < d) (hbc : bc' ≤ bc) (hbs : bs' ≤ bs) (hsum : (st.map fun v => (cv G v).category).sum ≤ 8) (E : Ev G y cc' nl' mt' nx d' bc' bs' [x0, x1, x2] w (fun v nx' w' => Go G cc mt nx' d (bc - bc') (bs - bs') (pc + 3) ls (v :: st) w' K X) X) : Go G cc mt nx d bc bs pc ls (x2 :: x1 :: x0 :: st) w K X := Go_callS dec mv ht lk rfl rfl hsum hd hbc hbs (fun v nx' w' h => by rw [hr]; exact h) E
theorem Go_cVv3 {y : MethodName} {cc' : ByteArray} {nl' idx d' bc' bs' a ci : Nat} {mt' : Mt} {x0 x1 x2 : Vl} (hr : mt'.1 = none) (dec : decode cc pc = .ok (.invokevirtual idx, 3)) (mv : MV y cc' nl' mt' 3) (ht : mt'.2.2.2 = []) (lk : Cond.methodLink mt.2.1 idx y ∈ GW) (hs : SH a = (1, ci)) (hc : (vwCl[ci]?).map (·.1) = some y.cls) (hx : okx nx a) (hd : d' < d) (hbc : bc' ≤ bc) (hbs : bs' ≤ bs) (hsum : (st.map fun v => (cv G v).category).sum ≤ 8) (E : Ev G y cc' nl' mt' nx d' bc' bs' (vr a :: [x0, x1, x2]) w (fun v nx' w' => Go G cc mt nx' d (bc - bc') (bs - bs') (pc + 3) ls (st) w' K X) X) : Go G cc mt nx d bc bs pc ls (x2 :: x1 :: x0 :: vr a :: st) w K X := Go_callV dec mv ht lk hs hc hx rfl rfl hsum hd hbc hbs (fun v nx' w' h => by rw [hr]; exact h) E
theorem Go_cSv3 {y : MethodName} {cc' : ByteArray} {nl' idx d' bc' bs' : Nat} {mt' : Mt} {x0 x1 x2 : Vl} (hr : mt'.1 = none) (dec : decode cc pc = .ok (.invokestatic idx, 3)) (mv : MS y cc' nl' mt' 3) (ht : mt'.2.2.2 = []) (lk : Cond.methodLink mt.2.1 idx y ∈ GW) (hd : d' < d) (hbc : bc' ≤ bc) (hbs : bs' ≤ bs) (hsum : (st.map fun v => (cv G v).category).sum ≤ 8) (E : Ev G y cc' nl' mt' nx d' bc' bs' [x0, x1, x2] w (fun v nx' w' => Go G cc mt nx' d (bc - bc') (bs - bs') (pc + 3) ls (st) w' K X) X) : Go G cc mt nx d bc bs pc ls (x2 :: x1 :: x0 :: st) w K X := Go_callS dec mv ht lk rfl rfl hsum hd hbc hbs (fun v nx' w' h => by rw [hr]; exact h) E
theorem Go_cS4 {y : MethodName} {cc' : ByteArray} {nl' idx d' bc' bs' : Nat} {mt' : Mt} {x0 x1 x2 x3 : Vl} {ty : FieldType} (hr : mt'.1 = some ty) (dec : decode cc pc = .ok (.invokestatic idx, 3)) (mv : MS y cc' nl' mt' 4) (ht : mt'.2.2.2 = []) (lk : Cond.methodLink mt.2.1 idx y ∈ GW) (hd : d' < d) (hbc : bc' ≤ bc) (hbs : bs' ≤ bs) (hsum : (st.map fun v => (cv G v).category).sum ≤ 8) (E : Ev G y cc' nl' mt' nx d' bc' bs' [x0, x1, x2, x3] w (fun v nx' w' => Go G cc mt nx' d (bc - bc') (bs - bs') (pc + 3) ls (v :: st) w' K X) X) : Go G cc mt nx d bc bs pc ls (x3 :: x2 :: x1 :: x0 :: st) w K X := Go_callS dec mv ht lk rfl rfl hsum hd hbc hbs (fun v nx' w' h => by rw [hr]; exact h) E
theorem Go_cSv4 {y : MethodName} {cc' : ByteArray} {nl' idx d' bc' bs' : Nat} {mt' : Mt} {x0 x1 x2 x3 : Vl} (hr : mt'.1 = none) (dec : decode cc pc = .ok (.invokestatic idx, 3)) (mv : MS y cc' nl' mt' 4) (ht : mt'.2.2.2 = []) (lk : Cond.methodLink mt.2.1 idx y ∈ GW) (hd : d' < d) (hbc : bc' ≤ bc) (hbs : bs' ≤ bs) (hsum : (st.map fun v => (cv G v).category).sum ≤ 8) (E : Ev G y cc' nl' mt' nx d' bc' bs' [x0, x1, x2, x3] w (fun v nx' w' => Go G cc mt nx' d (bc - bc') (bs - bs') (pc + 3) ls (st) w' K X) X) : Go G cc mt nx d bc bs pc ls (x3 :: x2 :: x1 :: x0 :: st) w K X := Go_callS dec mv ht lk rfl rfl hsum hd hbc hbs (fun v nx' w' h => by rw [hr]; exact h) E
theorem Go_cS5 {y : MethodName} {cc' : ByteArray} {nl' idx d' bc' bs' : Nat} {mt' : Mt} {x0 x1 x2 x3 x4 : Vl} {ty : FieldType} (hr : mt'.1 = some ty) (dec : decode cc pc = .ok (.invokestatic idx, 3)) (mv : MS y cc' nl' mt' 5) (ht : mt'.2.2.2 = []) (lk : Cond.methodLink mt.2.1 idx y ∈ GW) (hd : d' < d) (hbc : bc' ≤ bc) (hbs : bs' ≤ bs) (hsum : (st.map fun v => (cv G v).category).sum ≤ 8) (E : Ev G y cc' nl' mt' nx d' bc' bs' [x0, x1, x2, x3, x4] w (fun v nx' w' => Go G cc mt nx' d (bc - bc') (bs - bs') (pc + 3) ls (v :: st) w' K X) X) : Go G cc mt nx d bc bs pc ls (x4 :: x3 :: x2 :: x1 :: x0 :: st) w K X := Go_callS dec mv ht lk rfl rfl hsum hd hbc hbs (fun v nx' w' h => by rw [hr]; exact h) E
theorem Go_cSv5 {y : MethodName} {cc' : ByteArray} {nl' idx d' bc' bs' : Nat} {mt' : Mt} {x0 x1 x2 x3 x4 : Vl} (hr : mt'.1 = none) (dec : decode cc pc = .ok (.invokestatic idx, 3)) (mv : MS y cc' nl' mt' 5) (ht : mt'.2.2.2 = []) (lk : Cond.methodLink mt.2.1 idx y ∈ GW) (hd : d' < d) (hbc : bc' ≤ bc) (hbs : bs' ≤ bs) (hsum : (st.map fun v => (cv G v).category).sum ≤ 8) (E : Ev G y cc' nl' mt' nx d' bc' bs' [x0, x1, x2, x3, x4] w (fun v nx' w' => Go G cc mt nx' d (bc - bc') (bs - bs') (pc + 3) ls (st) w' K X) X) : Go G cc mt nx d bc bs pc ls (x4 :: x3 :: x2 :: x1 :: x0 :: st) w K X := Go_callS dec mv ht lk rfl rfl hsum hd hbc hbs (fun v nx' w' h => by rw [hr]; exact h) E
theorem Go_cS6 {y : MethodName} {cc' : ByteArray} {nl' idx d' bc' bs' : Nat} {mt' : Mt} {x0 x1 x2 x3 x4 x5 : Vl} {ty : FieldType} (hr : mt'.1 = some ty) (dec : decode cc pc = .ok (.invokestatic idx, 3)) (mv : MS y cc' nl' mt' 6) (ht : mt'.2.2.2 = []) (lk : Cond.methodLink mt.2.1 idx y ∈ GW) (hd : d' < d) (hbc : bc' ≤ bc) (hbs : bs' ≤ bs) (hsum : (st.map fun v => (cv G v).category).sum ≤ 8) (E : Ev G y cc' nl' mt' nx d' bc' bs' [x0, x1, x2, x3, x4, x5] w (fun v nx' w' => Go G cc mt nx' d (bc - bc') (bs - bs') (pc + 3) ls (v :: st) w' K X) X) : Go G cc mt nx d bc bs pc ls (x5 :: x4 :: x3 :: x2 :: x1 :: x0 :: st) w K X := Go_callS dec mv ht lk rfl rfl hsum hd hbc hbs (fun v nx' w' h => by rw [hr]; exact h) E
theorem Go_cSv6 {y : MethodName} {cc' : ByteArray} {nl' idx d' bc' bs' : Nat} {mt' : Mt} {x0 x1 x2 x3 x4 x5 : Vl} (hr : mt'.1 = none) (dec : decode cc pc = .ok (.invokestatic idx, 3)) (mv : MS y cc' nl' mt' 6) (ht : mt'.2.2.2 = []) (lk : Cond.methodLink mt.2.1 idx y ∈ GW) (hd : d' < d) (hbc : bc' ≤ bc) (hbs : bs' ≤ bs) (hsum : (st.map fun v => (cv G v).category).sum ≤ 8) (E : Ev G y cc' nl' mt' nx d' bc' bs' [x0, x1, x2, x3, x4, x5] w (fun v nx' w' => Go G cc mt nx' d (bc - bc') (bs - bs') (pc + 3) ls (st) w' K X) X) : Go G cc mt nx d bc bs pc ls (x5 :: x4 :: x3 :: x2 :: x1 :: x0 :: st) w K X := Go_callS dec mv ht lk rfl rfl hsum hd hbc hbs (fun v nx' w' h => by rw [hr]; exact h) E
end GoN
end
section
section GoMore
variable {G : Gm} {cc : ByteArray} {mt : Mt} {nx : Option Nat} {d bc bs pc : Nat} {ls : List (Option Vl)} {st : List Vl} {w : Wd} {K : Kt} {X : Xt}
theorem Go_irem {a b : Int} (dec : decode cc pc = .ok (.irem, 1)) (ha : 0 ≤ a) (ha2 : a < 2147483648) (hb : 0 < b) (hb2 : b < 2147483648) (k : Go G cc mt nx d bc bs (pc + 1) ls (vi (a % b) :: st) w K X) : Go G cc mt nx d bc bs pc ls (vi b :: vi a :: st) w K X := by
  intro p e R s m args below meth c Q H locs cells slots la C EK EX hl hw hS h1 h2
  have kk := k p e R s m args below meth c Q H locs cells slots la C EK EX hl hw hS h1 h2
  obtain ⟨x, rfl⟩ := Int.eq_ofNat_of_zero_le ha
  obtain ⟨y, rfl⟩ := Int.eq_ofNat_of_zero_le (Int.le_of_lt hb)
  refine lv_irem C.1 C.2.1 dec (by show ¬ nI y = 0; exact nI_ne0 (by omega) (by omega)) ?_
  have e1 : (Int32.ofInt (x : Int) - Int32.ofInt (x : Int) / Int32.ofInt (y : Int) * Int32.ofInt (y : Int)) = Int32.ofInt ((x : Int) % (y : Int)) := by
    have := pk_rem (a := x) (d := y) (by omega) (by omega) (by omega)
    exact this
  rw [e1]
  exact kk
theorem Go_idiv {a b : Int} (dec : decode cc pc = .ok (.idiv, 1)) (ha : 0 ≤ a) (ha2 : a < 2147483648) (hb : 0 < b) (hb2 : b < 2147483648) (k : Go G cc mt nx d bc bs (pc + 1) ls (vi (a / b) :: st) w K X) : Go G cc mt nx d bc bs pc ls (vi b :: vi a :: st) w K X := by
  intro p e R s m args below meth c Q H locs cells slots la C EK EX hl hw hS h1 h2
  have kk := k p e R s m args below meth c Q H locs cells slots la C EK EX hl hw hS h1 h2
  obtain ⟨x, rfl⟩ := Int.eq_ofNat_of_zero_le ha
  obtain ⟨y, rfl⟩ := Int.eq_ofNat_of_zero_le (Int.le_of_lt hb)
  refine lv_idiv C.1 C.2.1 dec (by show ¬ nI y = 0; exact nI_ne0 (by omega) (by omega)) ?_
  have e1 : Int32.ofInt (x : Int) / Int32.ofInt (y : Int) = Int32.ofInt ((x : Int) / (y : Int)) := pk_div (a := x) (d := y) (by omega) (by omega) (by omega)
  rw [e1]
  exact kk
theorem shl_1 : ∀ n, n < 31 → (1 : Int32) <<< (nI n &&& 31) = nI (2 ^ n) := by decide +kernel
theorem Go_ishl {n : Int} (dec : decode cc pc = .ok (.ishl, 1)) (h0 : 0 ≤ n) (h1 : n < 31) (k : Go G cc mt nx d bc bs (pc + 1) ls (vi ((2 ^ n.toNat : Nat) : Int) :: st) w K X) : Go G cc mt nx d bc bs pc ls (vi n :: vi 1 :: st) w K X := by
  intro p e R s m args below meth c Q H locs cells slots la C EK EX hl hw hS h1 h2
  have kk := k p e R s m args below meth c Q H locs cells slots la C EK EX hl hw hS h1 h2
  obtain ⟨x, rfl⟩ := Int.eq_ofNat_of_zero_le h0
  refine lv_ishl C.1 C.2.1 dec ?_
  have e1 : Int32.ofInt 1 <<< (Int32.ofInt (x : Int) &&& 31) = Int32.ofInt ((2 ^ x : Nat) : Int) := shl_1 x (by omega)
  rw [e1]
  exact kk
theorem nI_or (a b : Nat) : nI a ||| nI b = nI (a ||| b) := by
  apply Int32.toBitVec_inj.mp
  show BitVec.ofNat 32 a ||| BitVec.ofNat 32 b = BitVec.ofNat 32 (a ||| b)
  apply BitVec.eq_of_toNat_eq
  simp only [BitVec.toNat_or, BitVec.toNat_ofNat, Nat.or_mod_two_pow]
theorem Go_ior {a b : Nat} (dec : decode cc pc = .ok (.ior, 1)) (k : Go G cc mt nx d bc bs (pc + 1) ls (vi ((a ||| b : Nat) : Int) :: st) w K X) : Go G cc mt nx d bc bs pc ls (vi (b : Int) :: vi (a : Int) :: st) w K X := by
  intro p e R s m args below meth c Q H locs cells slots la C EK EX hl hw hS h1 h2
  have kk := k p e R s m args below meth c Q H locs cells slots la C EK EX hl hw hS h1 h2
  refine lv_ior C.1 C.2.1 dec ?_
  have e1 : Int32.ofInt (a : Int) ||| Int32.ofInt (b : Int) = Int32.ofInt ((a ||| b : Nat) : Int) := nI_or a b
  rw [e1]
  exact kk
theorem Go_iand63 {a : Int} (dec : decode cc pc = .ok (.iand, 1)) (k : ∀ j : Nat, j < 64 → Go G cc mt nx d bc bs (pc + 1) ls (vi (j : Int) :: st) w K X) : Go G cc mt nx d bc bs pc ls (vi 63 :: vi a :: st) w K X := by
  intro p e R s m args below meth c Q H locs cells slots la C EK EX hl hw hS h1 h2
  obtain ⟨j, hj, he⟩ := pk_andE (Int32.ofInt a) (m := 63) 6 (by decide)
  refine lv_iand C.1 C.2.1 dec ?_
  have e1 : Int32.ofInt a &&& Int32.ofInt 63 = Int32.ofInt (j : Int) := he
  rw [e1]
  exact k j hj p e R s m args below meth c Q H locs cells slots la C EK EX hl hw hS h1 h2
theorem Go_i2c {a : Int} (dec : decode cc pc = .ok (.i2c, 1)) (h0 : 0 ≤ a) (h1 : a < 65536) (k : Go G cc mt nx d bc bs (pc + 1) ls (vi a :: st) w K X) : Go G cc mt nx d bc bs pc ls (vi a :: st) w K X := by
  intro p e R s m args below meth c Q H locs cells slots la C EK EX hl hw hS h1 h2
  refine lv_i2c C.1 C.2.1 dec (v := Int32.ofInt a) ?_ (k p e R s m args below meth c Q H locs cells slots la C EK EX hl hw hS h1 h2)
  obtain ⟨x, rfl⟩ := Int.eq_ofNat_of_zero_le h0
  rw [iI_nat, pk_char, pk_tn (by omega), Nat.mod_eq_of_lt (by omega)]
theorem i2l_eq {a : Int} (h : inR a) : (Int32.ofInt a).toInt64 = Int64.ofInt a := by
  rw [← Int64.toInt_inj, Int32.toInt_toInt64, inR_toInt h, Int64.toInt_ofInt_of_le (by have := h.1; omega) (by have := h.2; omega)]
theorem Go_i2l {a : Int} (dec : decode cc pc = .ok (.i2l, 1)) (ha : inR a) (k : Go G cc mt nx d bc bs (pc + 1) ls (vl a :: st) w K X) : Go G cc mt nx d bc bs pc ls (vi a :: st) w K X := by
  intro p e R s m args below meth c Q H locs cells slots la C EK EX hl hw hS h1 h2
  exact lv_i2l C.1 C.2.1 dec (i2l_eq ha) (k p e R s m args below meth c Q H locs cells slots la C EK EX hl hw hS h1 h2)
theorem Go_lconst {n : Fin 2} {v : Int} (dec : decode cc pc = .ok (.lconst n, 1)) (hv : v = ((n : Nat) : Int)) (k : Go G cc mt nx d bc bs (pc + 1) ls (vl v :: st) w K X) : Go G cc mt nx d bc bs pc ls st w K X := by
  intro p e R s m args below meth c Q H locs cells slots la C EK EX hl hw hS h1 h2
  subst hv
  exact lv_lconst C.1 C.2.1 dec rfl (k p e R s m args below meth c Q H locs cells slots la C EK EX hl hw hS h1 h2)
theorem Go_lcmp {a b : Int} (dec : decode cc pc = .ok (.lcmp, 1)) (ha : inR a) (hb : inR b) (k : Go G cc mt nx d bc bs (pc + 1) ls (vi (if b < a then 1 else if a = b then 0 else -1) :: st) w K X) : Go G cc mt nx d bc bs pc ls (vl b :: vl a :: st) w K X := by
  intro p e R s m args below meth c Q H locs cells slots la C EK EX hl hw hS h1 h2
  have kk := k p e R s m args below meth c Q H locs cells slots la C EK EX hl hw hS h1 h2
  refine W.lcmp C.1 C.2.1 dec ?_
  have t : ∀ {z : Int}, inR z → (Int64.ofInt z).toInt = z := fun h => Int64.toInt_ofInt_of_le (by have := h.1; omega) (by have := h.2; omega)
  have e1 : lg_cmp (Int64.ofInt a) (Int64.ofInt b) = Int32.ofInt (if b < a then 1 else if a = b then 0 else -1) := by
    unfold lg_cmp
    have q1 : (Int64.ofInt a > Int64.ofInt b) ↔ b < a := by
      show Int64.ofInt b < Int64.ofInt a ↔ _
      rw [Int64.lt_iff_toInt_lt, t ha, t hb]
    have q2 : (Int64.ofInt a = Int64.ofInt b) ↔ a = b := by rw [← Int64.toInt_inj, t ha, t hb]
    by_cases h : b < a
    · rw [if_pos (q1.mpr h), if_pos h]; rfl
    · rw [if_neg (fun z => h (q1.mp z)), if_neg h]
      by_cases h2 : a = b
      · rw [if_pos (q2.mpr h2), if_pos h2]; rfl
      · rw [if_neg (fun z => h2 (q2.mp z)), if_neg h2]; rfl
  rw [e1]
  exact kk
theorem Go_mmax {a b : Int} {idx : Nat} (dec : decode cc pc = .ok (.invokestatic idx, 3)) (lk : Cond.methodLink mt.2.1 idx Lib.Math.max.name ∈ GW) (hd : 0 < d) (ha : inR a) (hb : inR b) (hsum : (st.map fun v => (cv G v).category).sum ≤ 8) (k : Go G cc mt nx d bc bs (pc + 3) ls (vi (if a < b then b else a) :: st) w K X) : Go G cc mt nx d bc bs pc ls (vi b :: vi a :: st) w K X := by
  intro p e R s m args below meth c Q H locs cells slots la C EK EX hl hw hS h1 h2
  have kk := k p e R s m args below meth c Q H locs cells slots la C EK EX hl hw hS h1 h2
  obtain ⟨cx, cb, -, co, ct, -, -, cml, cf, cl, cK, -⟩ := id C
  refine va_mmax cx cb (by rw [cml, hl.1]) co (ct _ lk) (ct _ gMstat_max) (ct _ gi_Math) (ct _ gMcode_max) (by omega) (by rw [List.map_map]; have : ((List.map ((fun v => v.category) ∘ cv G) st)).sum ≤ 8 := hsum; omega) (by omega) (by omega) dec ?_
  have e1 : (if Int32.ofInt a < Int32.ofInt b then Int32.ofInt b else Int32.ofInt a) = Int32.ofInt (if a < b then b else a) := by
    by_cases h : a < b
    · rw [if_pos ((iI_lt ha hb).mpr h), if_pos h]
    · rw [if_neg (fun q => h ((iI_lt ha hb).mp q)), if_neg h]
  rw [e1]
  exact kk
theorem Go_mmin {a b : Int} {idx : Nat} (dec : decode cc pc = .ok (.invokestatic idx, 3)) (lk : Cond.methodLink mt.2.1 idx Lib.Math.min.name ∈ GW) (hd : 0 < d) (ha : inR a) (hb : inR b) (hsum : (st.map fun v => (cv G v).category).sum ≤ 8) (k : Go G cc mt nx d bc bs (pc + 3) ls (vi (if b < a then b else a) :: st) w K X) : Go G cc mt nx d bc bs pc ls (vi b :: vi a :: st) w K X := by
  intro p e R s m args below meth c Q H locs cells slots la C EK EX hl hw hS h1 h2
  have kk := k p e R s m args below meth c Q H locs cells slots la C EK EX hl hw hS h1 h2
  obtain ⟨cx, cb, -, co, ct, -, -, cml, cf, cl, cK, -⟩ := id C
  refine va_mmin cx cb (by rw [cml, hl.1]) co (ct _ lk) (ct _ gMstat_min) (ct _ gi_Math) (ct _ gMcode_min) (by omega) (by rw [List.map_map]; have : ((List.map ((fun v => v.category) ∘ cv G) st)).sum ≤ 8 := hsum; omega) (by omega) (by omega) dec ?_
  have e1 : (if Int32.ofInt b < Int32.ofInt a then Int32.ofInt b else Int32.ofInt a) = Int32.ofInt (if b < a then b else a) := by
    by_cases h : b < a
    · rw [if_pos ((iI_lt hb ha).mpr h), if_pos h]
    · rw [if_neg (fun q => h ((iI_lt hb ha).mp q)), if_neg h]
  rw [e1]
  exact kk
theorem Go_mabs {a : Int} {idx : Nat} (dec : decode cc pc = .ok (.invokestatic idx, 3)) (lk : Cond.methodLink mt.2.1 idx Lib.Math.abs.name ∈ GW) (hd : 0 < d) (ha : inR a) (hsum : (st.map fun v => (cv G v).category).sum ≤ 8) (k : Go G cc mt nx d bc bs (pc + 3) ls (vi (if 0 ≤ a then a else -a) :: st) w K X) : Go G cc mt nx d bc bs pc ls (vi a :: st) w K X := by
  intro p e R s m args below meth c Q H locs cells slots la C EK EX hl hw hS h1 h2
  have kk := k p e R s m args below meth c Q H locs cells slots la C EK EX hl hw hS h1 h2
  obtain ⟨cx, cb, -, co, ct, -, -, cml, cf, cl, cK, -⟩ := id C
  refine va_mabs cx cb (by rw [cml, hl.1]) co (ct _ lk) (ct _ gMstat_abs) (ct _ gi_Math) (ct _ gMcode_abs) (by omega) (by rw [List.map_map]; have : ((List.map ((fun v => v.category) ∘ cv G) st)).sum ≤ 8 := hsum; omega) (by omega) (by omega) dec ?_
  have e1 : (if 0 ≤ Int32.ofInt a then Int32.ofInt a else 0 - Int32.ofInt a) = Int32.ofInt (if 0 ≤ a then a else -a) := by
    show (if Int32.ofInt 0 ≤ Int32.ofInt a then Int32.ofInt a else 0 - Int32.ofInt a) = Int32.ofInt (if 0 ≤ a then a else -a)
    by_cases h : 0 ≤ a
    · rw [if_pos ((iI_le inR_0 ha).mpr h), if_pos h]
    · rw [if_neg (fun q => h ((iI_le inR_0 ha).mp q)), if_neg h]
      show Int32.ofInt 0 - Int32.ofInt a = _
      rw [← Int32.ofInt_sub, Int.zero_sub]
  rw [e1]
  exact kk
/-- the two static arrays -/
theorem Go_getA (dec : decode cc pc = .ok (.getstatic 15, 3)) (ho : mt.2.1 = RX2) (k : Go G cc mt nx d bc bs (pc + 3) ls (vr 1001 :: st) w K X) : Go G cc mt nx d bc bs pc ls st w K X := by
  intro p e R s m args below meth c Q H locs cells slots la C EK EX hl hw hS h1 h2
  obtain ⟨cx, cb, -, co, ct, -, -, cml, cf, cl, cK, -⟩ := id C
  obtain ⟨-, -, -, ⟨z1, z2⟩, -⟩ := cK
  rw [ho] at co
  exact va_gets cx cb z1 hS co (ct _ fsX2_15) (fun x h => h) dec (k p e R s m args below meth c Q H locs cells slots la C EK EX hl hw hS h1 h2)
theorem Go_getB (dec : decode cc pc = .ok (.getstatic 22, 3)) (ho : mt.2.1 = RX2) (k : Go G cc mt nx d bc bs (pc + 3) ls (vr 1002 :: st) w K X) : Go G cc mt nx d bc bs pc ls st w K X := by
  intro p e R s m args below meth c Q H locs cells slots la C EK EX hl hw hS h1 h2
  obtain ⟨cx, cb, -, co, ct, -, -, cml, cf, cl, cK, -⟩ := id C
  obtain ⟨-, -, -, -, ⟨z1, z2⟩, -⟩ := cK
  rw [ho] at co
  exact va_gets cx cb z1 hS co (ct _ fsX2_22) (fun x h => h) dec (k p e R s m args below meth c Q H locs cells slots la C EK EX hl hw hS h1 h2)
theorem Go_saldA {z : Int} (dec : decode cc pc = .ok (.iaload, 1)) (hz0 : 0 ≤ z) (hz : z < 4) (k : Go G cc mt nx d bc bs (pc + 1) ls (vi (tabA z.toNat) :: st) w K X) : Go G cc mt nx d bc bs pc ls (vi z :: vr 1001 :: st) w K X := by
  intro p e R s m args below meth c Q H locs cells slots la C EK EX hl hw hS h1 h2
  obtain ⟨cx, cb, -, co, ct, -, -, cml, cf, cl, cK, -⟩ := id C
  obtain ⟨-, -, -, ⟨z1, z2⟩, -⟩ := cK
  obtain ⟨i1, i2⟩ := iI_in (n := 4) hz0 hz (by decide)
  exact va_ti cx cb z2 hS i1 (by show Value.int (Int32.ofInt _) = _; rw [i2]; rfl) dec (k p e R s m args below meth c Q H locs cells slots la C EK EX hl hw hS h1 h2)
theorem Go_saldB {z : Int} (dec : decode cc pc = .ok (.iaload, 1)) (hz0 : 0 ≤ z) (hz : z < 4) (k : Go G cc mt nx d bc bs (pc + 1) ls (vi (tabB z.toNat) :: st) w K X) : Go G cc mt nx d bc bs pc ls (vi z :: vr 1002 :: st) w K X := by
  intro p e R s m args below meth c Q H locs cells slots la C EK EX hl hw hS h1 h2
  obtain ⟨cx, cb, -, co, ct, -, -, cml, cf, cl, cK, -⟩ := id C
  obtain ⟨-, -, -, -, ⟨z1, z2⟩, -⟩ := cK
  obtain ⟨i1, i2⟩ := iI_in (n := 4) hz0 hz (by decide)
  exact va_ti cx cb z2 hS i1 (by show Value.int (Int32.ofInt _) = _; rw [i2]; rfl) dec (k p e R s m args below meth c Q H locs cells slots la C EK EX hl hw hS h1 h2)
end GoMore
end
section
theorem allc1 {as : List Vl} (h : as.all (fun v => c1 (some v)) = true) : ∀ v ∈ as, c1 (some v) = true := List.all_eq_true.mp h
theorem kI {K : Kt} {x y : Int} {nx : Option Nat} {w : Wd} (h : x = y) (k : K (vi y) nx w) : K (vi x) nx w := by rw [h]; exact k
theorem inR_b {c : Prop} [Decidable c] : inR (if c then 1 else 0) := by
  by_cases h : c
  · rw [if_pos h]; exact ⟨by decide, by decide⟩
  · rw [if_neg h]; exact ⟨by decide, by decide⟩
theorem nar_b {c : Prop} [Decidable c] : narrow .boolean (.int (Int32.ofInt (if c then 1 else 0))) = .int (Int32.ofInt (if c then 1 else 0)) := by
  by_cases h : c
  · rw [if_pos h]; rfl
  · rw [if_neg h]; rfl
section GoB
variable {G : Gm} {cc : ByteArray} {mt : Mt} {nx : Option Nat} {d bc bs pc : Nat} {ls : List (Option Vl)} {st : List Vl} {w : Wd} {K : Kt} {X : Xt}
theorem Go_ifb_ne {c : Prop} [Decidable c] {off : Int} {tgt : Nat} (dec : decode cc pc = .ok (.ifCond .ne off, 3)) (ht : (pc : Int) + off = (tgt : Int)) (kt : c → Go G cc mt nx d bc bs tgt ls st w K X) (kf : ¬ c → Go G cc mt nx d bc bs (pc + 3) ls st w K X) : Go G cc mt nx d bc bs pc ls (vi (if c then 1 else 0) :: st) w K X :=
  Go_if_ne dec ht inR_b (fun h => kt (by by_cases q : c; exact q; rw [if_neg q] at h; exact absurd rfl h)) (fun h => kf (fun q => by rw [if_pos q] at h; cases h))
theorem Go_ifb_eq {c : Prop} [Decidable c] {off : Int} {tgt : Nat} (dec : decode cc pc = .ok (.ifCond .eq off, 3)) (ht : (pc : Int) + off = (tgt : Int)) (kt : ¬ c → Go G cc mt nx d bc bs tgt ls st w K X) (kf : c → Go G cc mt nx d bc bs (pc + 3) ls st w K X) : Go G cc mt nx d bc bs pc ls (vi (if c then 1 else 0) :: st) w K X :=
  Go_if_eq dec ht inR_b (fun h => kt (fun q => by rw [if_pos q] at h; cases h)) (fun h => kf (by by_cases q : c; exact q; rw [if_neg q] at h; exact absurd rfl h))
end GoB
/-- a site's number, or -1 -/
def numI (c r : Int) : Int := if 0 ≤ c ∧ c < 10 ∧ 0 ≤ r ∧ r < 10 then 10 * r + c else -1
/-- the site in a direction, or -1 -/
def nbI (s d : Int) : Int := if 0 ≤ d ∧ d < 4 then numI (s % 10 + tabA d.toNat) (s / 10 + tabB d.toNat) else -1
def dirI (a b : Int) : Int := if nbI a 0 = b then 0 else if nbI a 1 = b then 1 else if nbI a 2 = b then 2 else 3
theorem tabA_in (n : Nat) : -1 ≤ tabA n ∧ tabA n ≤ 1 := by
  match n with
  | 0 | 1 | 2 | 3 => exact ⟨by decide, by decide⟩
  | n + 4 => exact ⟨by show (-1 : Int) ≤ 0; decide, by show (0 : Int) ≤ 1; decide⟩
theorem tabB_in (n : Nat) : -1 ≤ tabB n ∧ tabB n ≤ 1 := by
  match n with
  | 0 | 1 | 2 | 3 => exact ⟨by decide, by decide⟩
  | n + 4 => exact ⟨by show (-1 : Int) ≤ 0; decide, by show (0 : Int) ≤ 1; decide⟩
theorem numI_in (c r : Int) : -1 ≤ numI c r ∧ numI c r < 100 := by unfold numI; split <;> omega
theorem nbI_in (s d : Int) : -1 ≤ nbI s d ∧ nbI s d < 100 := by unfold nbI; split; exact numI_in _ _; omega
theorem dirI_in (a b : Int) : 0 ≤ dirI a b ∧ dirI a b < 4 := by unfold dirI; split; omega; split; omega; split <;> omega
theorem sh_t1 {t : Nat} (h : SH t = (1, 8)) : SH (t + 1) = (2, 60) := by
  have hl := SH_lt h (by decide)
  have key : ∀ t, t < 70 → SH t = (1, 8) → SH (t + 1) = (2, 60) := by decide +kernel
  exact key t (by have := hl.2; unfold NA at this; omega) h
/-- what cells stay -/
def frm (w w' : Wd) (A : List Nat) : Prop := ∀ a, a ∉ A → w' a = w a
theorem frm.rfl {w : Wd} {A : List Nat} : frm w w A := fun _ _ => Eq.refl _
theorem frm.up {w w' : Wd} {A : List Nat} {a k : Nat} {z : Int} (h : frm w w' A) (ha : a ∈ A) : frm w (up w' a k z) A := fun b hb => by
  rw [← h b hb]
  funext j
  exact up_a (fun e => hb (by rw [e]; exact ha))
theorem frm.trans {w w' w'' : Wd} {A B : List Nat} (h : frm w w' A) (h2 : frm w' w'' B) (hs : ∀ a ∈ B, a ∈ A) : frm w w'' A := fun a ha => by rw [h2 a (fun q => ha (hs a q)), h a ha]
theorem frm.mono {w w' : Wd} {A B : List Nat} (h : frm w w' A) (hs : ∀ a ∈ A, a ∈ B) : frm w w' B := fun a ha => h a (fun q => ha (hs a q))
theorem frm.at {w w' : Wd} {A : List Nat} (h : frm w w' A) {a : Nat} (ha : a ∉ A) (k : Nat) : w' a k = w a k := by rw [h a ha]
/-- a trail t holds the sites l -/
def TR (w : Wd) (t : Nat) (l : List Nat) : Prop := SH t = (1, 8) ∧ w t 1 = (l.length : Int) ∧ l.length ≤ 60 ∧ ∀ j, j < l.length → w (t + 1) j = (l.getD j 0 : Int)
theorem TR.frm {w w' : Wd} {t : Nat} {l : List Nat} {A : List Nat} (h : TR w t l) (f : frm w w' A) (h1 : t ∉ A) (h2 : t + 1 ∉ A) : TR w' t l := ⟨h.1, by rw [f.at h1]; exact h.2.1, h.2.2.1, fun j hj => by rw [f.at h2]; exact h.2.2.2 j hj⟩
def atI (l : List Nat) (z : Int) : Int := if 0 ≤ z ∧ z < l.length then (l.getD z.toNat 0 : Int) else -1
end
section
section GoJdk
variable {G : Gm} {cc : ByteArray} {mt : Mt} {nx : Option Nat} {d bc bs pc : Nat} {ls : List (Option Vl)} {st : List Vl} {w : Wd} {K : Kt} {X : Xt}
theorem Go_alen2 {a n : Nat} (dec : decode cc pc = .ok (.arraylength, 1)) (hs : SH a = (2, n)) (hx : okx nx a) (k : Go G cc mt nx d bc bs (pc + 1) ls (vi (n : Int) :: st) w K X) : Go G cc mt nx d bc bs pc ls (vr a :: st) w K X := by
  intro p e R s m args below meth c Q H locs cells slots la C EK EX hl hw hS h1 h2
  obtain ⟨cx, cb, -, co, ct, -, -, cml, cf, cl, cK, -⟩ := id C
  exact va_alen cx cb cK.1 hw.1 (a - 1) 0 (wl_e G w hs (by decide) hx (cont_2 hs)) rfl rfl dec (k p e R s m args below meth c Q H locs cells slots la C EK EX hl hw hS h1 h2)
/-- a trail is put into the array of trails -/
theorem Go_aast5 {a b n : Nat} {z : Int} (dec : decode cc pc = .ok (.aastore, 1)) (hs : SH a = (5, n)) (hb : SH b = (1, 8)) (hx : okx nx a) (hxb : okx nx b) (hz0 : 0 ≤ z) (hz : z < n) (hn : n < 2147483648) (kk : Go G cc mt nx d bc bs (pc + 1) ls st (up w a z.toNat (b : Int)) K X) : Go G cc mt nx d bc bs pc ls (vr b :: vi z :: vr a :: st) w K X := by
  intro p e R s m args below meth c Q H locs cells slots la C EK EX hl hw hS h1 h2
  obtain ⟨cx, cb, -, co, ct, -, -, -, -, -, cK, -⟩ := id C
  obtain ⟨i1, i2⟩ := iI_in hz0 hz hn
  have hatB := hw.1 _ _ (wl_e G w hb (by decide) hxb (cont_1 hb))
  obtain ⟨r', hr', cellV, g1, g2, g3, -⟩ := hatB
  have hcls := (cK.1.1 8 _ hr').2
  cases hr'
  obtain ⟨kA, comp, k1, k2, k3, -⟩ := (cK.1.2 3 _ rfl).2
  have hcomp : comp = (GD G).1 8 := Option.some.inj (k3.symm.trans hcls.1)
  subst hcomp
  obtain ⟨kC, hkC, -⟩ := hcls.2
  have hlt : z.toNat < n := by omega
  refine W.aast cx cb (hw.1 _ _ (wl_e G w hs (by decide) hx (cont_5 hs))) (fun q h => by cases h) (fun h => by cases h) k1 k2 rfl hkC ⟨fun q => i1 (Or.inl q), by show _ < (arrV _ _ _).slots.size; rw [arrV_size, i2]; exact hlt⟩ g1 (fun q h => by rw [g3] at h; cases h) (by rw [g2]; exact hkC) (by rw [g2]; exact va_assign hcls) rfl rfl dec fun H1 e1 e2 e3 => ?_
  refine kk p e R s m args below meth c Q H1 _ cells slots la C EK EX hl (wholds_put hs (by decide) hw e2 e3 ?_) (hS.put e2 e3 (own_in hs (by decide))) h1 h2
  rw [cont_5 hs]
  show H1[_]? = some (vp_cell _ _)
  have hb1 := SH_lt hb (by decide)
  have hb0 : ¬ b = 0 := by omega
  rw [e1, i2, vp_cell_q, vp_cell_q, arrV_store]
  congr 2
  funext q
  by_cases hq : q = z.toNat
  · subst hq; simp [updV, up, rfo, hb0, va_rf]
  · simp [updV, up, hq]
theorem Go_i2b {a : Int} (dec : decode cc pc = .ok (.i2b, 1)) (h0 : 0 ≤ a) (h1 : a < 128) (k : Go G cc mt nx d bc bs (pc + 1) ls (vi a :: st) w K X) : Go G cc mt nx d bc bs pc ls (vi a :: st) w K X := by
  intro p e R s m args below meth c Q H locs cells slots la C EK EX hl hw hS h1' h2
  obtain ⟨x, rfl⟩ := Int.eq_ofNat_of_zero_le h0
  have key : ∀ n, n < 128 → (nI n).toInt8.toInt32 = nI n := by decide +kernel
  exact lv_i2b C.1 C.2.1 dec (key x (by omega)) (k p e R s m args below meth c Q H locs cells slots la C EK EX hl hw hS h1' h2)
theorem Go_ishr0 {a : Int} (dec : decode cc pc = .ok (.ishr, 1)) (k : Go G cc mt nx d bc bs (pc + 1) ls (vi a :: st) w K X) : Go G cc mt nx d bc bs pc ls (vi 0 :: vi a :: st) w K X := by
  intro p e R s m args below meth c Q H locs cells slots la C EK EX hl hw hS h1 h2
  have kk := k p e R s m args below meth c Q H locs cells slots la C EK EX hl hw hS h1 h2
  refine lv_ishr C.1 C.2.1 dec ?_
  have e1 : Int32.ofInt a >>> (Int32.ofInt 0 &&& 31) = Int32.ofInt a := sb_shr0 _
  rw [e1]
  exact kk
theorem Go_iand255 {a : Int} (dec : decode cc pc = .ok (.iand, 1)) (h0 : 0 ≤ a) (h1 : a < 256) (k : Go G cc mt nx d bc bs (pc + 1) ls (vi a :: st) w K X) : Go G cc mt nx d bc bs pc ls (vi 255 :: vi a :: st) w K X := by
  intro p e R s m args below meth c Q H locs cells slots la C EK EX hl hw hS h1' h2
  have kk := k p e R s m args below meth c Q H locs cells slots la C EK EX hl hw hS h1' h2
  obtain ⟨x, rfl⟩ := Int.eq_ofNat_of_zero_le h0
  refine lv_iand C.1 C.2.1 dec ?_
  have e1 : Int32.ofInt (x : Int) &&& Int32.ofInt 255 = Int32.ofInt (x : Int) := by
    have := pk_andN (n := x) (by omega) (m := 255) 8 (by decide)
    rw [Nat.mod_eq_of_lt (by omega)] at this
    exact this
  rw [e1]
  exact kk
theorem Go_pop {v : Vl} (dec : decode cc pc = .ok (.pop, 1)) (hv : c1 (some v) = true) (k : Go G cc mt nx d bc bs (pc + 1) ls st w K X) : Go G cc mt nx d bc bs pc ls (v :: st) w K X := by
  intro p e R s m args below meth c Q H locs cells slots la C EK EX hl hw hS h1 h2
  exact lv_pop C.1 C.2.1 dec (cv_cat1 hv) (k p e R s m args below meth c Q H locs cells slots la C EK EX hl hw hS h1 h2)
/-- the fields of the board that its nest mate reads and writes -/
theorem gfN_i {idx k : Nat} {nm : String} {i : Nat} (hm : nestF[i]? = some (RX5, idx, RX0, nm, "I")) (hF : (TX0 k).2.1 = nm ∧ (TX0 k).2.2.1 = "I" ∧ (TX0 k).1 = RX0) (hk : k < 8) (hk2 : (ftl 0)[k]? = some false) (dec : decode cc pc = .ok (.getfield idx, 3)) (ho : mt.2.1 = RX5) (kk : Go G cc mt none d bc bs (pc + 3) ls (vi (w 2 k) :: st) w K X) : Go G cc mt none d bc bs pc ls (vr 2 :: st) w K X := by
  intro p e R s m args below meth c Q H locs cells slots la C EK EX hl hw hS h1 h2
  obtain ⟨r0, ty, hr0, hin, -, -⟩ := kt0
  cases hr0
  obtain ⟨cx, cb, -, co, ct, -, -, -, -, -, cK, -⟩ := id C
  obtain ⟨cK1, -, -, -, -, -, -, -, -, cN, -⟩ := cK
  have hN := cN _ (List.mem_of_getElem? hm)
  have hat := wl_e (nx := none) G w (a := 2) (k := 1) (n := 0) rfl (by decide) trivial (cont_1 rfl)
  rw [ho] at co
  obtain ⟨f1, f2, f3⟩ := hF
  subst f1
  refine va_getN (ref := RX0) (v := .int (Int32.ofInt (w 2 k))) (host := "LatticePaths") cx cb ct hin co cK1 hw.1 1 hat rfl k hk ?_ (fun x h => by rw [f3] at h; exact h) ?_ dec (kk p e R s m args below meth c Q H locs cells slots la C EK EX hl hw hS h1 h2)
  · rw [f2]; exact va_Nw.use rfl hN
  · unfold flds
    rw [List.getElem?_mapIdx, hk2]
    rfl
theorem pfN_i {idx k : Nat} {nm : String} {i : Nat} {z : Int} (hm : nestF[i]? = some (RX5, idx, RX0, nm, "I")) (hF : (TX0 k).2.1 = nm ∧ (TX0 k).2.2.1 = "I" ∧ (TX0 k).1 = RX0 ∧ (TX0 k).2.2.2 = false) (hk : k < 8) (hk2 : (ftl 0)[k]? = some false) (dec : decode cc pc = .ok (.putfield idx, 3)) (ho : mt.2.1 = RX5) (kk : Go G cc mt none d bc bs (pc + 3) ls st (up w 2 k z) K X) : Go G cc mt none d bc bs pc ls (vi z :: vr 2 :: st) w K X := by
  intro p e R s m args below meth c Q H locs cells slots la C EK EX hl hw hS h1 h2
  obtain ⟨r0, ty, hr0, hin, htyok, hnm⟩ := kt0
  cases hr0
  obtain ⟨cx, cb, -, co, ct, -, -, -, -, -, cK, -⟩ := id C
  obtain ⟨cK1, -, -, -, -, -, -, -, -, cN, -⟩ := id cK
  have hN := cN _ (List.mem_of_getElem? hm)
  have hs : SH 2 = (1, 0) := rfl
  have hat := hw.1 _ _ (wl_e (nx := none) G w hs (by decide) trivial (cont_1 hs))
  obtain ⟨f1, hI, f3, hFi⟩ := hF
  rw [ho] at co
  have hap := va_apart (own := RX5) ct hin ty htyok hnm cK1 (ci := 0) rfl
  obtain ⟨r1, e1, cell, q1, q2, q3, q4⟩ := hat
  cases e1
  obtain ⟨hSl, hfc, kC, hkC, hkind⟩ := cK1.1 0 _ rfl
  obtain ⟨cf, kf, fi, f, hi, hsl⟩ := hSl k hk
  have hlay := ct _ (hin _ (u_in_lay hk))
  unfold u_lay at hlay
  rw [if_neg (by show ¬ (TX0 k).2.2.2 = true; rw [hFi]; decide)] at hlay
  have hst := (u_facts hfc hkC (u_lays ct hin hk) hi).1
  have h6 := u_store (v := .int (Int32.ofInt z)) (ty := .int) hfc hkC hkind hlay hi (by show parseFieldDescriptor (TX0 k).2.2.1 = _; rw [hI]; decide) rfl rfl
  have hi2 : s.fieldFound? RX0 nm "I" = some (cf, kf, fi, f) := by
    rw [← f1, ← hI]
    rw [f3] at hi
    exact hi
  refine va_WputK (ref := RX0) cx cb (f := f) co (va_Nw.use rfl hN) hi2 hst (by rw [q2]; exact h6) q1 q3 (by rw [hsl]; exact k2_hasslot (q4 k hk)) rfl rfl dec fun H' g1 g2 g3 => ?_
  rw [hsl] at g1 ⊢
  refine kk p e R s m args below meth c Q H' _ cells slots la C EK EX hl (wholds_put hs (by decide) hw g2 g3 ?_) (hS.put g2 g3 (own_in hs (by decide))) h1 h2
  rw [cont_1 hs]
  exact ⟨_, rfl, t_OB.to (V := updV (vp_V (flds G none w 2 0)) k (.int (Int32.ofInt z))) ⟨_, g1, q2, q3, t_set q4 hap hk _⟩ (fun j _ => (flds_at (b := false) hk2 j).symm)⟩
theorem gfN_25 (dec : decode cc pc = .ok (.getfield 25, 3)) (ho : mt.2.1 = RX5) (kk : Go G cc mt none d bc bs (pc + 3) ls (vr 3 :: st) w K X) : Go G cc mt none d bc bs pc ls (vr 2 :: st) w K X := by
  intro p e R s m args below meth c Q H locs cells slots la C EK EX hl hw hS h1 h2
  obtain ⟨r0, ty, hr0, hin, -, -⟩ := kt0
  cases hr0
  obtain ⟨cx, cb, -, co, ct, -, -, -, -, -, cK, -⟩ := id C
  obtain ⟨cK1, -, -, -, -, -, -, -, -, cN, -⟩ := cK
  have hN := cN _ (List.mem_of_getElem? (i := 0) rfl)
  have hat := wl_e (nx := none) G w (a := 2) (k := 1) (n := 0) rfl (by decide) trivial (cont_1 rfl)
  rw [ho] at co
  exact va_getN (ref := RX0) (v := .ref (rho G 3)) (host := "LatticePaths") cx cb ct hin co cK1 hw.1 1 hat rfl 0 (by decide) (va_Nw.use rfl hN) (fun x h => h) rfl dec (kk p e R s m args below meth c Q H locs cells slots la C EK EX hl hw hS h1 h2)
theorem gfN_18 (dec : decode cc pc = .ok (.getfield 18, 3)) (ho : mt.2.1 = RX5) (kk : Go G cc mt none d bc bs (pc + 3) ls (vi (w 2 1) :: st) w K X) : Go G cc mt none d bc bs pc ls (vr 2 :: st) w K X := gfN_i (i := 1) rfl ⟨rfl, rfl, rfl⟩ (by decide) rfl dec ho kk
theorem pfN_18 {z : Int} (dec : decode cc pc = .ok (.putfield 18, 3)) (ho : mt.2.1 = RX5) (kk : Go G cc mt none d bc bs (pc + 3) ls st (up w 2 1 z) K X) : Go G cc mt none d bc bs pc ls (vi z :: vr 2 :: st) w K X := pfN_i (i := 1) rfl ⟨rfl, rfl, rfl, rfl⟩ (by decide) rfl dec ho kk
theorem gfN_39 (dec : decode cc pc = .ok (.getfield 39, 3)) (ho : mt.2.1 = RX5) (kk : Go G cc mt none d bc bs (pc + 3) ls (vi (w 2 2) :: st) w K X) : Go G cc mt none d bc bs pc ls (vr 2 :: st) w K X := gfN_i (i := 2) rfl ⟨rfl, rfl, rfl⟩ (by decide) rfl dec ho kk
theorem pfN_39 {z : Int} (dec : decode cc pc = .ok (.putfield 39, 3)) (ho : mt.2.1 = RX5) (kk : Go G cc mt none d bc bs (pc + 3) ls st (up w 2 2 z) K X) : Go G cc mt none d bc bs pc ls (vi z :: vr 2 :: st) w K X := pfN_i (i := 2) rfl ⟨rfl, rfl, rfl, rfl⟩ (by decide) rfl dec ho kk
theorem gfN_43 (dec : decode cc pc = .ok (.getfield 43, 3)) (ho : mt.2.1 = RX5) (kk : Go G cc mt none d bc bs (pc + 3) ls (vi (w 2 3) :: st) w K X) : Go G cc mt none d bc bs pc ls (vr 2 :: st) w K X := gfN_i (i := 3) rfl ⟨rfl, rfl, rfl⟩ (by decide) rfl dec ho kk
theorem pfN_43 {z : Int} (dec : decode cc pc = .ok (.putfield 43, 3)) (ho : mt.2.1 = RX5) (kk : Go G cc mt none d bc bs (pc + 3) ls st (up w 2 3 z) K X) : Go G cc mt none d bc bs pc ls (vi z :: vr 2 :: st) w K X := pfN_i (i := 3) rfl ⟨rfl, rfl, rfl, rfl⟩ (by decide) rfl dec ho kk
theorem gfN_47 (dec : decode cc pc = .ok (.getfield 47, 3)) (ho : mt.2.1 = RX5) (kk : Go G cc mt none d bc bs (pc + 3) ls (vi (w 2 4) :: st) w K X) : Go G cc mt none d bc bs pc ls (vr 2 :: st) w K X := gfN_i (i := 4) rfl ⟨rfl, rfl, rfl⟩ (by decide) rfl dec ho kk
theorem pfN_47 {z : Int} (dec : decode cc pc = .ok (.putfield 47, 3)) (ho : mt.2.1 = RX5) (kk : Go G cc mt none d bc bs (pc + 3) ls st (up w 2 4 z) K X) : Go G cc mt none d bc bs pc ls (vi z :: vr 2 :: st) w K X := pfN_i (i := 4) rfl ⟨rfl, rfl, rfl, rfl⟩ (by decide) rfl dec ho kk
end GoJdk
end
section
/-- locals of which less is said -/
def lsub : List (Option Vl) → List (Option Vl) → Prop
  | [], [] => True
  | a :: as, b :: bs => (a = none ∨ a = b) ∧ lsub as bs
  | _, _ => False
theorem lsub_len : ∀ (a b : List (Option Vl)), lsub a b → a.length = b.length
  | [], [], _ => rfl
  | _ :: as, _ :: bs, h => by rw [List.length_cons, List.length_cons, lsub_len as bs h.2]
  | [], _ :: _, h => h.elim
  | _ :: _, [], h => h.elim
theorem lsub_at : ∀ (a b : List (Option Vl)), lsub a b → ∀ (i : Nat) (v : Vl), a[i]? = some (some v) → b[i]? = some (some v)
  | [], [], _, i, v, e => by simp at e
  | a :: as, b :: bs, h, 0, v, e => by
    simp only [List.getElem?_cons_zero, Option.some.injEq] at e ⊢
    rcases h.1 with q | q
    · rw [q] at e; cases e
    · rw [← q]; exact e
  | _ :: as, _ :: bs, h, i + 1, v, e => by
    simp only [List.getElem?_cons_succ] at e ⊢
    exact lsub_at as bs h.2 i v e
  | [], _ :: _, h, _, _, _ => h.elim
  | _ :: _, [], h, _, _, _ => h.elim
theorem lcg {x y : Int} (h : x = y) : some (vi x) = some (vi y) := by rw [h]
section Loops
variable {G : Gm} {cc : ByteArray} {mt : Mt} {nx : Option Nat} {d bc bs pc : Nat} {ls ls' : List (Option Vl)} {st : List Vl} {w : Wd} {K : Kt} {X : Xt}
theorem Go_forget (h : lsub ls' ls) (k : Go G cc mt nx d bc bs pc ls' st w K X) : Go G cc mt nx d bc bs pc ls st w K X := by
  intro p e R s m args below meth c Q H locs cells slots la C EK EX hl hw hS h1 h2
  have e9 := lsub_len _ _ h
  exact k p e R s m args below meth c Q H locs cells slots la (by rw [e9]; exact C) EK EX ⟨by rw [e9]; exact hl.1, hl.2.1, fun i v hv => hl.2.2 i v (lsub_at _ _ h i v hv)⟩ hw hS h1 h2
/-- a loop that counts up -/
theorem Go_upTo {n : Nat} {L : Nat → List (Option Vl)} {P : Nat → Wd → Prop} (hl : lsub (L 0) ls) (hp : P 0 w)
    (hs : ∀ i v, i < n → P i v → (∀ v', P (i + 1) v' → Go G cc mt nx d bc bs pc (L (i + 1)) st v' K X) → Go G cc mt nx d bc bs pc (L i) st v K X)
    (he : ∀ v, P n v → Go G cc mt nx d bc bs pc (L n) st v K X) : Go G cc mt nx d bc bs pc ls st w K X := by
  have key : ∀ (m i : Nat) (v : Wd), i + m = n → P i v → Go G cc mt nx d bc bs pc (L i) st v K X := by
    intro m
    induction m with
    | zero => intro i v hi hv; have : i = n := by omega
              subst this; exact he v hv
    | succ m ih => intro i v hi hv; exact hs i v (by omega) hv (fun v' hv' => ih (i + 1) v' (by omega) hv')
  exact Go_forget hl (key n 0 w (by omega) hp)
end Loops
/-- sums, least and greatest of the first ones -/
def smF (f : Nat → Int) : Nat → Int
  | 0 => 0
  | n + 1 => smF f n + f n
def mnF (f : Nat → Int) (a : Int) : Nat → Int
  | 0 => a
  | n + 1 => if f n < mnF f a n then f n else mnF f a n
def mxF (f : Nat → Int) (a : Int) : Nat → Int
  | 0 => a
  | n + 1 => if mxF f a n < f n then f n else mxF f a n
theorem smF_in {f : Nat → Int} {c : Int} {n : Nat} (h : ∀ j, j < n → 0 ≤ f j ∧ f j ≤ c) : 0 ≤ smF f n ∧ smF f n ≤ c * n := by
  induction n with
  | zero => simp [smF]
  | succ n ih =>
    have := ih (fun j hj => h j (by omega))
    have h2 := h n (by omega)
    show 0 ≤ smF f n + f n ∧ smF f n + f n ≤ c * ((n + 1 : Nat) : Int)
    rw [show c * ((n + 1 : Nat) : Int) = c * n + c by rw [Int.natCast_succ, Int.mul_add, Int.mul_one]]
    omega
theorem smF_congr {f g : Nat → Int} {n : Nat} (h : ∀ j, j < n → f j = g j) : smF f n = smF g n := by
  induction n with
  | zero => rfl
  | succ n ih => show smF f n + f n = smF g n + g n; rw [ih (fun j hj => h j (by omega)), h n (by omega)]
theorem mnF_in {f : Nat → Int} {a lo hi : Int} {n : Nat} (ha : lo ≤ a ∧ a ≤ hi) (h : ∀ j, j < n → lo ≤ f j ∧ f j ≤ hi) : lo ≤ mnF f a n ∧ mnF f a n ≤ hi := by
  induction n with
  | zero => exact ha
  | succ n ih =>
    have := ih (fun j hj => h j (by omega))
    have h2 := h n (by omega)
    show lo ≤ (if f n < mnF f a n then f n else mnF f a n) ∧ (if f n < mnF f a n then f n else mnF f a n) ≤ hi
    split <;> omega
theorem mxF_in {f : Nat → Int} {a lo hi : Int} {n : Nat} (ha : lo ≤ a ∧ a ≤ hi) (h : ∀ j, j < n → lo ≤ f j ∧ f j ≤ hi) : lo ≤ mxF f a n ∧ mxF f a n ≤ hi := by
  induction n with
  | zero => exact ha
  | succ n ih =>
    have := ih (fun j hj => h j (by omega))
    have h2 := h n (by omega)
    show lo ≤ (if mxF f a n < f n then f n else mxF f a n) ∧ (if mxF f a n < f n then f n else mxF f a n) ≤ hi
    split <;> omega
/-- all sites are on the lattice -/
def LT (l : List Nat) : Prop := ∀ x ∈ l, x < 100
theorem LT.at {l : List Nat} (h : LT l) (j : Nat) : l.getD j 0 < 100 := by
  rw [List.getD_eq_getElem?_getD]
  cases e : l[j]? with
  | none => show 0 < 100; omega
  | some x => exact h x (List.mem_of_getElem? e)
theorem atI_nat {l : List Nat} {z : Int} {j : Nat} (hz : z = (j : Int)) (hj : j < l.length) : atI l z = (l.getD j 0 : Int) := by
  subst hz
  unfold atI
  rw [if_pos (by omega), Int.toNat_natCast]
theorem getD_mem {l : List Nat} {j : Nat} (hj : j < l.length) : l.getD j 0 ∈ l := by
  rw [List.getD_eq_getElem?_getD, List.getElem?_eq_getElem hj]
  exact List.getElem_mem hj
theorem mem_getD {l : List Nat} {x : Nat} (hx : x ∈ l) : ∃ j, j < l.length ∧ l.getD j 0 = x := by
  obtain ⟨j, hj, e⟩ := List.getElem_of_mem hx
  exact ⟨j, hj, by rw [List.getD_eq_getElem?_getD, List.getElem?_eq_getElem hj]; exact e⟩
theorem take_getD {l : List Nat} {i : Nat} (hi : i < l.length) : l.take i ++ [l.getD i 0] = l.take (i + 1) := by
  rw [List.take_succ, List.getD_eq_getElem?_getD, List.getElem?_eq_getElem hi]
  rfl
theorem drop_getD {l : List Nat} {i j : Nat} : (l.drop i).getD j 0 = l.getD (i + j) 0 := by
  rw [List.getD_eq_getElem?_getD, List.getD_eq_getElem?_getD, List.getElem?_drop]
theorem gD_app {a b : List Nat} {j : Nat} : (a ++ b).getD j 0 = if j < a.length then a.getD j 0 else b.getD (j - a.length) 0 := by
  by_cases h : j < a.length
  · rw [if_pos h, List.getD_eq_getElem?_getD, List.getElem?_append_left h, List.getD_eq_getElem?_getD]
  · rw [if_neg h, List.getD_eq_getElem?_getD, List.getElem?_append_right (by omega), List.getD_eq_getElem?_getD]
theorem gD_take {l : List Nat} {n j : Nat} (h : j < n) : (l.take n).getD j 0 = l.getD j 0 := by
  rw [List.getD_eq_getElem?_getD, List.getElem?_take, if_pos h, List.getD_eq_getElem?_getD]
theorem gD_rev {l : List Nat} {j : Nat} (h : j < l.length) : l.reverse.getD j 0 = l.getD (l.length - 1 - j) 0 := by
  rw [List.getD_eq_getElem?_getD, List.getElem?_reverse h, List.getD_eq_getElem?_getD]
theorem up_f {w : Wd} {a k b : Nat} {z : Int} (h : b ≠ a) : up w a k z b = w b := by funext j; exact up_a h
end
section
section GoSw
variable {G : Gm} {cc : ByteArray} {mt : Mt} {nx : Option Nat} {d bc bs pc : Nat} {ls : List (Option Vl)} {st : List Vl} {w : Wd} {K : Kt} {X : Xt}
theorem Go_tsIn {dflt lo hi off z : Int} {offs : Array Int} {len i tgt : Nat} (dec : decode cc pc = .ok (.tableswitch dflt lo hi offs, len)) (hz : z = lo + i) (hr : inR (lo + i) ∧ lo + i ≤ hi) (ho : offs[i]? = some off) (ht : (pc : Int) + off = (tgt : Int)) (k : Go G cc mt nx d bc bs tgt ls st w K X) : Go G cc mt nx d bc bs pc ls (vi z :: st) w K X := by
  intro p e R s m args below meth c Q H locs cells slots la C EK EX hl hw hS h1 h2
  subst hz
  have e1 := inR_toInt hr.1
  exact lv_tableIn (x := Int32.ofInt (lo + i)) C.1 C.2.1 dec (by rw [e1]; omega) (by rw [e1]; omega) (by rw [e1, show (lo + (i : Int) - lo).toNat = i by omega]; exact ho) ht (k p e R s m args below meth c Q H locs cells slots la C EK EX hl hw hS h1 h2)
theorem Go_tsOut {dflt lo hi z : Int} {offs : Array Int} {len tgt : Nat} (dec : decode cc pc = .ok (.tableswitch dflt lo hi offs, len)) (hr : inR z) (hz : z < lo ∨ hi < z) (ht : (pc : Int) + dflt = (tgt : Int)) (k : Go G cc mt nx d bc bs tgt ls st w K X) : Go G cc mt nx d bc bs pc ls (vi z :: st) w K X := by
  intro p e R s m args below meth c Q H locs cells slots la C EK EX hl hw hS h1 h2
  exact lv_tableOut (x := Int32.ofInt z) C.1 C.2.1 dec (by rw [inR_toInt hr]; exact hz) ht (k p e R s m args below meth c Q H locs cells slots la C EK EX hl hw hS h1 h2)
theorem Go_lks {dflt off z : Int} {ps : Array (Int × Int)} {len tgt : Nat} (dec : decode cc pc = .ok (.lookupswitch dflt ps, len)) (hr : inR z) (hp : (ps.toList.zip (ps.toList.drop 1)).all (fun (a, next) => a.1 < next.1) = true) (ho : Op.lookupswitch.offset ps.toList dflt z = off) (ht : (pc : Int) + off = (tgt : Int)) (k : Go G cc mt nx d bc bs tgt ls st w K X) : Go G cc mt nx d bc bs pc ls (vi z :: st) w K X := by
  intro p e R s m args below meth c Q H locs cells slots la C EK EX hl hw hS h1 h2
  exact lv_lookup (x := Int32.ofInt z) C.1 C.2.1 dec hp (by rw [inR_toInt hr]; exact ho) ht (k p e R s m args below meth c Q H locs cells slots la C EK EX hl hw hS h1 h2)
theorem Go_cV4 {y : MethodName} {cc' : ByteArray} {nl' idx d' bc' bs' a ci : Nat} {mt' : Mt} {x0 x1 x2 x3 : Vl} {ty : FieldType} (hr : mt'.1 = some ty) (dec : decode cc pc = .ok (.invokevirtual idx, 3)) (mv : MV y cc' nl' mt' 4) (ht : mt'.2.2.2 = []) (lk : Cond.methodLink mt.2.1 idx y ∈ GW) (hs : SH a = (1, ci)) (hc : (vwCl[ci]?).map (·.1) = some y.cls) (hx : okx nx a) (hd : d' < d) (hbc : bc' ≤ bc) (hbs : bs' ≤ bs) (hsum : (st.map fun v => (cv G v).category).sum ≤ 8) (E : Ev G y cc' nl' mt' nx d' bc' bs' (vr a :: [x0, x1, x2, x3]) w (fun v nx' w' => Go G cc mt nx' d (bc - bc') (bs - bs') (pc + 3) ls (v :: st) w' K X) X) : Go G cc mt nx d bc bs pc ls (x3 :: x2 :: x1 :: x0 :: vr a :: st) w K X := Go_callV dec mv ht lk hs hc hx rfl rfl hsum hd hbc hbs (fun v nx' w' h => by rw [hr]; exact h) E
end GoSw
end
