/-- the static arrays of the lattice's steps -/
def tabA (j : Nat) : Int := [0, 1, 0, -1].getD j 0
def tabB (j : Nat) : Int := [-1, 0, 1, 0].getD j 0
/-- the texts of the exceptions, and where they stand -/
def txs : List (String × Nat × String) := [(RX11, 89, "the site is not free, or there are 5 paths"), (RX11, 123, "the path has only one site"), (RX11, 165, "the heads are not neighbours, or there are more than 60 sites"), (RX11, 172, "the site is the head already"), (RX11, 175, "there are 5 paths"), (RX11, 224, "no state is saved"), (RX11, 339, "there is no such site"), (RX11, 341, "there is no such path"), (RX11, 346, "the path has no such site"), (RX11, 348, "both paths are the same"), (RX11, 350, "the argument is out of range")]
def tyl (G : Gm) : List (ClassId × FieldType) := [(Gc G 2, .int), (Gc G 3, .char), (Gc G 4, .boolean), (Gc G 5, .object RX9), (Gc G 6, .object RX5)]
def urdl : List Int32 := [85, 82, 68, 76]
def exn (k : Nat) : String := match k with
  | 1 => "java/lang/IndexOutOfBoundsException"
  | 2 => "java/lang/IllegalStateException"
  | _ => "java/lang/IllegalArgumentException"
/-- the links to what is hidden in a nest mate -/
def nestM : List (String × Nat × MethodName) := [(RX0, 24, yX9_init), (RX1, 17, yX5_init), (RX8, 21, yX5_init), (RX11, 32, yX3_init), (RX11, 39, yX9_init), (RX11, 46, yX10_init), (RX11, 53, yX6_init), (RX11, 60, yX4_init), (RX11, 67, yX7_init)]
def nestF : List (String × Nat × String × String × String) := [(RX5, 25, RX0, "trails", "[LLatticePaths$Trail;"), (RX5, 18, RX0, "pathCount", "I"), (RX5, 39, RX0, "stepsMade", "I"), (RX5, 43, RX0, "refusals", "I"), (RX5, 47, RX0, "turnsMade", "I")]
def kEq (k : Nat) : Prop := 1 ≤ k ∧ k ≤ 3
/-- the inherited constructors that the exceptions go through -/
def declY : List MethodName := [Bundle.initS "java/lang/RuntimeException", Bundle.initS "java/lang/Exception", Bundle.initS Bundle.tN]
/-- what a state's tables say, and the cells that were there before -/
def KS (G : Gm) (U : State) (H : Heap) : Prop :=
  va_K (GD G) vwCl (tyl G) U ∧
  vx_Zq Bundle.tN "UNASSIGNED_STACK" Bundle.steD (ownA G) U H ∧ vx_Zq Bundle.tN "SUPPRESSED_SENTINEL" Bundle.listD (ownA G) U H ∧
  (va_Z RX2 "ACROSS" "[I" (.ref (Gs G 1001)) (ownA G) U H ∧ va_T .int (Gs G 1001) 4 (fun j => .int (Int32.ofInt (tabA j))) (ownA G) U H) ∧
  (va_Z RX2 "ALONG" "[I" (.ref (Gs G 1002)) (ownA G) U H ∧ va_T .int (Gs G 1002) 4 (fun j => .int (Int32.ofInt (tabB j))) (ownA G) U H) ∧
  (∀ q ∈ txs, ∃ a, vk_R q.1 q.2.1 q.2.2 a U) ∧
  True ∧
  (va_X (Gs G 1000) (GL G) (Gx G) U H ∧ ¬ ownA G (Gs G 1000)) ∧
  ((∀ q ∈ nestM, va_Nw (.methodLinkNest q.1 q.2.1 q.2.2 "LatticePaths") U) ∧ va_AO RX9 U ∧ va_AO RX5 U) ∧ (∀ q ∈ nestF, va_Nw (.fieldLinkNest q.1 q.2.1 q.2.2.1 q.2.2.2.1 q.2.2.2.2 "LatticePaths") U) ∧
  ((∀ k, kEq k → va_Nw (.castable (exn k) (exn k)) U) ∧ ∀ y ∈ declY, va_Nw (.declares y) U) ∧ (∀ k j, kEq k → kEq j → k ≠ j → va_Nc (exn k) (exn j) U)
theorem KS.go {G : Gm} {s U : State} {H1 : Heap} (h : KS G s s.heap) (hW : s.WarmedH U.vm) (hq : ∀ a : Nat, a < s.heap.size → ¬ ownA G a → H1[a]? = s.heap[a]?) : KS G U H1 := by
  obtain ⟨h1, h2, h3, ⟨h4, h5⟩, ⟨h6, h7⟩, h8, h9, ⟨h15, h16⟩, h17, h18, h19, h20⟩ := h
  have hv := hW.alike
  refine ⟨h1.moved hv, (h2.moved hv).kept hq, (h3.moved hv).kept hq, ⟨(h4.moved hv).kept hq, (h5.moved hv).kept hq⟩, ⟨(h6.moved hv).kept hq, (h7.moved hv).kept hq⟩, fun q hm => ?_, h9, ⟨?_, h16⟩, ⟨fun q hm => (h17.1 q hm).warmM hW, h17.2.1.moved hv, h17.2.2.moved hv⟩, fun q hm => (h18 q hm).warmF hW, ⟨fun k hk => (h19.1 k hk).warmC hW, fun y hy => (h19.2 y hy).warmD hW⟩, fun k j a b c => (h20 k j a b c).moved hv⟩
  · obtain ⟨a, ha⟩ := h8 q hm
    exact ⟨a, ha.warm hW⟩
  · refine va_X.moved hv (h15.kept (hq _ ?_ h16))
    obtain ⟨scr, e1, -⟩ := h15
    exact (Array.getElem?_eq_some_iff.mp e1).1
theorem KS.calling {G : Gm} {U : State} {H1 : Heap} (g : JFrame) (mk : MethodId) (a : Array Value) (h : KS G U H1) : KS G (U.calling g mk a) H1 := by
  obtain ⟨h1, h2, h3, ⟨h4, h5⟩, ⟨h6, h7⟩, h8, h9, ⟨h15, h16⟩, h17, h18, h19, h20⟩ := h
  have hv : U.vm.Alike (U.calling g mk a).vm := Vm.Alike.refl U.vm
  refine ⟨h1.moved hv, h2.moved hv, h3.moved hv, ⟨h4.moved hv, h5.moved hv⟩, ⟨h6.moved hv, h7.moved hv⟩, fun q hm => ?_, h9, ⟨h15.moved hv, h16⟩, ⟨fun q hm => (h17.1 q hm).same rfl rfl, h17.2.1.moved hv, h17.2.2.moved hv⟩, fun q hm => (h18 q hm).same rfl rfl, ⟨fun k hk => (h19.1 k hk).same rfl rfl, fun y hy => (h19.2 y hy).same rfl rfl⟩, fun k j a b c => (h20 k j a b c).moved hv⟩
  obtain ⟨a, ha⟩ := h8 q hm
  exact ⟨a, ha.same rfl⟩
/-- the locals -/
def lsOK (G : Gm) (la : Array Slot) (ls : List (Option Vl)) : Prop := la.size = ls.length ∧ lv_wf la ∧ ∀ (i : Nat) (v : Vl), ls[i]? = some (some v) → la[i]? = some (.val (cv G v))
/-- what holds all through a method's body -/
def Cx (G : Gm) (cc : ByteArray) (mt : Mt) (d : Nat) (p : Program) (R : Room) (s : State) (m : MethodId) (args : Array Value) (meth : Method) (c : Code) (nl : Nat) : Prop :=
  p.tables.exec = Jvm.exec ∧ c.code = cc ∧ meth.sig.returnType = mt.1 ∧ s.vm.findClass mt.2.1 = some m.cls ∧ (∀ w ∈ GW, w.before args s = true) ∧ meth.locks = false ∧ (mt.2.2.1 = true → meth.name = "<init>") ∧ c.maxLocals = nl ∧ d ≤ R.frames ∧ 40 * d ≤ R.locals ∧ KS G s s.heap ∧ G.1.stackTraces = false ∧ Gb G ≤ s.heap.size ∧ c.exceptionTable.toList = tableOf mt.2.2.2
/-- an instruction that returns v, the stack at it -/
def RetI (G : Gm) (mt : Mt) (cc : ByteArray) (pc : Nat) (v : Vl) (st : List Value) : Prop :=
  (mt.1 = none ∧ decode cc pc = .ok (.return_, 1) ∧ v = vi 0 ∧ st = []) ∨
  (∃ (z : Int) (ty : FieldType), v = vi z ∧ mt.1 = some ty ∧ narrow ty (.int (Int32.ofInt z)) = .int (Int32.ofInt z) ∧ decode cc pc = .ok (.ireturn, 1) ∧ st = [.int (Int32.ofInt z)]) ∨
  (∃ (a : Nat), v = vr a ∧ (∃ n, mt.1 = some (.object n)) ∧ decode cc pc = .ok (.areturn, 1) ∧ st = [.ref (rho G a)]) ∨
  (∃ (x : UInt64), v = vd x ∧ mt.1 = some .double ∧ decode cc pc = .ok (.dreturn, 1) ∧ st = [.double x]) ∨
  (∃ (x : UInt32), v = vf x ∧ mt.1 = some .float ∧ decode cc pc = .ok (.freturn, 1) ∧ st = [.float x]) ∨
  (∃ (z : Int), v = vl z ∧ mt.1 = some .long ∧ decode cc pc = .ok (.lreturn, 1) ∧ st = [.long (Int64.ofInt z)])
abbrev Kt : Type := Vl → Option Nat → Wd → Prop
abbrev Xt : Type := Nat → Option Nat → Wd → Prop
def EndK (G : Gm) (cc : ByteArray) (mt : Mt) (p : Program) (e : Env) (R : Room) (s : State) (m : MethodId) (args : Array Value) (below : List Frame) (meth : Method) (c : Code) (Q : State → Prop) (K : Kt) : Prop :=
  ∀ (v : Vl) (nx : Option Nat) (w : Wd) (H : Heap) (locs : List Loc) (cells slots : Nat) (la : Array Slot) (pc : Nat) (st : List Value), K v nx w → wholds G nx w H → va_S (ownA G) s.heap H locs → cells ≤ R.cells → slots ≤ R.slots → RetI G mt cc pc v st →
    W p G.1 e R s m args below meth c H locs cells slots Q (F0 m pc la st)
def EndX (G : Gm) (R : Room) (s : State) (args : Array Value) (below : List Frame) (c : Code) (Q : State → Prop) (X : Xt) : Prop :=
  (∀ k nx w, ¬ X k nx w) ∨ ∃ (Qc : Array Value → State → Outcome → State → Prop) (XC : String → State → State → Prop) (mc ms : Nat), Q = vx_MQ below Qc XC args s mc ms (ownA G) ∧ R.cells ≤ mc ∧ R.slots ≤ ms ∧ (∀ x ∈ c.exceptionTable.toList, False) ∧
    ∀ (k : Nat) (nx : Option Nat) (w : Wd) (t : State), X k nx w → wholds G nx w t.heap → va_F (ownA G) s t → XC (exn k) s t
def Go (G : Gm) (cc : ByteArray) (mt : Mt) (nx : Option Nat) (d bc bs pc : Nat) (ls : List (Option Vl)) (st : List Vl) (w : Wd) (K : Kt) (X : Xt) : Prop :=
  ∀ (p : Program) (e : Env) (R : Room) (s : State) (m : MethodId) (args : Array Value) (below : List Frame) (meth : Method) (c : Code) (Q : State → Prop) (H : Heap) (locs : List Loc) (cells slots : Nat) (la : Array Slot),
    Cx G cc mt d p R s m args meth c ls.length → EndK G cc mt p e R s m args below meth c Q K → EndX G R s args below c Q X →
    lsOK G la ls → wholds G nx w H → va_S (ownA G) s.heap H locs → cells + bc ≤ R.cells → slots + bs ≤ R.slots →
    W p G.1 e R s m args below meth c H locs cells slots Q (F0 m pc la (st.map (cv G)))
theorem inR_0 : inR 0 := ⟨by decide, by decide⟩
section GoRules
variable {G : Gm} {cc : ByteArray} {mt : Mt} {nx : Option Nat} {d bc bs pc : Nat} {ls : List (Option Vl)} {st : List Vl} {w : Wd} {K : Kt} {X : Xt}
theorem Go_iconst {n : Int} (dec : decode cc pc = .ok (.iconst n, 1)) (k : Go G cc mt nx d bc bs (pc + 1) ls (vi n :: st) w K X) : Go G cc mt nx d bc bs pc ls st w K X := by
  intro p e R s m args below meth c Q H locs cells slots la C EK EX hl hw hS h1 h2
  exact lv_iconst C.1 C.2.1 dec rfl (k p e R s m args below meth c Q H locs cells slots la C EK EX hl hw hS h1 h2)
theorem Go_bipush {n : Int} (dec : decode cc pc = .ok (.bipush n, 2)) (hn : (Int8.ofInt n).toInt32 = Int32.ofInt n := by decide +kernel) (k : Go G cc mt nx d bc bs (pc + 2) ls (vi n :: st) w K X) : Go G cc mt nx d bc bs pc ls st w K X := by
  intro p e R s m args below meth c Q H locs cells slots la C EK EX hl hw hS h1 h2
  exact lv_bipush C.1 C.2.1 dec hn (k p e R s m args below meth c Q H locs cells slots la C EK EX hl hw hS h1 h2)
theorem Go_sipush {n : Int} (dec : decode cc pc = .ok (.sipush n, 3)) (hn : (Int16.ofInt n).toInt32 = Int32.ofInt n := by decide +kernel) (k : Go G cc mt nx d bc bs (pc + 3) ls (vi n :: st) w K X) : Go G cc mt nx d bc bs pc ls st w K X := by
  intro p e R s m args below meth c Q H locs cells slots la C EK EX hl hw hS h1 h2
  exact lv_sipush C.1 C.2.1 dec hn (k p e R s m args below meth c Q H locs cells slots la C EK EX hl hw hS h1 h2)
theorem Go_iload_n {j : Fin 4} {i : Nat} {z : Int} (dec : decode cc pc = .ok (.iload_n j, 1)) (hi : (j : Nat) = i) (h : ls[i]? = some (some (vi z))) (k : Go G cc mt nx d bc bs (pc + 1) ls (vi z :: st) w K X) : Go G cc mt nx d bc bs pc ls st w K X := by
  intro p e R s m args below meth c Q H locs cells slots la C EK EX hl hw hS h1 h2
  exact lv_iload_n C.1 C.2.1 dec hi (hl.2.2 i _ h) (k p e R s m args below meth c Q H locs cells slots la C EK EX hl hw hS h1 h2)
theorem Go_iload {i : Nat} {z : Int} (dec : decode cc pc = .ok (.iload i, 2)) (h : ls[i]? = some (some (vi z))) (k : Go G cc mt nx d bc bs (pc + 2) ls (vi z :: st) w K X) : Go G cc mt nx d bc bs pc ls st w K X := by
  intro p e R s m args below meth c Q H locs cells slots la C EK EX hl hw hS h1 h2
  exact lv_iload C.1 C.2.1 dec (hl.2.2 i _ h) (k p e R s m args below meth c Q H locs cells slots la C EK EX hl hw hS h1 h2)
theorem Go_aload_n {j : Fin 4} {i a : Nat} (dec : decode cc pc = .ok (.aload_n j, 1)) (hi : (j : Nat) = i) (h : ls[i]? = some (some (vr a))) (k : Go G cc mt nx d bc bs (pc + 1) ls (vr a :: st) w K X) : Go G cc mt nx d bc bs pc ls st w K X := by
  intro p e R s m args below meth c Q H locs cells slots la C EK EX hl hw hS h1 h2
  exact lv_aload_n C.1 C.2.1 dec hi (hl.2.2 i _ h) (k p e R s m args below meth c Q H locs cells slots la C EK EX hl hw hS h1 h2)
theorem Go_aload {i a : Nat} (dec : decode cc pc = .ok (.aload i, 2)) (h : ls[i]? = some (some (vr a))) (k : Go G cc mt nx d bc bs (pc + 2) ls (vr a :: st) w K X) : Go G cc mt nx d bc bs pc ls st w K X := by
  intro p e R s m args below meth c Q H locs cells slots la C EK EX hl hw hS h1 h2
  exact lv_aload C.1 C.2.1 dec (hl.2.2 i _ h) (k p e R s m args below meth c Q H locs cells slots la C EK EX hl hw hS h1 h2)
theorem Go_iadd {a b : Int} (dec : decode cc pc = .ok (.iadd, 1)) (k : Go G cc mt nx d bc bs (pc + 1) ls (vi (a + b) :: st) w K X) : Go G cc mt nx d bc bs pc ls (vi b :: vi a :: st) w K X := by
  intro p e R s m args below meth c Q H locs cells slots la C EK EX hl hw hS h1 h2
  have kk := k p e R s m args below meth c Q H locs cells slots la C EK EX hl hw hS h1 h2
  refine lv_iadd C.1 C.2.1 dec ?_
  rw [← Int32.ofInt_add]
  exact kk
theorem Go_isub {a b : Int} (dec : decode cc pc = .ok (.isub, 1)) (k : Go G cc mt nx d bc bs (pc + 1) ls (vi (a - b) :: st) w K X) : Go G cc mt nx d bc bs pc ls (vi b :: vi a :: st) w K X := by
  intro p e R s m args below meth c Q H locs cells slots la C EK EX hl hw hS h1 h2
  have kk := k p e R s m args below meth c Q H locs cells slots la C EK EX hl hw hS h1 h2
  refine lv_isub C.1 C.2.1 dec ?_
  rw [← Int32.ofInt_sub]
  exact kk
theorem Go_imul {a b : Int} (dec : decode cc pc = .ok (.imul, 1)) (k : Go G cc mt nx d bc bs (pc + 1) ls (vi (a * b) :: st) w K X) : Go G cc mt nx d bc bs pc ls (vi b :: vi a :: st) w K X := by
  intro p e R s m args below meth c Q H locs cells slots la C EK EX hl hw hS h1 h2
  have kk := k p e R s m args below meth c Q H locs cells slots la C EK EX hl hw hS h1 h2
  refine lv_imul C.1 C.2.1 dec ?_
  rw [← Int32.ofInt_mul]
  exact kk
theorem Go_ineg {a : Int} (dec : decode cc pc = .ok (.ineg, 1)) (k : Go G cc mt nx d bc bs (pc + 1) ls (vi (-a) :: st) w K X) : Go G cc mt nx d bc bs pc ls (vi a :: st) w K X := by
  intro p e R s m args below meth c Q H locs cells slots la C EK EX hl hw hS h1 h2
  have kk := k p e R s m args below meth c Q H locs cells slots la C EK EX hl hw hS h1 h2
  refine lv_ineg C.1 C.2.1 dec ?_
  rw [← Int32.ofInt_neg]
  exact kk
theorem Go_goto {off : Int} {tgt : Nat} (dec : decode cc pc = .ok (.goto off, 3)) (ht : (pc : Int) + off = (tgt : Int)) (k : Go G cc mt nx d bc bs tgt ls st w K X) : Go G cc mt nx d bc bs pc ls st w K X := by
  intro p e R s m args below meth c Q H locs cells slots la C EK EX hl hw hS h1 h2
  exact lv_goto C.1 C.2.1 dec ht (k p e R s m args below meth c Q H locs cells slots la C EK EX hl hw hS h1 h2)
theorem Go_dup {a : Nat} (dec : decode cc pc = .ok (.dup, 1)) (k : Go G cc mt nx d bc bs (pc + 1) ls (vr a :: vr a :: st) w K X) : Go G cc mt nx d bc bs pc ls (vr a :: st) w K X := by
  intro p e R s m args below meth c Q H locs cells slots la C EK EX hl hw hS h1 h2
  exact lv_dup C.1 C.2.1 dec rfl (k p e R s m args below meth c Q H locs cells slots la C EK EX hl hw hS h1 h2)
theorem Go_dup2 {a : Nat} {z : Int} (dec : decode cc pc = .ok (.dup2, 1)) (k : Go G cc mt nx d bc bs (pc + 1) ls (vi z :: vr a :: vi z :: vr a :: st) w K X) : Go G cc mt nx d bc bs pc ls (vi z :: vr a :: st) w K X := by
  intro p e R s m args below meth c Q H locs cells slots la C EK EX hl hw hS h1 h2
  exact lv_dup2_11 C.1 C.2.1 dec rfl rfl (k p e R s m args below meth c Q H locs cells slots la C EK EX hl hw hS h1 h2)
theorem Go_icmp_eq {a b : Int} {off : Int} {tgt : Nat} (dec : decode cc pc = .ok (.if_icmp .eq off, 3)) (ht : (pc : Int) + off = (tgt : Int)) (ha : inR a) (hb : inR b) (kt : a = b → Go G cc mt nx d bc bs tgt ls st w K X) (kf : ¬ (a = b) → Go G cc mt nx d bc bs (pc + 3) ls st w K X) : Go G cc mt nx d bc bs pc ls (vi b :: vi a :: st) w K X := by
  intro p e R s m args below meth c Q H locs cells slots la C EK EX hl hw hS h1 h2
  exact lv_icmp_eq C.1 C.2.1 dec ht (fun h => kt ((iI_eq ha hb).mp h) p e R s m args below meth c Q H locs cells slots la C EK EX hl hw hS h1 h2) (fun h => kf (fun q => h ((iI_eq ha hb).mpr q)) p e R s m args below meth c Q H locs cells slots la C EK EX hl hw hS h1 h2)
theorem Go_icmp_ne {a b : Int} {off : Int} {tgt : Nat} (dec : decode cc pc = .ok (.if_icmp .ne off, 3)) (ht : (pc : Int) + off = (tgt : Int)) (ha : inR a) (hb : inR b) (kt : ¬ a = b → Go G cc mt nx d bc bs tgt ls st w K X) (kf : a = b → Go G cc mt nx d bc bs (pc + 3) ls st w K X) : Go G cc mt nx d bc bs pc ls (vi b :: vi a :: st) w K X := by
  intro p e R s m args below meth c Q H locs cells slots la C EK EX hl hw hS h1 h2
  exact lv_icmp_ne C.1 C.2.1 dec ht (fun h => kt (fun q => h ((iI_eq ha hb).mpr q)) p e R s m args below meth c Q H locs cells slots la C EK EX hl hw hS h1 h2) (fun h => kf ((iI_eq ha hb).mp h) p e R s m args below meth c Q H locs cells slots la C EK EX hl hw hS h1 h2)
theorem Go_icmp_lt {a b : Int} {off : Int} {tgt : Nat} (dec : decode cc pc = .ok (.if_icmp .lt off, 3)) (ht : (pc : Int) + off = (tgt : Int)) (ha : inR a) (hb : inR b) (kt : a < b → Go G cc mt nx d bc bs tgt ls st w K X) (kf : ¬ (a < b) → Go G cc mt nx d bc bs (pc + 3) ls st w K X) : Go G cc mt nx d bc bs pc ls (vi b :: vi a :: st) w K X := by
  intro p e R s m args below meth c Q H locs cells slots la C EK EX hl hw hS h1 h2
  exact lv_icmp_lt C.1 C.2.1 dec ht (fun h => kt ((iI_lt ha hb).mp h) p e R s m args below meth c Q H locs cells slots la C EK EX hl hw hS h1 h2) (fun h => kf (fun q => h ((iI_lt ha hb).mpr q)) p e R s m args below meth c Q H locs cells slots la C EK EX hl hw hS h1 h2)
theorem Go_icmp_ge {a b : Int} {off : Int} {tgt : Nat} (dec : decode cc pc = .ok (.if_icmp .ge off, 3)) (ht : (pc : Int) + off = (tgt : Int)) (ha : inR a) (hb : inR b) (kt : b ≤ a → Go G cc mt nx d bc bs tgt ls st w K X) (kf : ¬ (b ≤ a) → Go G cc mt nx d bc bs (pc + 3) ls st w K X) : Go G cc mt nx d bc bs pc ls (vi b :: vi a :: st) w K X := by
  intro p e R s m args below meth c Q H locs cells slots la C EK EX hl hw hS h1 h2
  exact lv_icmp_ge C.1 C.2.1 dec ht (fun h => kt ((iI_le hb ha).mp h) p e R s m args below meth c Q H locs cells slots la C EK EX hl hw hS h1 h2) (fun h => kf (fun q => h ((iI_le hb ha).mpr q)) p e R s m args below meth c Q H locs cells slots la C EK EX hl hw hS h1 h2)
theorem Go_icmp_gt {a b : Int} {off : Int} {tgt : Nat} (dec : decode cc pc = .ok (.if_icmp .gt off, 3)) (ht : (pc : Int) + off = (tgt : Int)) (ha : inR a) (hb : inR b) (kt : b < a → Go G cc mt nx d bc bs tgt ls st w K X) (kf : ¬ (b < a) → Go G cc mt nx d bc bs (pc + 3) ls st w K X) : Go G cc mt nx d bc bs pc ls (vi b :: vi a :: st) w K X := by
  intro p e R s m args below meth c Q H locs cells slots la C EK EX hl hw hS h1 h2
  exact lv_icmp_gt C.1 C.2.1 dec ht (fun h => kt ((iI_lt hb ha).mp h) p e R s m args below meth c Q H locs cells slots la C EK EX hl hw hS h1 h2) (fun h => kf (fun q => h ((iI_lt hb ha).mpr q)) p e R s m args below meth c Q H locs cells slots la C EK EX hl hw hS h1 h2)
theorem Go_icmp_le {a b : Int} {off : Int} {tgt : Nat} (dec : decode cc pc = .ok (.if_icmp .le off, 3)) (ht : (pc : Int) + off = (tgt : Int)) (ha : inR a) (hb : inR b) (kt : a ≤ b → Go G cc mt nx d bc bs tgt ls st w K X) (kf : ¬ (a ≤ b) → Go G cc mt nx d bc bs (pc + 3) ls st w K X) : Go G cc mt nx d bc bs pc ls (vi b :: vi a :: st) w K X := by
  intro p e R s m args below meth c Q H locs cells slots la C EK EX hl hw hS h1 h2
  exact lv_icmp_le C.1 C.2.1 dec ht (fun h => kt ((iI_le ha hb).mp h) p e R s m args below meth c Q H locs cells slots la C EK EX hl hw hS h1 h2) (fun h => kf (fun q => h ((iI_le ha hb).mpr q)) p e R s m args below meth c Q H locs cells slots la C EK EX hl hw hS h1 h2)
theorem Go_if_eq {a : Int} {off : Int} {tgt : Nat} (dec : decode cc pc = .ok (.ifCond .eq off, 3)) (ht : (pc : Int) + off = (tgt : Int)) (ha : inR a) (kt : a = 0 → Go G cc mt nx d bc bs tgt ls st w K X) (kf : ¬ (a = 0) → Go G cc mt nx d bc bs (pc + 3) ls st w K X) : Go G cc mt nx d bc bs pc ls (vi a :: st) w K X := by
  intro p e R s m args below meth c Q H locs cells slots la C EK EX hl hw hS h1 h2
  exact lv_if_eq C.1 C.2.1 dec ht (fun h => kt ((iI_eq ha inR_0).mp h) p e R s m args below meth c Q H locs cells slots la C EK EX hl hw hS h1 h2) (fun h => kf (fun q => h ((iI_eq ha inR_0).mpr q)) p e R s m args below meth c Q H locs cells slots la C EK EX hl hw hS h1 h2)
theorem Go_if_ne {a : Int} {off : Int} {tgt : Nat} (dec : decode cc pc = .ok (.ifCond .ne off, 3)) (ht : (pc : Int) + off = (tgt : Int)) (ha : inR a) (kt : ¬ a = 0 → Go G cc mt nx d bc bs tgt ls st w K X) (kf : a = 0 → Go G cc mt nx d bc bs (pc + 3) ls st w K X) : Go G cc mt nx d bc bs pc ls (vi a :: st) w K X := by
  intro p e R s m args below meth c Q H locs cells slots la C EK EX hl hw hS h1 h2
  exact lv_if_ne C.1 C.2.1 dec ht (fun h => kt (fun q => h ((iI_eq ha inR_0).mpr q)) p e R s m args below meth c Q H locs cells slots la C EK EX hl hw hS h1 h2) (fun h => kf ((iI_eq ha inR_0).mp h) p e R s m args below meth c Q H locs cells slots la C EK EX hl hw hS h1 h2)
theorem Go_if_lt {a : Int} {off : Int} {tgt : Nat} (dec : decode cc pc = .ok (.ifCond .lt off, 3)) (ht : (pc : Int) + off = (tgt : Int)) (ha : inR a) (kt : a < 0 → Go G cc mt nx d bc bs tgt ls st w K X) (kf : ¬ (a < 0) → Go G cc mt nx d bc bs (pc + 3) ls st w K X) : Go G cc mt nx d bc bs pc ls (vi a :: st) w K X := by
  intro p e R s m args below meth c Q H locs cells slots la C EK EX hl hw hS h1 h2
  exact lv_if_lt C.1 C.2.1 dec ht (fun h => kt ((iI_lt ha inR_0).mp h) p e R s m args below meth c Q H locs cells slots la C EK EX hl hw hS h1 h2) (fun h => kf (fun q => h ((iI_lt ha inR_0).mpr q)) p e R s m args below meth c Q H locs cells slots la C EK EX hl hw hS h1 h2)
theorem Go_if_ge {a : Int} {off : Int} {tgt : Nat} (dec : decode cc pc = .ok (.ifCond .ge off, 3)) (ht : (pc : Int) + off = (tgt : Int)) (ha : inR a) (kt : 0 ≤ a → Go G cc mt nx d bc bs tgt ls st w K X) (kf : ¬ (0 ≤ a) → Go G cc mt nx d bc bs (pc + 3) ls st w K X) : Go G cc mt nx d bc bs pc ls (vi a :: st) w K X := by
  intro p e R s m args below meth c Q H locs cells slots la C EK EX hl hw hS h1 h2
  exact lv_if_ge C.1 C.2.1 dec ht (fun h => kt ((iI_le inR_0 ha).mp h) p e R s m args below meth c Q H locs cells slots la C EK EX hl hw hS h1 h2) (fun h => kf (fun q => h ((iI_le inR_0 ha).mpr q)) p e R s m args below meth c Q H locs cells slots la C EK EX hl hw hS h1 h2)
theorem Go_if_gt {a : Int} {off : Int} {tgt : Nat} (dec : decode cc pc = .ok (.ifCond .gt off, 3)) (ht : (pc : Int) + off = (tgt : Int)) (ha : inR a) (kt : 0 < a → Go G cc mt nx d bc bs tgt ls st w K X) (kf : ¬ (0 < a) → Go G cc mt nx d bc bs (pc + 3) ls st w K X) : Go G cc mt nx d bc bs pc ls (vi a :: st) w K X := by
  intro p e R s m args below meth c Q H locs cells slots la C EK EX hl hw hS h1 h2
  exact lv_if_gt C.1 C.2.1 dec ht (fun h => kt ((iI_lt inR_0 ha).mp h) p e R s m args below meth c Q H locs cells slots la C EK EX hl hw hS h1 h2) (fun h => kf (fun q => h ((iI_lt inR_0 ha).mpr q)) p e R s m args below meth c Q H locs cells slots la C EK EX hl hw hS h1 h2)
theorem Go_if_le {a : Int} {off : Int} {tgt : Nat} (dec : decode cc pc = .ok (.ifCond .le off, 3)) (ht : (pc : Int) + off = (tgt : Int)) (ha : inR a) (kt : a ≤ 0 → Go G cc mt nx d bc bs tgt ls st w K X) (kf : ¬ (a ≤ 0) → Go G cc mt nx d bc bs (pc + 3) ls st w K X) : Go G cc mt nx d bc bs pc ls (vi a :: st) w K X := by
  intro p e R s m args below meth c Q H locs cells slots la C EK EX hl hw hS h1 h2
  exact lv_if_le C.1 C.2.1 dec ht (fun h => kt ((iI_le ha inR_0).mp h) p e R s m args below meth c Q H locs cells slots la C EK EX hl hw hS h1 h2) (fun h => kf (fun q => h ((iI_le ha inR_0).mpr q)) p e R s m args below meth c Q H locs cells slots la C EK EX hl hw hS h1 h2)
end GoRules
