section GoCall
variable {G : Gm} {cc : ByteArray} {mt : Mt} {nx : Option Nat} {d bc bs pc : Nat} {ls : List (Option Vl)} {st : List Vl} {w : Wd} {K : Kt} {X : Xt}
/-- the words of a method: its own code, and all -/
def wsM (y : MethodName) (cc : ByteArray) (nl : Nat) (mt : Mt) : List Cond := codeW y cc nl mt :: GW
def PcG (G : Gm) (nx : Option Nat) (w : Wd) (as : List Vl) : Array Value → State → Prop := fun v U => v = (as.map (cv G)).toArray ∧ KS G U U.heap ∧ wholds G nx w U.heap ∧ Gb G ≤ U.heap.size
def rvl (G : Gm) (mt : Mt) (v : Vl) : Option Value := match mt.1 with
  | none => none
  | some _ => some (cv G v)
def QcG (G : Gm) (mt : Mt) (K : Kt) : Array Value → State → Outcome → State → Prop := fun _ st o t => ∃ (v : Vl) (nx : Option Nat) (w : Wd), o = .returned (rvl G mt v) ∧ K v nx w ∧ wholds G nx w t.heap ∧ va_F (ownA G) st t
def XcG (G : Gm) (X : Xt) : String → State → State → Prop := fun E st t => ∃ (k : Nat) (nx : Option Nat) (w : Wd), E = exn k ∧ X k nx w ∧ wholds G nx w t.heap ∧ va_F (ownA G) st t
def rmG (d bc bs : Nat) : Room := { frames := d, cells := bc, slots := bs, locals := 40 * d }
/-- a method's contract: from these arguments and this world it returns so that K holds, or throws so that X holds -/
def Ev (G : Gm) (y : MethodName) (cc : ByteArray) (nl : Nat) (mt : Mt) (nx : Option Nat) (d bc bs : Nat) (as : List Vl) (w : Wd) (K : Kt) (X : Xt) : Prop :=
  G.1.stackTraces = false → vx_Met G.1 y (wsM y cc nl mt) (rmG d bc bs) (PcG G nx w as) (QcG G mt K) (XcG G X) bc bs (ownA G)
theorem lsOK_entry {G : Gm} {as : List Vl} {nl : Nat} (ha : ∀ v ∈ as, c1 (some v) = true) (hn : as.length ≤ nl) : lsOK G (((lg_sl (as.map (cv G))) ++ List.replicate (nl - (lg_sl (as.map (cv G))).length) Slot.unset).toArray) (as.map some ++ List.replicate (nl - as.length) none) := by
  have e : ∀ as : List Vl, (∀ v ∈ as, c1 (some v) = true) → lg_sl (as.map (cv G)) = as.map fun v => Slot.val (cv G v) := by
    intro as
    induction as with
    | nil => intro _; rfl
    | cons v l ih =>
      intro h
      have h1 := cv_cat1 (G := G) (h v List.mem_cons_self)
      have h2 := ih (fun x hx => h x (List.mem_cons_of_mem _ hx))
      unfold lg_sl at h2 ⊢
      rw [List.map_cons, List.flatMap_cons, List.map_cons, h2, if_neg (by omega)]
      rfl
  have e1 := e as ha
  have hlen : (lg_sl (as.map (cv G))).length = as.length := by rw [e1, List.length_map]
  have hb := lv_entry (as.map (cv G)) (n := nl) (by rw [hlen]; exact hn)
  refine ⟨?_, hb.2.1, fun i v hv => ?_⟩
  · rw [hb.1]
    simp
    omega
  · rw [e1]
    have hi : i < as.length := by
      rcases Nat.lt_or_ge i as.length with q | q
      · exact q
      · rw [List.getElem?_append_right (by simp; exact q)] at hv
        rw [List.getElem?_replicate] at hv
        split at hv <;> cases hv
    rw [List.getElem?_append_left (by simp; exact hi), List.getElem?_map] at hv
    rw [List.getElem?_toArray, List.getElem?_append_left (by simp; exact hi), List.getElem?_map]
    cases hx : as[i]? with
    | none => rw [hx] at hv; cases hv
    | some y => rw [hx] at hv; cases hv; rfl
theorem GW_bef {args a' : Array Value} {s U : State} (hW : s.WarmedH U.vm) {w : Cond} (hw : w ∈ GW) (h : w.before args s = true) : w.before a' U = true := word_at hW (good_of_word (GW_good hw)) h
/-- the end of a body -/
theorem endK_of {G : Gm} {cc : ByteArray} {mt : Mt} {p : Program} {e : Env} {R : Room} {s : State} {m : MethodId} {args : Array Value} {below : List Frame} {meth : Method} {c : Code} {K : Kt} {X : Xt} {nl d : Nat} (C : Cx G cc mt d p R s m args meth c nl) :
    EndK G cc mt p e R s m args below meth c (vx_MQ below (QcG G mt K) (XcG G X) args s R.cells R.slots (ownA G)) K := by
  intro v nx w H locs cells slots la pc st hK hw hS h1 h2 hr
  obtain ⟨cx, cb, cr, -, -, cl, -⟩ := C
  refine vx_ret (W.widen h1 h2 ?_)
  have hf : ∀ q ∈ locs, ownA G q.base := hS.2.2
  have hq : ∀ (o : Option Value), o = rvl G mt v → ∀ t : State, t.heap = H → s.WarmedH t.vm → QcG G mt K args s (.returned o) t := fun o ho t ht _ => ⟨v, nx, w, by rw [ho], hK, by rw [ht]; exact hw, hS.F ht⟩
  rcases hr with ⟨h0, hd, rfl, rfl⟩ | ⟨z, ty, rfl, h0, hn, hd, rfl⟩ | ⟨a, rfl, ⟨n, h0⟩, hd, rfl⟩ | ⟨x, rfl, h0, hd, rfl⟩ | ⟨x, rfl, h0, hd, rfl⟩ | ⟨x, rfl, h0, hd, rfl⟩
  · exact W.vret cx cb (by rw [cr, h0]) (hq _ (by rw [rvl, h0])) hf hd cl
  · exact W.zret cx cb (by rw [cr, h0]) hn (hq _ (by rw [rvl, h0]; rfl)) hf hd cl
  · exact W.aret cx cb (by rw [cr, h0]) (Or.inl ⟨n, rfl⟩) (Or.inr ⟨_, rfl⟩) (hq _ (by rw [rvl, h0]; rfl)) hf hd cl
  · exact W.dret cx cb (by rw [cr, h0]) (hq _ (by rw [rvl, h0]; rfl)) hf hd cl
  · exact W.fret cx cb (by rw [cr, h0]) (hq _ (by rw [rvl, h0]; rfl)) hf hd cl
  · exact W.lret cx cb (by rw [cr, h0]) (hq _ (by rw [rvl, h0]; rfl)) hf hd cl
/-- a body's walk gives the contract -/
theorem Ev_intro {y : MethodName} {nl n : Nat} {as : List Vl} (mb : MB y cc nl mt n) (ho : y.cls = mt.2.1) (hi : mt.2.2.1 = true → y.name = "<init>") (ha : ∀ v ∈ as, c1 (some v) = true) (hn : as.length ≤ nl) (htb : mt.2.2.2 = [] ∨ ∀ k nx w, ¬ X k nx w) (k : Go G cc mt nx d bc bs 0 (as.map some ++ List.replicate (nl - as.length) none) [] w K X) : Ev G y cc nl mt nx d bc bs as w K X := by
  intro hst
  obtain ⟨hcode, hini, hmh, har, hpl, hnl, -⟩ := mb
  have main : ∀ (p : Program) (e : Env) (s : State) (m : MethodId) (args : Array Value) (below : List Frame) (meth : Method) (c : Code) (s₁ : State), BodyLoose p G.1 y (headSpec (wsM y cc nl mt) (rmG d bc bs)) cc nl mt.1 e s m args below meth c s₁ → c.maxLocals = nl → c.exceptionTable.toList = tableOf mt.2.2.2 → PcG G nx w as args s →
      W p G.1 e (headSpec (wsM y cc nl mt) (rmG d bc bs)).room s m args below meth c s.heap [] 0 0 (vx_MQ below (QcG G mt K) (XcG G X) args s bc bs (ownA G)) (entryFrame m args nl) := by
    intro p e s m args below meth c s₁ B hml htab hv
    obtain ⟨rfl, hKS, hwh, hsz⟩ := hv
    have hts := atoms_spec (ws := wsM y cc nl mt) B.pre
    have hown : s.vm.findClass mt.2.1 = some m.cls := by rw [← ho]; exact findClass_of_methodNamed B.named
    have hC : Cx G cc mt d p (rmG d bc bs) s m ((as.map (cv G)).toArray) meth c (as.map some ++ List.replicate (nl - as.length) none).length := by
      refine ⟨B.exec, B.bytes, B.returns, hown, fun w hw => hts w (List.mem_cons_of_mem _ hw), B.notSynchronized, fun h => ?_, ?_, Nat.le_refl _, Nat.le_refl _, hKS, hst, hsz, htab⟩
      · rw [(name_of_methodNamed B.named B.method).1]; exact hi h
      · rw [hml]; simp; omega
    have hl := lsOK_entry (G := G) ha hn
    rw [lg_entry_eq]
    refine k p e (rmG d bc bs) s m _ below meth c _ s.heap [] 0 0 _ hC (endK_of hC) ?_ hl hwh va_S.rf (by show 0 + bc ≤ bc; omega) (by show 0 + bs ≤ bs; omega)
    rcases htb with htb | htb
    · refine Or.inr ⟨_, _, bc, bs, rfl, Nat.le_refl _, Nat.le_refl _, ?_, fun k nx w t hX hw hF => ⟨k, nx, w, rfl, hX, hw, hF⟩⟩
      rw [htab, htb]
      intro x hx
      cases hx
    · exact Or.inl htb
  cases htb2 : mt.2.2.2 with
  | nil =>
    refine vx_ofW (cc := cc) (maxL := nl) (ret := mt.1) (ws' := GW) hpl (by unfold wsM codeW; rw [htb2]) ?_
    intro p e s m args below meth c s₁ B hml htab hv
    refine main p e s m args below meth c s₁ B hml ?_ hv
    rw [htb2]
    cases hx : c.exceptionTable.toList with
    | nil => rfl
    | cons x l => exact (htab x (by rw [hx]; exact List.mem_cons_self)).elim
  | cons t ts =>
    have ew : codeW y cc nl mt = Cond.codeWith y cc nl mt.1 (t :: ts) := by unfold codeW; rw [htb2]
    refine vx_ofWH (cc := cc) (maxL := nl) (ret := mt.1) (hh := t :: ts) (ws' := GW) hpl (by unfold wsM; rw [ew]) ?_
    intro p e s m args below meth c s₁ B hml hv
    refine main p e s m args below meth c s₁ B hml ?_ hv
    rw [htb2]
    exact vx_table (x := y) B (atoms_spec (ws := wsM y cc nl mt) B.pre _ (by unfold wsM; rw [ew]; exact List.mem_cons_self))
/-- behind a call: it has returned, or thrown -/
theorem run_go {p : Program} {e : Env} {R : Room} {s : State} {m : MethodId} {args : Array Value} {below : List Frame} {meth : Method} {c : Code} {Q : State → Prop} {H : Heap} {locs : List Loc} {cells slots mc ms : Nat} {la : Array Slot} {st0 rest : List Value} {a : Array Value} {mt' : Mt} {K1 : Kt} {X1 : Xt}
    (hr : vx_Run p G.1 e R s m args below meth c H locs cells slots mc ms (F0 m pc la st0) rest (QcG G mt' K1 a) (XcG G X1) (ownA G)) (hS : va_S (ownA G) s.heap H locs)
    (kk : ∀ (v : Vl) (nx' : Option Nat) (w' : Wd) (H1 : Heap) (locs1 : List Loc), K1 v nx' w' → wholds G nx' w' H1 → va_S (ownA G) s.heap H1 locs1 → W p G.1 e R s m args below meth c H1 locs1 (cells + mc) (slots + ms) Q (F0 m (pc + 3) la ((rvl G mt' v).toList ++ rest)))
    (kx : ∀ (k : Nat) (nx' : Option Nat) (w' : Wd) (H1 : Heap) (locs1 : List Loc) (ce : Cell) (q : Addr), X1 k nx' w' → wholds G nx' w' H1 → va_S (ownA G) s.heap H1 locs1 → H1[q]? = some ce → ce.vm = .none → s.vm.findClass (exn k) = some ce.cls → vx_W p G.1 e R s m args below meth c H1 locs1 (cells + mc) (slots + ms) Q (F0 m pc la rest) q) :
    W p G.1 e R s m args below meth c H locs cells slots Q (F0 m pc la st0) := by
  intro T hT Y
  rcases hr T hT Y with ⟨v, st₀, t, T', L, h0, Y', hL, e1, e2, ⟨v1, nx1, w1, hv, hK, hw, hF⟩, st⟩ | ⟨q, st₀, t, T', L, E, ce, h0, Y', hL, e1, e2, ⟨k, nx1, w1, rfl, hX, hw, hF⟩, hce, hcv, hcl, st⟩
  · cases hv
    obtain ⟨k1, k2, k3⟩ := vx_keep (A0 := ownA G) (A1 := ownA G) (free := ownA G) h0 e1 hS (fun _ _ h => h) (fun _ h => h) hL hF
    obtain ⟨t2, a1, b1⟩ := kk v1 nx1 w1 T'.heap (locs ++ L) hK (by rw [e1]; exact hw) k3 T' rfl Y'
    exact ⟨t2, st t2 a1, b1⟩
  · obtain ⟨k1, k2, k3⟩ := vx_keep (A0 := ownA G) (A1 := ownA G) (free := ownA G) h0 e1 hS (fun _ _ h => h) (fun _ h => h) hL hF
    obtain ⟨t2, a1, b1⟩ := kx k nx1 w1 T'.heap (locs ++ L) ce q hX (by rw [e1]; exact hw) k3 (by rw [e1]; exact hce) hcv hcl T' rfl Y'
    exact ⟨t2, st.trans a1, b1⟩
/-- what is thrown leaves a body without handlers -/
theorem out_go {p : Program} {e : Env} {R : Room} {s : State} {m : MethodId} {args : Array Value} {below : List Frame} {meth : Method} {c : Code} {Q : State → Prop} {la : Array Slot} {rest : List Value} {nl : Nat} (C : Cx G cc mt d p R s m args meth c nl) (EX : EndX G R s args below c Q X) {k : Nat} {nx' : Option Nat} {w' : Wd} {H1 : Heap} {locs1 : List Loc} {cells slots : Nat} {ce : Cell} {q : Addr} (hX : X k nx' w') (hw : wholds G nx' w' H1) (hS : va_S (ownA G) s.heap H1 locs1) (hce : H1[q]? = some ce) (hcv : ce.vm = .none) (hcl : s.vm.findClass (exn k) = some ce.cls) (h1 : cells ≤ R.cells) (h2 : slots ≤ R.slots) :
    vx_W p G.1 e R s m args below meth c H1 locs1 cells slots Q (F0 m pc la rest) q := by
  obtain ⟨-, -, -, -, -, cl, -⟩ := C
  rcases EX with h | ⟨Qc, XC, mc, ms, rfl, hc, hs, htab, hXC⟩
  · exact (h k nx' w' hX).elim
  · exact vx_out (fun x hx => (htab x hx).elim) cl hce hcv hcl (fun t ht _ => hXC k nx' w' t hX (by rw [ht]; exact hw) (hS.F ht)) hS.2.2 (Nat.le_trans h1 hc) (Nat.le_trans h2 hs)
theorem PcG_blind {as : List Vl} : FrameBlind (PcG G nx w as) := fun _ _ _ _ h => ⟨h.1, KS.calling _ _ _ h.2.1, h.2.2.1, h.2.2.2⟩
theorem PcG_at {p : Program} {R : Room} {s : State} {m : MethodId} {args : Array Value} {meth : Method} {c : Code} {nl : Nat} {H : Heap} {locs : List Loc} (C : Cx G cc mt d p R s m args meth c nl) (hw : wholds G nx w H) (hS : va_S (ownA G) s.heap H locs) (as : List Vl) (av : Array Value) (hav : av = (as.map (cv G)).toArray) : ∀ U : State, U.heap = H → s.WarmedH U.vm → PcG G nx w as av U := by
  obtain ⟨-, -, -, -, -, -, -, -, -, -, cK, -, csz, -⟩ := C
  intro U hU hW
  subst hU
  exact ⟨hav, KS.go cK hW hS.2.1, hw, Nat.le_trans csz hS.1⟩
/-- what a call wants of the tables and of the room -/
theorem callB_go {p : Program} {R : Room} {s : State} {m : MethodId} {args : Array Value} {meth : Method} {c : Code} {nl : Nat} (C : Cx G cc mt d p R s m args meth c nl) {y : MethodName} {cc' : ByteArray} {nl' n idx d' bc' bs' : Nat} {mt' : Mt} (mb : MB y cc' nl' mt' n) (ht : mt'.2.2.2 = []) (lk : Cond.methodLink mt.2.1 idx y ∈ GW) (hd : d' < d) : CallB R s args mt.2.1 idx y cc' nl' mt'.1 (wsM y cc' nl' mt') (rmG d' bc' bs') bc' bs' n := by
  obtain ⟨-, -, -, -, ct, -, -, -, cf, cl, -⟩ := C
  obtain ⟨hcode, hini, hmh, har, -, hnl, -⟩ := mb
  have ew : codeW y cc' nl' mt' = Cond.code y cc' nl' mt'.1 := by unfold codeW; rw [ht]
  refine ⟨rfl, rfl, by show d' + 1 ≤ _; omega, by show 8 + (nl' + 11) + 40 * d' ≤ _; omega, fun w hw a' U hW => ?_, by unfold wsM; rw [ew]; exact List.mem_cons_self, ?_, ct _ hini, hmh, fun sig h => ?_, ct _ lk⟩
  · rcases List.mem_cons.mp hw with rfl | hw
    · exact GW_bef hW hcode (ct _ hcode)
    · exact GW_bef hW hw (ct _ hw)
  · rw [← ew]; exact ct _ hcode
  · rw [h] at har
    exact (Option.some.inj har).symm
theorem Go_callV {y : MethodName} {cc' : ByteArray} {nl' n idx d' bc' bs' a ci : Nat} {mt' : Mt} {as stk : List Vl} {K1 : Kt} (dec : decode cc pc = .ok (.invokevirtual idx, 3)) (mv : MV y cc' nl' mt' n) (ht : mt'.2.2.2 = []) (lk : Cond.methodLink mt.2.1 idx y ∈ GW) (hs : SH a = (1, ci)) (hc : (vwCl[ci]?).map (·.1) = some y.cls) (hx : okx nx a) (hn : as.length = n) (hstk : stk = as.reverse ++ vr a :: st) (hsum : (st.map fun v => (cv G v).category).sum ≤ 8) (hd : d' < d) (hbc : bc' ≤ bc) (hbs : bs' ≤ bs)
    (hK : ∀ v nx' w', K1 v nx' w' → Go G cc mt nx' d (bc - bc') (bs - bs') (pc + 3) ls ((match mt'.1 with | none => [] | some _ => [v]) ++ st) w' K X)
    (E : Ev G y cc' nl' mt' nx d' bc' bs' (vr a :: as) w K1 X) : Go G cc mt nx d bc bs pc ls stk w K X := by
  intro p e R s m args below meth c Q H locs cells slots la C EK EX hl hw hS h1 h2
  subst hstk
  have hcx := C
  obtain ⟨cx, cb, -, co, ct, -, -, cml, -, -, cK, cst, -⟩ := id C
  obtain ⟨r, hr, hrc⟩ := Option.map_eq_some_iff.mp hc
  have hrun := vx_runV (s := s) (R := R) (args := args) (H := H) (locs := locs) (cells := cells) (slots := slots) (below := below) (meth := meth) (e := e) (b := rho G a) (As := as.map (cv G)) (rest := st.map (cv G)) (C := r.1) (g := F0 m pc la ((as.reverse ++ vr a :: st).map (cv G))) (Ts := GW)
    ⟨cx, cb, cml, co, ct⟩ (E cst) ⟨callB_go C mv.1 ht lk hd, ct _ mv.2.1, by rw [hrc]; exact ct _ mv.2.2⟩ ⟨PcG_blind, va_recv cK.1 hw.1 hr (wl_e G w hs (by decide) hx (cont_1 hs)), PcG_at C hw hS _ _ rfl⟩ rfl (by rw [List.length_map]; exact hn) (by show la.size = _; rw [hl.1]) (by simp; rfl) (lv_room (by rw [List.map_map]; exact hsum)) dec ⟨by omega, by omega⟩
  refine run_go hrun hS (fun v nx' w' H1 locs1 k1 k2 k3 => ?_) (fun k nx' w' H1 locs1 ce q k1 k2 k3 g1 g2 g3 => out_go C EX k1 k2 k3 g1 g2 g3 (by omega) (by omega))
  have k4 := hK v nx' w' k1 p e R s m args below meth c Q H1 locs1 (cells + bc') (slots + bs') la C EK EX hl k2 k3 (by omega) (by omega)
  unfold rvl
  revert k4
  cases mt'.1 with
  | none => intro k4; exact k4
  | some ty => intro k4; exact k4
theorem Go_callS {y : MethodName} {cc' : ByteArray} {nl' n idx d' bc' bs' : Nat} {mt' : Mt} {as stk : List Vl} {K1 : Kt} (dec : decode cc pc = .ok (.invokestatic idx, 3)) (mv : MS y cc' nl' mt' n) (ht : mt'.2.2.2 = []) (lk : Cond.methodLink mt.2.1 idx y ∈ GW) (hn : as.length = n) (hstk : stk = as.reverse ++ st) (hsum : (st.map fun v => (cv G v).category).sum ≤ 8) (hd : d' < d) (hbc : bc' ≤ bc) (hbs : bs' ≤ bs)
    (hK : ∀ v nx' w', K1 v nx' w' → Go G cc mt nx' d (bc - bc') (bs - bs') (pc + 3) ls ((match mt'.1 with | none => [] | some _ => [v]) ++ st) w' K X)
    (E : Ev G y cc' nl' mt' nx d' bc' bs' as w K1 X) : Go G cc mt nx d bc bs pc ls stk w K X := by
  intro p e R s m args below meth c Q H locs cells slots la C EK EX hl hw hS h1 h2
  subst hstk
  obtain ⟨cx, cb, -, co, ct, -, -, cml, -, -, cK, cst, -⟩ := id C
  have hrun := vx_runS (s := s) (R := R) (args := args) (H := H) (locs := locs) (cells := cells) (slots := slots) (below := below) (meth := meth) (e := e) (As := as.map (cv G)) (rest := st.map (cv G)) (g := F0 m pc la ((as.reverse ++ st).map (cv G))) (Ts := GW)
    ⟨cx, cb, cml, co, ct⟩ (E cst) ⟨callB_go C mv.1 ht lk hd, ct _ mv.2⟩ ⟨PcG_blind, PcG_at C hw hS _ _ rfl⟩ rfl (by rw [List.length_map]; exact hn) (by show la.size = _; rw [hl.1]) (by simp) (lv_room (by rw [List.map_map]; exact hsum)) dec ⟨by omega, by omega⟩
  refine run_go hrun hS (fun v nx' w' H1 locs1 k1 k2 k3 => ?_) (fun k nx' w' H1 locs1 ce q k1 k2 k3 g1 g2 g3 => out_go C EX k1 k2 k3 g1 g2 g3 (by omega) (by omega))
  have k4 := hK v nx' w' k1 p e R s m args below meth c Q H1 locs1 (cells + bc') (slots + bs') la C EK EX hl k2 k3 (by omega) (by omega)
  unfold rvl
  revert k4
  cases mt'.1 with
  | none => intro k4; exact k4
  | some ty => intro k4; exact k4
/-- a static method with handlers, that throws nothing -/
theorem Go_callSW {y : MethodName} {cc' : ByteArray} {nl' n idx d' bc' bs' : Nat} {mt' : Mt} {as stk : List Vl} {K1 : Kt} {t : Nat × Nat × Nat × Nat} {ts : List (Nat × Nat × Nat × Nat)} (dec : decode cc pc = .ok (.invokestatic idx, 3)) (mv : MS y cc' nl' mt' n) (ht : mt'.2.2.2 = t :: ts) (lk : Cond.methodLink mt.2.1 idx y ∈ GW) (hn : as.length = n) (hstk : stk = as.reverse ++ st) (hsum : (st.map fun v => (cv G v).category).sum ≤ 8) (hd : d' < d) (hbc : bc' ≤ bc) (hbs : bs' ≤ bs)
    (hK : ∀ v nx' w', K1 v nx' w' → Go G cc mt nx' d (bc - bc') (bs - bs') (pc + 3) ls ((match mt'.1 with | none => [] | some _ => [v]) ++ st) w' K X)
    (E : Ev G y cc' nl' mt' nx d' bc' bs' as w K1 (fun _ _ _ => False)) : Go G cc mt nx d bc bs pc ls stk w K X := by
  intro p e R s m args below meth c Q H locs cells slots la C EK EX hl hw hS h1 h2
  subst hstk
  obtain ⟨cx, cb, -, co, ct, -, -, cml, cf, cl, cK, cst, -⟩ := id C
  obtain ⟨hcode, hini, hmh, har, -, hnl, -⟩ := mv.1
  have ew : codeW y cc' nl' mt' = Cond.codeWith y cc' nl' mt'.1 (t :: ts) := by unfold codeW; rw [ht]
  have hcw : vx_CSW R s args mt.2.1 idx y cc' nl' mt'.1 (t :: ts) (wsM y cc' nl' mt') (rmG d' bc' bs') bc' bs' n := by
    refine ⟨⟨rfl, rfl, by show d' + 1 ≤ _; omega, by show 8 + (nl' + 11) + 40 * d' ≤ _; omega, fun w hw a' U hW => ?_, by unfold wsM; rw [ew]; exact List.mem_cons_self⟩, ?_, ct _ hini, hmh, fun sig h => ?_, ct _ lk, ct _ mv.2⟩
    · rcases List.mem_cons.mp hw with rfl | hw
      · exact GW_bef hW hcode (ct _ hcode)
      · exact GW_bef hW hw (ct _ hw)
    · rw [← ew]; exact ct _ hcode
    · rw [h] at har
      exact (Option.some.inj har).symm
  have hrun := vx_runSX (s := s) (R := R) (args := args) (H := H) (locs := locs) (cells := cells) (slots := slots) (below := below) (meth := meth) (e := e) (As := as.map (cv G)) (rest := st.map (cv G)) (g := F0 m pc la ((as.reverse ++ st).map (cv G))) (Ts := GW)
    ⟨cx, cb, cml, co, ct⟩ (E cst) hcw ⟨PcG_blind, PcG_at C hw hS _ _ rfl⟩ rfl (by rw [List.length_map]; exact hn) (by show la.size = _; rw [hl.1]) (by simp) (lv_room (by rw [List.map_map]; exact hsum)) dec ⟨by omega, by omega⟩
  refine run_go hrun hS (fun v nx' w' H1 locs1 k1 k2 k3 => ?_) (fun k nx' w' H1 locs1 ce q k1 k2 k3 g1 g2 g3 => k1.elim)
  have k4 := hK v nx' w' k1 p e R s m args below meth c Q H1 locs1 (cells + bc') (slots + bs') la C EK EX hl k2 k3 (by omega) (by omega)
  unfold rvl
  revert k4
  cases mt'.1 with
  | none => intro k4; exact k4
  | some ty => intro k4; exact k4
section Ends
theorem Go_ireturn {z : Int} {ty : FieldType} (dec : decode cc pc = .ok (.ireturn, 1)) (hr : mt.1 = some ty) (hn : narrow ty (.int (Int32.ofInt z)) = .int (Int32.ofInt z)) (k : K (vi z) nx w) : Go G cc mt nx d bc bs pc ls [vi z] w K X := by
  intro p e R s m args below meth c Q H locs cells slots la C EK EX hl hw hS h1 h2
  exact EK (vi z) nx w H locs cells slots la pc _ k hw hS (by omega) (by omega) (Or.inr (Or.inl ⟨z, ty, rfl, hr, hn, dec, rfl⟩))
theorem Go_return (dec : decode cc pc = .ok (.return_, 1)) (hr : mt.1 = none) (k : K (vi 0) nx w) : Go G cc mt nx d bc bs pc ls [] w K X := by
  intro p e R s m args below meth c Q H locs cells slots la C EK EX hl hw hS h1 h2
  exact EK (vi 0) nx w H locs cells slots la pc _ k hw hS (by omega) (by omega) (Or.inl ⟨hr, dec, rfl, rfl⟩)
theorem Go_areturn {a : Nat} {n : String} (dec : decode cc pc = .ok (.areturn, 1)) (hr : mt.1 = some (.object n)) (k : K (vr a) nx w) : Go G cc mt nx d bc bs pc ls [vr a] w K X := by
  intro p e R s m args below meth c Q H locs cells slots la C EK EX hl hw hS h1 h2
  exact EK (vr a) nx w H locs cells slots la pc _ k hw hS (by omega) (by omega) (Or.inr (Or.inr (Or.inl ⟨a, rfl, ⟨n, hr⟩, dec, rfl⟩)))
theorem Go_dreturn {x : UInt64} (dec : decode cc pc = .ok (.dreturn, 1)) (hr : mt.1 = some .double) (k : K (vd x) nx w) : Go G cc mt nx d bc bs pc ls [vd x] w K X := by
  intro p e R s m args below meth c Q H locs cells slots la C EK EX hl hw hS h1 h2
  exact EK (vd x) nx w H locs cells slots la pc _ k hw hS (by omega) (by omega) (Or.inr (Or.inr (Or.inr (Or.inl ⟨x, rfl, hr, dec, rfl⟩))))
theorem Go_freturn {x : UInt32} (dec : decode cc pc = .ok (.freturn, 1)) (hr : mt.1 = some .float) (k : K (vf x) nx w) : Go G cc mt nx d bc bs pc ls [vf x] w K X := by
  intro p e R s m args below meth c Q H locs cells slots la C EK EX hl hw hS h1 h2
  exact EK (vf x) nx w H locs cells slots la pc _ k hw hS (by omega) (by omega) (Or.inr (Or.inr (Or.inr (Or.inr (Or.inl ⟨x, rfl, hr, dec, rfl⟩)))))
theorem Go_lreturn {z : Int} (dec : decode cc pc = .ok (.lreturn, 1)) (hr : mt.1 = some .long) (k : K (vl z) nx w) : Go G cc mt nx d bc bs pc ls [vl z] w K X := by
  intro p e R s m args below meth c Q H locs cells slots la C EK EX hl hw hS h1 h2
  exact EK (vl z) nx w H locs cells slots la pc _ k hw hS (by omega) (by omega) (Or.inr (Or.inr (Or.inr (Or.inr (Or.inr ⟨z, rfl, hr, dec, rfl⟩)))))
end Ends
end GoCall
