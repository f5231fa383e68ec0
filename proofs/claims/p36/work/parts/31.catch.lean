/-- locals of which one holds what is caught -/
theorem lsOK_drop {G : Gm} {la : Array Slot} {ls : List (Option Vl)} {i : Nat} {v : Value} (h : lsOK G la ls) (hi : i < ls.length) (hp : ∀ j : Nat, j + 1 = i → c1 (ls.getD j none) = true) :
    ∀ la' : Array Slot, lv_has la' ls.length ((i, v) :: ((List.range ls.length).filterMap fun i => (ls.getD i none).map fun v => (i, cv G v)).filter (fun q => !(q.1 == i) && !(q.1 + 1 == i && q.2.category == 2))) → lsOK G la' (ls.set i none) := by
  intro la' hl
  refine ⟨by rw [List.length_set]; exact hl.1, hl.2.1, fun j x hj => ?_⟩
  by_cases hji : j = i
  · subst hji
    rw [List.getElem?_set_self hi] at hj
    cases hj
  · rw [List.getElem?_set_ne (Ne.symm hji)] at hj
    have hjl : j < ls.length := (List.getElem?_eq_some_iff.mp hj).1
    refine hl.2.2 (j, cv G x) (List.mem_cons_of_mem _ (List.mem_filter.mpr ⟨List.mem_filterMap.mpr ⟨j, List.mem_range.mpr hjl, ?_⟩, ?_⟩))
    · rw [List.getD_eq_getElem?_getD, hj]
      rfl
    · simp only [Bool.and_eq_true, Bool.not_eq_true', beq_eq_false_iff_ne, ne_eq, Bool.and_eq_false_iff]
      refine ⟨hji, ?_⟩
      by_cases h1 : j + 1 = i
      · right
        have := hp j h1
        rw [List.getD_eq_getElem?_getD, hj] at this
        rw [cv_cat1 this]
        decide
      · exact Or.inl h1
/-- the kinds of exceptions, as the law's class numbers them -/
def cix (k : Nat) : Nat := match k with
  | 1 => 16
  | 2 => 18
  | _ => 23
theorem cix_link {k : Nat} (hk : kEq k) : Cond.classLink RL (cix k) (exn k) ∈ GW := by
  have c : k = 1 ∨ k = 2 ∨ k = 3 := by have := hk.1; have := hk.2; omega
  rcases c with rfl | rfl | rfl
  · exact clL_16
  · exact clL_18
  · exact clL_23
/-- the handler of a kind is the first that catches it -/
def hOK : List (Nat × Nat × Nat × Nat) → Nat → Nat → Nat → Bool
  | [], _, _, _ => false
  | z :: r, pc, k, hp => decide (z.1 ≤ pc ∧ pc < z.2.1) && (if z.2.2.2 = cix k then decide (z.2.2.1 = hp) else decide (z.2.2.2 = 16 ∨ z.2.2.2 = 18 ∨ z.2.2.2 = 23) && hOK r pc k hp)
theorem hOK_spec : ∀ (tab : List (Nat × Nat × Nat × Nat)) (pc k hp : Nat), hOK tab pc k hp = true → ∃ (pre : List (Nat × Nat × Nat × Nat)) (x : Nat × Nat × Nat × Nat) (suf : List (Nat × Nat × Nat × Nat)), tab = pre ++ x :: suf ∧ (∀ z ∈ pre, z.2.2.2 ≠ 0 ∧ ∃ kk : Nat, kk ≠ k ∧ kEq kk ∧ z.2.2.2 = cix kk) ∧ (x.1 ≤ pc ∧ pc < x.2.1) ∧ x.2.2.2 = cix k ∧ x.2.2.1 = hp
  | [], _, _, _, h => by cases h
  | z :: r, pc, k, hp, h => by
    unfold hOK at h
    rw [Bool.and_eq_true, decide_eq_true_eq] at h
    obtain ⟨h1, h2⟩ := h
    by_cases c : z.2.2.2 = cix k
    · rw [if_pos c, decide_eq_true_eq] at h2
      exact ⟨[], z, r, rfl, fun z hz => (by simp at hz), h1, c, h2⟩
    · rw [if_neg c, Bool.and_eq_true, decide_eq_true_eq] at h2
      obtain ⟨pre, x, suf, e, a1, a2, a3, a4⟩ := hOK_spec r pc k hp h2.2
      refine ⟨z :: pre, x, suf, by rw [e]; rfl, fun y hy => ?_, a2, a3, a4⟩
      rcases List.mem_cons.mp hy with rfl | hy
      · have ne : ∀ kk, y.2.2.2 = cix kk → kk ≠ k := fun kk e1 e2 => by rw [e2] at e1; exact c e1
        rcases h2.1 with q | q | q
        · exact ⟨by omega, 1, ne 1 q, ⟨by decide, by decide⟩, q⟩
        · exact ⟨by omega, 2, ne 2 q, ⟨by decide, by decide⟩, q⟩
        · exact ⟨by omega, 3, ne 3 q, ⟨by decide, by decide⟩, q⟩
      · exact a1 y hy
section Catch
variable {G : Gm} {cc : ByteArray} {mt : Mt} {nx : Option Nat} {d bc bs pc : Nat} {ls : List (Option Vl)} {st : List Vl} {w : Wd} {K : Kt} {X : Xt}
/-- a call of a method that may throw, in a method of the law: caught, it goes on at the handler, behind its first instruction, which stores what was caught -/
theorem Go_callVX {y : MethodName} {cc' : ByteArray} {nl' n idx d' bc' bs' a ci i ix : Nat} {mt' : Mt} {as stk : List Vl} {ty : FieldType} {hdl : Nat → Option Nat} (hr : mt'.1 = some ty) (dec : decode cc pc = .ok (.invokevirtual idx, 3)) (mv : MV y cc' nl' mt' n) (ht : mt'.2.2.2 = []) (lk : Cond.methodLink mt.2.1 idx y ∈ GW) (ho : mt.2.1 = RL) (hs : SH a = (1, ci)) (hc : (vwCl[ci]?).map (·.1) = some y.cls) (hx : okx nx a) (hn : as.length = n) (hstk : stk = as.reverse ++ vr a :: st) (hsum : (st.map fun v => (cv G v).category).sum ≤ 8) (hd : d' < d) (hbc : bc' ≤ bc) (hbs : bs' ≤ bs)
    (hi : i < ls.length) (hp : ∀ j : Nat, j + 1 = i → c1 (ls.getD j none) = true)
    (hH : ∀ k q, hdl k = some q → kEq k ∧ hOK mt.2.2.2 pc k q = true ∧ (decode cc q = .ok (.astore i, 2) ∧ ix = 2 ∨ ∃ j : Fin 4, (j : Nat) = i ∧ decode cc q = .ok (.astore_n j, 1) ∧ ix = 1))
    (E : Ev G y cc' nl' mt' nx d' bc' bs' (vr a :: as) w (fun v nx' w' => Go G cc mt nx' d (bc - bc') (bs - bs') (pc + 3) ls (v :: st) w' K X) (fun k nx' w' => ∃ q, hdl k = some q ∧ Go G cc mt nx' d (bc - bc') (bs - bs') (q + ix) (ls.set i none) [] w' K X)) : Go G cc mt nx d bc bs pc ls stk w K X := by
  intro p e R s m args below meth c Q H locs cells slots la C EK EX hl hw hS h1 h2
  subst hstk
  obtain ⟨cx, cb, -, co, ct, -, -, cml, -, -, cK, cst, -, ctab⟩ := id C
  obtain ⟨r, hr2, hrc⟩ := Option.map_eq_some_iff.mp hc
  have hrun := vx_runV (s := s) (R := R) (args := args) (H := H) (locs := locs) (cells := cells) (slots := slots) (below := below) (meth := meth) (e := e) (b := rho G a) (As := as.map (cv G)) (rest := st.map (cv G)) (C := r.1) (g := F0 m pc la ((as.reverse ++ vr a :: st).map (cv G))) (Ts := GW)
    ⟨cx, cb, cml, co, ct⟩ (E cst) ⟨callB_go C mv.1 ht lk hd, ct _ mv.2.1, by rw [hrc]; exact ct _ mv.2.2⟩ ⟨PcG_blind, va_recv cK.1 hw.1 hr2 (wl_e G w hs (by decide) hx (cont_1 hs)), PcG_at C hw hS _ _ rfl⟩ rfl (by rw [List.length_map]; exact hn) (by show la.size = _; rw [hl.1]) (by simp; rfl) (lv_room (by rw [List.map_map]; exact hsum)) dec ⟨by omega, by omega⟩
  refine run_go hrun hS (fun v nx' w' H1 locs1 k1 k2 k3 => ?_) (fun k nx' w' H1 locs1 ce q k1 k2 k3 g1 g2 g3 => ?_)
  · have k4 := k1 p e R s m args below meth c Q H1 locs1 (cells + bc') (slots + bs') la C EK EX hl k2 k3 (by omega) (by omega)
    unfold rvl
    rw [hr]
    exact k4
  · obtain ⟨hq, e1, k4⟩ := k1
    obtain ⟨hk, ok, hdec⟩ := hH k hq e1
    obtain ⟨pre, x, suf, es, a1, a2, a3, a4⟩ := hOK_spec _ _ _ _ ok
    have co2 := co
    rw [ho] at co2
    refine vx_catch (name := exn k) co2 (pre.map fun q => ⟨q.1, q.2.1, q.2.2.1, q.2.2.2⟩) ⟨x.1, x.2.1, x.2.2.1, x.2.2.2⟩ (suf.map fun q => ⟨q.1, q.2.1, q.2.2.1, q.2.2.2⟩) (by rw [ctab, es]; unfold tableOf; rw [List.map_append, List.map_cons]) (fun z hz => ?_) ?_ (by show x.2.2.2 ≠ 0; rw [a3]; unfold cix; split <;> decide) (by show (Cond.classLink RL x.2.2.2 (exn k)).before args s = true; rw [a3]; exact ct _ (cix_link hk)) (va_Nw.use rfl (cK.2.2.2.2.2.2.2.2.2.2.1.1 k hk)) g1 g2 g3 ?_
    · obtain ⟨z0, hz0, rfl⟩ := List.mem_map.mp hz
      obtain ⟨b1, kk, b2, b3, b4⟩ := a1 z0 hz0
      refine Or.inr ⟨b1, exn kk, ?_, cK.2.2.2.2.2.2.2.2.2.2.2 k kk hk b3 (fun q => b2 q.symm)⟩
      show (Cond.classLink RL z0.2.2.2 (exn kk)).before args s = true
      rw [b4]
      exact ct _ (cix_link b3)
    · show (decide (x.1 ≤ pc) && decide (pc < x.2.1)) = true
      rw [Bool.and_eq_true, decide_eq_true_eq, decide_eq_true_eq]
      exact a2
    · show W p G.1 e R s m args below meth c H1 locs1 (cells + bc') (slots + bs') Q (F0 m x.2.2.1 la [.ref q])
      rw [a4]
      rcases hdec with ⟨hd1, rfl⟩ | ⟨j, hj, hd1, rfl⟩
      · refine lv_astore cx cb hd1 (lsOK_list hl) hi rfl (fun la' hla => ?_)
        exact k4 p e R s m args below meth c Q H1 locs1 (cells + bc') (slots + bs') la' (by rw [List.length_set]; exact C) EK EX (lsOK_drop hl hi hp la' hla) k2 k3 (by omega) (by omega)
      · refine lv_astore_n cx cb hd1 hj (lsOK_list hl) hi rfl (fun la' hla => ?_)
        exact k4 p e R s m args below meth c Q H1 locs1 (cells + bc') (slots + bs') la' (by rw [List.length_set]; exact C) EK EX (lsOK_drop hl hi hp la' hla) k2 k3 (by omega) (by omega)
theorem Go_hend {z : Int} (hr : mt.1 = some .int) (d1 : decode cc pc = .ok (.iconst z, 1)) (d2 : decode cc (pc + 1) = .ok (.ireturn, 1)) (k : K (vi z) nx w) : Go G cc mt nx d bc bs pc ls [] w K X :=
  Go_iconst d1 (Go_ireturn d2 hr rfl k)
theorem Go_hendB {z : Int} (hr : mt.1 = some .int) (d1 : decode cc pc = .ok (.bipush z, 2)) (d2 : decode cc (pc + 2) = .ok (.ireturn, 1)) (k : K (vi z) nx w) (hn : (Int8.ofInt z).toInt32 = Int32.ofInt z := by decide +kernel) : Go G cc mt nx d bc bs pc ls [] w K X :=
  Go_bipush d1 hn (Go_ireturn d2 hr rfl k)
/-- more room -/
theorem Go_more {bc' bs' : Nat} (h1 : bc' ≤ bc) (h2 : bs' ≤ bs) (k : Go G cc mt nx d bc' bs' pc ls st w K X) : Go G cc mt nx d bc bs pc ls st w K X := by
  intro p e R s m args below meth c Q H locs cells slots la C EK EX hl hw hS a1 a2
  exact k p e R s m args below meth c Q H locs cells slots la C EK EX hl hw hS (by omega) (by omega)
/-- the script's ints -/
def sx (G : Gm) (j : Nat) : Int := (Gx G j).toInt
theorem sx_in (G : Gm) (j : Nat) : inR (sx G j) := ⟨Int32.le_toInt _, Int32.toInt_lt _⟩
theorem Go_xld {z : Int} {j : Nat} (dec : decode cc pc = .ok (.iaload, 1)) (hz : z = (j : Int)) (hj : j < GL G) (hL : GL G < 2147483648) (k : Go G cc mt nx d bc bs (pc + 1) ls (vi (sx G j) :: st) w K X) : Go G cc mt nx d bc bs pc ls (vi z :: vr 1000 :: st) w K X := by
  intro p e R s m args below meth c Q H locs cells slots la C EK EX hl hw hS h1 h2
  subst hz
  obtain ⟨cx, cb, -, -, -, -, -, -, -, -, cK, -⟩ := id C
  obtain ⟨hX, hXA⟩ := cK.2.2.2.2.2.2.2.1
  obtain ⟨i1, i2⟩ := iI_in (z := (j : Int)) (n := GL G) (by omega) (by omega) hL
  have hb : Gs G 1000 < s.heap.size := by obtain ⟨scr, e1, -⟩ := id hX; exact (Array.getElem?_eq_some_iff.mp e1).1
  refine va_sld cx cb hX hb hXA hS i1 dec ?_
  have kk := k p e R s m args below meth c Q H locs cells slots la C EK EX hl hw hS h1 h2
  have e2 : Value.int (Gx G (Int32.ofInt (j : Int)).toNatClampNeg) = cv G (vi (sx G j)) := by
    rw [i2, Int.toNat_natCast]
    show _ = Value.int (Int32.ofInt (Gx G j).toInt)
    rw [Int32.ofInt_toInt]
  rw [e2]
  exact kk
theorem Go_xlen (dec : decode cc pc = .ok (.arraylength, 1)) (k : Go G cc mt nx d bc bs (pc + 1) ls (vi (GL G : Int) :: st) w K X) : Go G cc mt nx d bc bs pc ls (vr 1000 :: st) w K X := by
  intro p e R s m args below meth c Q H locs cells slots la C EK EX hl hw hS h1 h2
  obtain ⟨cx, cb, -, -, -, -, -, -, -, -, cK, -⟩ := id C
  obtain ⟨hX, hXA⟩ := cK.2.2.2.2.2.2.2.1
  have hb : Gs G 1000 < s.heap.size := by obtain ⟨scr, e1, -⟩ := id hX; exact (Array.getElem?_eq_some_iff.mp e1).1
  exact va_slen cx cb hX hb hXA hS dec (k p e R s m args below meth c Q H locs cells slots la C EK EX hl hw hS h1 h2)
end Catch
abbrev mL_law (tb : List (Nat × Nat × Nat × Nat)) : Mt := (some .boolean, RL, false, tb)
/-- an int as it is kept -/
def nz (z : Int) : Int := (Int32.ofInt z).toInt
theorem nz_in (z : Int) : inR (nz z) := ⟨Int32.le_toInt _, Int32.toInt_lt _⟩
section Same
variable {G : Gm} {cc : ByteArray} {mt : Mt} {nx : Option Nat} {d bc bs pc : Nat} {ls : List (Option Vl)} {st : List Vl} {w : Wd} {K : Kt} {X : Xt}
theorem Go_i2lN {a : Int} (dec : decode cc pc = .ok (.i2l, 1)) (k : Go G cc mt nx d bc bs (pc + 1) ls (vl (nz a) :: st) w K X) : Go G cc mt nx d bc bs pc ls (vi a :: st) w K X := by
  intro p e R s m args below meth c Q H locs cells slots la C EK EX hl hw hS h1 h2
  refine lv_i2l C.1 C.2.1 dec ?_ (k p e R s m args below meth c Q H locs cells slots la C EK EX hl hw hS h1 h2)
  have e1 := i2l_eq (nz_in a)
  rw [← e1]
  unfold nz
  rw [Int32.ofInt_toInt]
theorem Go_lcmp_same {a : Int} (dec : decode cc pc = .ok (.lcmp, 1)) (k : Go G cc mt nx d bc bs (pc + 1) ls (vi 0 :: st) w K X) : Go G cc mt nx d bc bs pc ls (vl a :: vl a :: st) w K X := by
  intro p e R s m args below meth c Q H locs cells slots la C EK EX hl hw hS h1 h2
  have kk := k p e R s m args below meth c Q H locs cells slots la C EK EX hl hw hS h1 h2
  refine W.lcmp C.1 C.2.1 dec ?_
  have e1 : lg_cmp (Int64.ofInt a) (Int64.ofInt a) = Int32.ofInt 0 := by
    unfold lg_cmp
    rw [if_neg (fun z => absurd z (Int64.lt_irrefl)), if_pos rfl]
    rfl
  rw [e1]
  exact kk
theorem Go_icmp_same {a : Int} {off : Int} {tgt : Nat} (dec : decode cc pc = .ok (.if_icmp .eq off, 3)) (ht : (pc : Int) + off = (tgt : Int)) (kt : Go G cc mt nx d bc bs tgt ls st w K X) : Go G cc mt nx d bc bs pc ls (vi a :: vi a :: st) w K X := by
  intro p e R s m args below meth c Q H locs cells slots la C EK EX hl hw hS h1 h2
  exact lv_icmp_eq C.1 C.2.1 dec ht (fun _ => kt p e R s m args below meth c Q H locs cells slots la C EK EX hl hw hS h1 h2) (fun h => absurd rfl h)
theorem Go_dcmp_same {x : UInt64} {op : CmpOp} (dec : decode cc pc = .ok (.dcmp op, 1)) (hx : FP.Core.dIsNaN x = false) (k : Go G cc mt nx d bc bs (pc + 1) ls (vi 0 :: st) w K X) : Go G cc mt nx d bc bs pc ls (vd x :: vd x :: st) w K X := by
  intro p e R s m args below meth c Q H locs cells slots la C EK EX hl hw hS h1 h2
  have kk := k p e R s m args below meth c Q H locs cells slots la C EK EX hl hw hS h1 h2
  refine lv_dcmp C.1 C.2.1 dec ?_
  have e1 : Op.cmpValue (FP.dcmp x x) op = Int32.ofInt 0 := by
    have e2 : FP.dcmp x x = some .eq := FP.Core.dcmp_refl hx
    rw [e2]
    cases op <;> rfl
  rw [e1]
  exact kk
theorem Go_cSW {y : MethodName} {cc' : ByteArray} {nl' n idx d' bc' bs' : Nat} {mt' : Mt} {as stk : List Vl} {t : Nat × Nat × Nat × Nat} {ts : List (Nat × Nat × Nat × Nat)} {ty : FieldType} (hr : mt'.1 = some ty) (dec : decode cc pc = .ok (.invokestatic idx, 3)) (mv : MS y cc' nl' mt' n) (ht : mt'.2.2.2 = t :: ts) (lk : Cond.methodLink mt.2.1 idx y ∈ GW) (hn : as.length = n) (hstk : stk = as.reverse ++ st) (hsum : (st.map fun v => (cv G v).category).sum ≤ 8) (hd : d' < d) (hbc : bc' ≤ bc) (hbs : bs' ≤ bs)
    (E : Ev G y cc' nl' mt' nx d' bc' bs' as w (fun v nx' w' => Go G cc mt nx' d (bc - bc') (bs - bs') (pc + 3) ls (v :: st) w' K X) (fun _ _ _ => False)) : Go G cc mt nx d bc bs pc ls stk w K X :=
  Go_callSW dec mv ht lk hn hstk hsum hd hbc hbs (fun v nx' w' h => by rw [hr]; exact h) E
theorem Go_fcmp_same {x : UInt32} {op : CmpOp} (dec : decode cc pc = .ok (.fcmp op, 1)) (hx : FP.Core.fIsNaN x = false) (k : Go G cc mt nx d bc bs (pc + 1) ls (vi 0 :: st) w K X) : Go G cc mt nx d bc bs pc ls (vf x :: vf x :: st) w K X := by
  intro p e R s m args below meth c Q H locs cells slots la C EK EX hl hw hS h1 h2
  have kk := k p e R s m args below meth c Q H locs cells slots la C EK EX hl hw hS h1 h2
  refine lv_fcmp C.1 C.2.1 dec ?_
  have e1 : Op.cmpValue (FP.fcmp x x) op = Int32.ofInt 0 := by
    have e2 : FP.fcmp x x = some .eq := FP.Core.fcmp_refl hx
    rw [e2]
    cases op <;> rfl
  rw [e1]
  exact kk
theorem Go_cSW1 {y : MethodName} {cc' : ByteArray} {nl' idx d' bc' bs' : Nat} {mt' : Mt} {x0 : Vl} {t : Nat × Nat × Nat × Nat} {ts : List (Nat × Nat × Nat × Nat)} {ty : FieldType} (hr : mt'.1 = some ty) (dec : decode cc pc = .ok (.invokestatic idx, 3)) (mv : MS y cc' nl' mt' 1) (ht : mt'.2.2.2 = t :: ts) (lk : Cond.methodLink mt.2.1 idx y ∈ GW) (hd : d' < d) (hbc : bc' ≤ bc) (hbs : bs' ≤ bs) (hsum : (st.map fun v => (cv G v).category).sum ≤ 8) (E : Ev G y cc' nl' mt' nx d' bc' bs' [x0] w (fun v nx' w' => Go G cc mt nx' d (bc - bc') (bs - bs') (pc + 3) ls (v :: st) w' K X) (fun _ _ _ => False)) : Go G cc mt nx d bc bs pc ls (x0 :: st) w K X :=
  Go_cSW (as := [x0]) hr dec mv ht lk rfl rfl hsum hd hbc hbs E
theorem Go_cSW2 {y : MethodName} {cc' : ByteArray} {nl' idx d' bc' bs' : Nat} {mt' : Mt} {x0 x1 : Vl} {t : Nat × Nat × Nat × Nat} {ts : List (Nat × Nat × Nat × Nat)} {ty : FieldType} (hr : mt'.1 = some ty) (dec : decode cc pc = .ok (.invokestatic idx, 3)) (mv : MS y cc' nl' mt' 2) (ht : mt'.2.2.2 = t :: ts) (lk : Cond.methodLink mt.2.1 idx y ∈ GW) (hd : d' < d) (hbc : bc' ≤ bc) (hbs : bs' ≤ bs) (hsum : (st.map fun v => (cv G v).category).sum ≤ 8) (E : Ev G y cc' nl' mt' nx d' bc' bs' [x0, x1] w (fun v nx' w' => Go G cc mt nx' d (bc - bc') (bs - bs') (pc + 3) ls (v :: st) w' K X) (fun _ _ _ => False)) : Go G cc mt nx d bc bs pc ls (x1 :: x0 :: st) w K X :=
  Go_cSW (as := [x0, x1]) hr dec mv ht lk rfl rfl hsum hd hbc hbs E
theorem Go_cSW3 {y : MethodName} {cc' : ByteArray} {nl' idx d' bc' bs' : Nat} {mt' : Mt} {x0 x1 x2 : Vl} {t : Nat × Nat × Nat × Nat} {ts : List (Nat × Nat × Nat × Nat)} {ty : FieldType} (hr : mt'.1 = some ty) (dec : decode cc pc = .ok (.invokestatic idx, 3)) (mv : MS y cc' nl' mt' 3) (ht : mt'.2.2.2 = t :: ts) (lk : Cond.methodLink mt.2.1 idx y ∈ GW) (hd : d' < d) (hbc : bc' ≤ bc) (hbs : bs' ≤ bs) (hsum : (st.map fun v => (cv G v).category).sum ≤ 8) (E : Ev G y cc' nl' mt' nx d' bc' bs' [x0, x1, x2] w (fun v nx' w' => Go G cc mt nx' d (bc - bc') (bs - bs') (pc + 3) ls (v :: st) w' K X) (fun _ _ _ => False)) : Go G cc mt nx d bc bs pc ls (x2 :: x1 :: x0 :: st) w K X :=
  Go_cSW (as := [x0, x1, x2]) hr dec mv ht lk rfl rfl hsum hd hbc hbs E
theorem Go_cSW4 {y : MethodName} {cc' : ByteArray} {nl' idx d' bc' bs' : Nat} {mt' : Mt} {x0 x1 x2 x3 : Vl} {t : Nat × Nat × Nat × Nat} {ts : List (Nat × Nat × Nat × Nat)} {ty : FieldType} (hr : mt'.1 = some ty) (dec : decode cc pc = .ok (.invokestatic idx, 3)) (mv : MS y cc' nl' mt' 4) (ht : mt'.2.2.2 = t :: ts) (lk : Cond.methodLink mt.2.1 idx y ∈ GW) (hd : d' < d) (hbc : bc' ≤ bc) (hbs : bs' ≤ bs) (hsum : (st.map fun v => (cv G v).category).sum ≤ 8) (E : Ev G y cc' nl' mt' nx d' bc' bs' [x0, x1, x2, x3] w (fun v nx' w' => Go G cc mt nx' d (bc - bc') (bs - bs') (pc + 3) ls (v :: st) w' K X) (fun _ _ _ => False)) : Go G cc mt nx d bc bs pc ls (x3 :: x2 :: x1 :: x0 :: st) w K X :=
  Go_cSW (as := [x0, x1, x2, x3]) hr dec mv ht lk rfl rfl hsum hd hbc hbs E
theorem Go_cSW5 {y : MethodName} {cc' : ByteArray} {nl' idx d' bc' bs' : Nat} {mt' : Mt} {x0 x1 x2 x3 x4 : Vl} {t : Nat × Nat × Nat × Nat} {ts : List (Nat × Nat × Nat × Nat)} {ty : FieldType} (hr : mt'.1 = some ty) (dec : decode cc pc = .ok (.invokestatic idx, 3)) (mv : MS y cc' nl' mt' 5) (ht : mt'.2.2.2 = t :: ts) (lk : Cond.methodLink mt.2.1 idx y ∈ GW) (hd : d' < d) (hbc : bc' ≤ bc) (hbs : bs' ≤ bs) (hsum : (st.map fun v => (cv G v).category).sum ≤ 8) (E : Ev G y cc' nl' mt' nx d' bc' bs' [x0, x1, x2, x3, x4] w (fun v nx' w' => Go G cc mt nx' d (bc - bc') (bs - bs') (pc + 3) ls (v :: st) w' K X) (fun _ _ _ => False)) : Go G cc mt nx d bc bs pc ls (x4 :: x3 :: x2 :: x1 :: x0 :: st) w K X :=
  Go_cSW (as := [x0, x1, x2, x3, x4]) hr dec mv ht lk rfl rfl hsum hd hbc hbs E
end Same
theorem shr_nn (n : Nat) : FP.Core.dIsNaN (FP.f2d (shrF n)) = false := by
  have z : ¬ FP.Core.FZero 1120403456 := fun q => by
    have := FP.Core.zero_iff32.mpr q
    revert this
    decide +kernel
  have f : FP.Core.FFin 1120403456 := by
    have e : FP.Core.val32 1120403456 = .fin false 13107200 (-17) := by decide +kernel
    exact ⟨_, _, _, e⟩
  have h := FP.Core.fdiv_out (FP.Core.i2f_fin (Int32.ofInt (n : Int))).notNaN f z
  have e : FP.f2d (shrF n) = FP.Core.f2d (shrF n) := by
    unfold FP.f2d
    rw [if_neg (by show ¬ FP.Core.fIsNaN (FP.Core.fdiv _ _) = true; rw [h]; decide)]
  rw [e]
  exact FP.Core.f2d_out h
/-- nothing is thrown -/
abbrev XF : Xt := fun _ _ _ => False
