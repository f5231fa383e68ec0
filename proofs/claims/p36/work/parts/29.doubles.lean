/-! DOUBLES AND FLOATS -/
section LdcW
variable {p : Program} {l : Launch} {e : Env} {R : Room} {s : State} {m : MethodId} {args : Array Value} {below : List Frame} {meth : Method} {c : Code} {H : Heap} {locs : List Loc} {cells slots : Nat} {Q : State → Prop} {cc : ByteArray} {pc : Nat} {ls : Array Slot} {rest : List Value}
theorem lv_ldcwF (hexec : p.tables.exec = Jvm.exec) (hb : c.code = cc) {own : String} {index : Nat} {v : UInt32} (hown : s.vm.findClass own = some m.cls) (hconst : (Jvm.Cond.constantFloat own index v).before args s = true) (hdg : decode cc pc = .ok (.ldc_w index, 3)) (k : W p l e R s m args below meth c H locs cells slots Q (F0 m (pc + 3) ls (.float v :: rest))) : W p l e R s m args below meth c H locs cells slots Q (F0 m pc ls rest) := by
  intro T hT X
  obtain ⟨t, a, b⟩ := k T hT X
  obtain ⟨k, cf, hk, hcf, hcp⟩ := Cond.constantFloat_spec hown hconst
  obtain ⟨k', hk', he⟩ := X.warmed.alike.2.2 _ _ hk
  refine ⟨t, ?_, b⟩
  jvm_step X.here [hexec, hb, hdg, Op.ldc_w.wp_float (s := T) (f := F0 m pc ls rest) X.here.top hk' (by rw [he]; exact hcf) hcp]
  exact a
end LdcW
theorem lsOK_storeD {G : Gm} {la : Array Slot} {ls : List (Option Vl)} {i : Nat} {x : UInt64} (h : lsOK G la ls) (hi : i + 1 < ls.length) (hp : ∀ j : Nat, j + 1 = i → c1 (ls.getD j none) = true) :
    ∀ la' : Array Slot, lv_has la' ls.length ((i, Value.double x) :: ((List.range ls.length).filterMap fun i => (ls.getD i none).map fun v => (i, cv G v)).filter (fun q => !(q.1 == i) && (!(q.1 == i + 1) && !(q.1 + 1 == i && q.2.category == 2)))) → lsOK G la' ((ls.set i (some (vd x))).set (i + 1) none) := by
  intro la' hl
  refine ⟨by rw [List.length_set, List.length_set]; exact hl.1, hl.2.1, fun j y hj => ?_⟩
  by_cases h2 : j = i + 1
  · subst h2
    rw [List.getElem?_set_self (by rw [List.length_set]; exact hi)] at hj
    cases hj
  · rw [List.getElem?_set_ne (Ne.symm h2)] at hj
    by_cases hji : j = i
    · subst hji
      rw [List.getElem?_set_self (by omega)] at hj
      cases hj
      exact hl.2.2 _ List.mem_cons_self
    · rw [List.getElem?_set_ne (Ne.symm hji)] at hj
      have hjl : j < ls.length := (List.getElem?_eq_some_iff.mp hj).1
      refine hl.2.2 (j, cv G y) (List.mem_cons_of_mem _ (List.mem_filter.mpr ⟨List.mem_filterMap.mpr ⟨j, List.mem_range.mpr hjl, ?_⟩, ?_⟩))
      · rw [List.getD_eq_getElem?_getD, hj]
        rfl
      · simp only [Bool.and_eq_true, Bool.not_eq_true', beq_eq_false_iff_ne, ne_eq, Bool.and_eq_false_iff]
        refine ⟨hji, h2, ?_⟩
        by_cases h1 : j + 1 = i
        · right
          have := hp j h1
          rw [List.getD_eq_getElem?_getD, hj] at this
          rw [cv_cat1 this]
          decide
        · exact Or.inl h1
section GoD
variable {G : Gm} {cc : ByteArray} {mt : Mt} {nx : Option Nat} {d bc bs pc : Nat} {ls : List (Option Vl)} {st : List Vl} {w : Wd} {K : Kt} {X : Xt}
theorem Go_i2d {z : Int} (dec : decode cc pc = .ok (.i2d, 1)) (k : Go G cc mt nx d bc bs (pc + 1) ls (vd (FP.i2d (Int32.ofInt z)) :: st) w K X) : Go G cc mt nx d bc bs pc ls (vi z :: st) w K X := by
  intro p e R s m args below meth c Q H locs cells slots la C EK EX hl hw hS h1 h2
  exact lv_i2d C.1 C.2.1 dec (k p e R s m args below meth c Q H locs cells slots la C EK EX hl hw hS h1 h2)
theorem Go_dmul {x y : UInt64} (dec : decode cc pc = .ok (.dmul, 1)) (hne : vf_n64 (FP.dmul x y)) (k : Go G cc mt nx d bc bs (pc + 1) ls (vd (FP.dmul x y) :: st) w K X) : Go G cc mt nx d bc bs pc ls (vd y :: vd x :: st) w K X := by
  intro p e R s m args below meth c Q H locs cells slots la C EK EX hl hw hS h1 h2
  exact lv_dmul C.1 C.2.1 dec hne (k p e R s m args below meth c Q H locs cells slots la C EK EX hl hw hS h1 h2)
theorem Go_ddiv {x y : UInt64} (dec : decode cc pc = .ok (.ddiv, 1)) (hne : vf_n64 (FP.ddiv x y)) (k : Go G cc mt nx d bc bs (pc + 1) ls (vd (FP.ddiv x y) :: st) w K X) : Go G cc mt nx d bc bs pc ls (vd y :: vd x :: st) w K X := by
  intro p e R s m args below meth c Q H locs cells slots la C EK EX hl hw hS h1 h2
  exact lv_ddiv C.1 C.2.1 dec hne (k p e R s m args below meth c Q H locs cells slots la C EK EX hl hw hS h1 h2)
theorem Go_i2f {z : Int} (dec : decode cc pc = .ok (.i2f, 1)) (k : Go G cc mt nx d bc bs (pc + 1) ls (vf (FP.i2f (Int32.ofInt z)) :: st) w K X) : Go G cc mt nx d bc bs pc ls (vi z :: st) w K X := by
  intro p e R s m args below meth c Q H locs cells slots la C EK EX hl hw hS h1 h2
  exact lv_i2f C.1 C.2.1 dec (k p e R s m args below meth c Q H locs cells slots la C EK EX hl hw hS h1 h2)
theorem Go_fdiv {x y : UInt32} (dec : decode cc pc = .ok (.fdiv, 1)) (hne : vf_n32 (FP.fdiv x y)) (k : Go G cc mt nx d bc bs (pc + 1) ls (vf (FP.fdiv x y) :: st) w K X) : Go G cc mt nx d bc bs pc ls (vf y :: vf x :: st) w K X := by
  intro p e R s m args below meth c Q H locs cells slots la C EK EX hl hw hS h1 h2
  exact lv_fdiv C.1 C.2.1 dec hne (k p e R s m args below meth c Q H locs cells slots la C EK EX hl hw hS h1 h2)
theorem Go_f2d {x : UInt32} (dec : decode cc pc = .ok (.f2d, 1)) (hne : vf_n64 (FP.f2d x)) (k : Go G cc mt nx d bc bs (pc + 1) ls (vd (FP.f2d x) :: st) w K X) : Go G cc mt nx d bc bs pc ls (vf x :: st) w K X := by
  intro p e R s m args below meth c Q H locs cells slots la C EK EX hl hw hS h1 h2
  exact lv_f2d C.1 C.2.1 dec hne (k p e R s m args below meth c Q H locs cells slots la C EK EX hl hw hS h1 h2)
theorem Go_dconst0 (dec : decode cc pc = .ok (.dconst 0, 1)) (k : Go G cc mt nx d bc bs (pc + 1) ls (vd FP.dconst0 :: st) w K X) : Go G cc mt nx d bc bs pc ls st w K X := by
  intro p e R s m args below meth c Q H locs cells slots la C EK EX hl hw hS h1 h2
  exact lv_dconst0 C.1 C.2.1 dec (k p e R s m args below meth c Q H locs cells slots la C EK EX hl hw hS h1 h2)
theorem Go_dcmp {x y : UInt64} {op : CmpOp} (dec : decode cc pc = .ok (.dcmp op, 1)) (k : ∀ z : Int, Int32.ofInt z = Op.cmpValue (FP.dcmp x y) op → inR z → Go G cc mt nx d bc bs (pc + 1) ls (vi z :: st) w K X) : Go G cc mt nx d bc bs pc ls (vd y :: vd x :: st) w K X := by
  intro p e R s m args below meth c Q H locs cells slots la C EK EX hl hw hS h1 h2
  have kk := k (Op.cmpValue (FP.dcmp x y) op).toInt (by rw [Int32.ofInt_toInt]) ⟨Int32.le_toInt _, Int32.toInt_lt _⟩ p e R s m args below meth c Q H locs cells slots la C EK EX hl hw hS h1 h2
  refine lv_dcmp C.1 C.2.1 dec ?_
  have e1 : (cv G (vi (Op.cmpValue (FP.dcmp x y) op).toInt)) = .int (Op.cmpValue (FP.dcmp x y) op) := by show Value.int (Int32.ofInt _) = _; rw [Int32.ofInt_toInt]
  rw [List.map_cons, e1] at kk
  exact kk
theorem Go_dload_n {j : Fin 4} {i : Nat} {x : UInt64} (dec : decode cc pc = .ok (.dload_n j, 1)) (hi : (j : Nat) = i) (h : ls[i]? = some (some (vd x))) (k : Go G cc mt nx d bc bs (pc + 1) ls (vd x :: st) w K X) : Go G cc mt nx d bc bs pc ls st w K X := by
  intro p e R s m args below meth c Q H locs cells slots la C EK EX hl hw hS h1 h2
  exact lv_dload_n C.1 C.2.1 dec hi (hl.2.2 i _ h) (k p e R s m args below meth c Q H locs cells slots la C EK EX hl hw hS h1 h2)
theorem Go_dload {i : Nat} {x : UInt64} (dec : decode cc pc = .ok (.dload i, 2)) (h : ls[i]? = some (some (vd x))) (k : Go G cc mt nx d bc bs (pc + 2) ls (vd x :: st) w K X) : Go G cc mt nx d bc bs pc ls st w K X := by
  intro p e R s m args below meth c Q H locs cells slots la C EK EX hl hw hS h1 h2
  exact lv_dload C.1 C.2.1 dec (hl.2.2 i _ h) (k p e R s m args below meth c Q H locs cells slots la C EK EX hl hw hS h1 h2)
theorem Go_dstore_n {j : Fin 4} {i : Nat} {x : UInt64} {ls' : List (Option Vl)} (dec : decode cc pc = .ok (.dstore_n j, 1)) (hi : (j : Nat) = i) (hl' : (ls.set i (some (vd x))).set (i + 1) none = ls') (hn : i + 1 < ls.length) (hp : ∀ j : Nat, j + 1 = i → c1 (ls.getD j none) = true) (k : Go G cc mt nx d bc bs (pc + 1) ls' st w K X) : Go G cc mt nx d bc bs pc ls (vd x :: st) w K X := by
  intro p e R s m args below meth c Q H locs cells slots la C EK EX hl hw hS h1 h2
  subst hl'
  refine lv_dstore_n C.1 C.2.1 dec hi (lsOK_list hl) hn rfl (fun la' hla => ?_)
  have hk := lsOK_storeD (x := x) hl hn hp la' hla
  exact k p e R s m args below meth c Q H locs cells slots la' (by rw [List.length_set, List.length_set]; exact C) EK EX hk hw hS h1 h2
theorem Go_dstore {i : Nat} {x : UInt64} {ls' : List (Option Vl)} (dec : decode cc pc = .ok (.dstore i, 2)) (hl' : (ls.set i (some (vd x))).set (i + 1) none = ls') (hn : i + 1 < ls.length) (hp : ∀ j : Nat, j + 1 = i → c1 (ls.getD j none) = true) (k : Go G cc mt nx d bc bs (pc + 2) ls' st w K X) : Go G cc mt nx d bc bs pc ls (vd x :: st) w K X := by
  intro p e R s m args below meth c Q H locs cells slots la C EK EX hl hw hS h1 h2
  subst hl'
  refine lv_dstore C.1 C.2.1 dec (lsOK_list hl) hn rfl (fun la' hla => ?_)
  have hk := lsOK_storeD (x := x) hl hn hp la' hla
  exact k p e R s m args below meth c Q H locs cells slots la' (by rw [List.length_set, List.length_set]; exact C) EK EX hk hw hS h1 h2
theorem Go_ldcwF {idx : Nat} {x : UInt32} (dec : decode cc pc = .ok (.ldc_w idx, 3)) (lk : Cond.constantFloat mt.2.1 idx x ∈ GW) (k : Go G cc mt nx d bc bs (pc + 3) ls (vf x :: st) w K X) : Go G cc mt nx d bc bs pc ls st w K X := by
  intro p e R s m args below meth c Q H locs cells slots la C EK EX hl hw hS h1 h2
  obtain ⟨cx, cb, -, co, ct, -⟩ := id C
  exact lv_ldcwF cx cb co (ct _ lk) dec (k p e R s m args below meth c Q H locs cells slots la C EK EX hl hw hS h1 h2)
theorem Go_ldcF {idx : Nat} {x : UInt32} (dec : decode cc pc = .ok (.ldc idx, 2)) (lk : Cond.constantFloat mt.2.1 idx x ∈ GW) (k : Go G cc mt nx d bc bs (pc + 2) ls (vf x :: st) w K X) : Go G cc mt nx d bc bs pc ls st w K X := by
  intro p e R s m args below meth c Q H locs cells slots la C EK EX hl hw hS h1 h2
  obtain ⟨cx, cb, -, co, ct, -⟩ := id C
  exact lv_ldcf cx cb co (ct _ lk) dec (k p e R s m args below meth c Q H locs cells slots la C EK EX hl hw hS h1 h2)
end GoD
/-- the share, and the spread: what both sides reckon -/
def shrF (n : Nat) : UInt32 := FP.fdiv (FP.i2f (Int32.ofInt (n : Int))) 1120403456
def sqN (n : Nat) : UInt64 := FP.dmul (FP.i2d (Int32.ofInt (n : Int))) (FP.i2d (Int32.ofInt (n : Int)))
def sprD (z : Int) (n : Nat) : UInt64 := FP.ddiv (FP.i2d (Int32.ofInt z)) (sqN n)
theorem nn64 {x : UInt64} (h : FP.Core.dIsNaN x = false) : vf_n64 x := by
  have := (FP.Core.ne_nan x).mp ((FP.Core.notNaN_iff x).mp h)
  unfold vf_n64
  rw [UInt64.le_iff_toNat_le, FP.Core.mask_toNat]
  exact this
theorem nn32 {x : UInt32} (h : FP.Core.fIsNaN x = false) : vf_n32 x := by
  have h2 : ¬ (2139095040 < x.toNat % 2 ^ 31) := fun q => by
    rw [(FP.Core.isNaN_bits32 x).mpr q] at h
    cases h
  unfold vf_n32
  rw [UInt32.le_iff_toNat_le, FP.Core.mask_toNat32]
  exact Nat.not_lt.mp h2
theorem sqz : ∀ n, n < 61 → 1 ≤ n → FP.Core.dcmp (sqN n) 0 ≠ some .eq := by decide +kernel
theorem shr_ok (n : Nat) : vf_n32 (shrF n) ∧ vf_n64 (FP.f2d (shrF n)) := by
  have z : ¬ FP.Core.FZero 1120403456 := fun q => by
    have := FP.Core.zero_iff32.mpr q
    revert this
    decide +kernel
  have f : FP.Core.FFin 1120403456 := by
    have e : FP.Core.val32 1120403456 = .fin false 13107200 (-17) := by decide +kernel
    exact ⟨_, _, _, e⟩
  have h := FP.Core.fdiv_out (FP.Core.i2f_fin (Int32.ofInt (n : Int))).notNaN f z
  refine ⟨nn32 h, nn64 ?_⟩
  have e : FP.f2d (shrF n) = FP.Core.f2d (shrF n) := by
    unfold FP.f2d
    rw [if_neg (by show ¬ FP.Core.fIsNaN (FP.Core.fdiv _ _) = true; rw [h]; decide)]
  rw [e]
  exact FP.Core.f2d_out h
theorem sq_ok (n : Nat) : FP.Core.dIsNaN (sqN n) = false := FP.Core.dmul_out (FP.Core.i2d_fin _) (FP.Core.i2d_fin _)
theorem spr_ok (z : Int) {n : Nat} (h1 : 1 ≤ n) (h2 : n < 61) : FP.Core.dIsNaN (sprD z n) = false := by
  refine FP.Core.not_true (FP.Core.ddiv_nan_iff _ _) (fun q => ?_)
  have f := FP.Core.i2d_fin (Int32.ofInt z)
  rcases q with q | q | ⟨s, t, q, -⟩ | ⟨-, q⟩
  · exact f.ne_nan q
  · exact (FP.Core.notNaN_iff _).mp (sq_ok n) q
  · exact f.ne_inf s q
  · exact sqz n h2 h1 (FP.Core.zero_iff.mpr q)
section Api4
variable {G : Gm} {w : Wd} {K : Kt} {X : Xt} {s : Sta} {sv : List Sta} {g : Nat → Option Sta} {tx : List Nat} {z1 : Int}
theorem e_X11_spread (h : CI w s sv g tx) (h1 : inR z1)
    (k : ∀ p : Nat, z1 = p → p < s.1.length → K (vd (sprD (momL (pth s.1 p)) (pth s.1 p).length)) none w)
    (x1 : ¬ (0 ≤ z1 ∧ z1 < s.1.length) → X 1 none w) : Ev G yX11_spread cX11_spread 5 mX11_spread none 7 1 6 [vr 1, vi z1] w K X := by
  have h5 : s.1.length ≤ 5 := h.2.1.1
  refine Ev_intro mvX11_spread.1 rfl (fun h => by cases h) (allc1 rfl) (Nat.le_of_ble_eq_true rfl) (Or.inl rfl) ?_
  show Go G cX11_spread mX11_spread none 7 1 6 0 [some (vr 1), some (vi z1), none, none, none] [] w K X
  refine Go_ald0 dX11_spread_0 ?_
  refine Go_ild1 dX11_spread_1 ?_
  refine Go_cVv1 (d' := 6) (bc' := 1) (bs' := 6) rfl dX11_spread_2 mvX11_checkPath rfl lkX11_106 (by first | assumption | rfl) rfl trivial (by decide) (by decide) (by decide) (Nat.le_of_ble_eq_true rfl) ?_
  refine e_X11_checkPath h.1.1.1 h1 (fun p e hp => ?_) x1
  subst e
  have h3 := h.1.1.1.2.2.1 p (by omega)
  have hts1 := (bts_sh h3.1).1
  have hT := h.1.1.1.2.2.2.2 p hp
  have hl := h.2.1.len hp
  refine Go_ald0 dX11_spread_5 ?_
  refine gf10_0 dX11_spread_6 flX11_12 ?_
  refine Go_ild1 dX11_spread_9 ?_
  refine Go_cV1 (d' := 0) (bc' := 0) (bs' := 0) rfl dX11_spread_10 mvX0_trail rfl lkX11_115 (by first | assumption | rfl) rfl trivial (by decide) (by decide) (by decide) (Nat.le_of_ble_eq_true rfl) ?_
  refine e_X0_trail h.1.1.1 (by omega) ?_
  refine Go_ast2 dX11_spread_13 rfl ?_
  refine Go_ald2 dX11_spread_14 ?_
  refine Go_cV0 (d' := 0) (bc' := 0) (bs' := 0) rfl dX11_spread_15 mvX9_length rfl lkX11_119 (by first | assumption | rfl) rfl trivial (by decide) (by decide) (by decide) (Nat.le_of_ble_eq_true rfl) ?_
  refine e_X9_length hT ?_
  refine Go_i2d dX11_spread_18 ?_
  refine Go_dstore_n (i := 3) dX11_spread_19 rfl rfl (Nat.le_of_ble_eq_true rfl) (fun j hj => by have e : j = 2 := (by omega); subst e; rfl) ?_
  refine Go_ald2 dX11_spread_20 ?_
  refine Go_cV0 (d' := 1) (bc' := 0) (bs' := 0) rfl dX11_spread_21 mvX9_moment rfl lkX11_272 (by first | assumption | rfl) rfl trivial (by decide) (by decide) (by decide) (Nat.le_of_ble_eq_true rfl) ?_
  refine e_X9_moment hT (h.2.1.lt p) ?_
  refine Go_i2d dX11_spread_24 ?_
  refine Go_dload_n (i := 3) dX11_spread_25 rfl rfl ?_
  refine Go_dload_n (i := 3) dX11_spread_26 rfl rfl ?_
  refine Go_dmul dX11_spread_27 (nn64 (sq_ok _)) ?_
  refine Go_ddiv dX11_spread_28 (nn64 (spr_ok _ (by omega) (by omega))) ?_
  refine Go_dreturn dX11_spread_29 rfl ?_
  exact k p rfl hp
theorem e_X11_share (h : CI w s sv g tx) (k : K (vf (shrF (tot s.1))) none w) : Ev G yX11_share cX11_share 1 mX11_share none 1 0 0 [vr 1] w K X := by
  refine Ev_intro mvX11_share.1 rfl (fun h => by cases h) (allc1 rfl) (Nat.le_of_ble_eq_true rfl) (Or.inl rfl) ?_
  show Go G cX11_share mX11_share none 1 0 0 0 [some (vr 1)] [] w K X
  refine Go_ald0 dX11_share_0 ?_
  refine gf10_0 dX11_share_1 flX11_12 ?_
  refine Go_cV0 (d' := 0) (bc' := 0) (bs' := 0) rfl dX11_share_4 mvX0_takenSites rfl lkX11_296 (by first | assumption | rfl) rfl trivial (by decide) (by decide) (by decide) (Nat.le_of_ble_eq_true rfl) ?_
  refine e_X0_takenSites h.1.1 ?_
  refine Go_i2f dX11_share_7 ?_
  refine Go_ldcwF dX11_share_8 cfX11_332 ?_
  refine Go_fdiv dX11_share_11 (shr_ok _).1 ?_
  refine Go_freturn dX11_share_12 rfl ?_
  exact k
end Api4
