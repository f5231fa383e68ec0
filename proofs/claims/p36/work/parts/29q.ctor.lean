/-! THE CONSTRUCTORS: what is made, cell by cell -/
section CtorRules
variable {G : Gm} {cc : ByteArray} {mt : Mt} {d bc bs pc n m : Nat} {ls : List (Option Vl)} {st : List Vl} {w : Wd} {K : Kt} {X : Xt}
theorem cont_some {G : Gm} {w : Wd} {a : Nat} (n m : Nat) : cont G (some n) w a = cont G (some m) w a := rfl
/-- one cell more -/
theorem wholds_push {G : Gm} {w : Wd} {H H1 : Heap} {n : Nat} (hw : wholds G (some n) w H) (hn : n ≤ NA) (hz : H1.size = H.size + 1) (ho : ∀ q : Nat, q < H.size → H1[q]? = H[q]?) (hat : va_at (GD G) vwCl (rho G n, cont G (some (n + 1)) w n) H1) : wholds G (some (n + 1)) w H1 := by
  have h2 := hw.2 n rfl
  refine ⟨fun k q hk => ?_, fun n' hn' => ?_⟩
  · obtain ⟨hl, rfl⟩ := wl_inv G _ hk
    have hl : k < n := hl
    by_cases c : k + 1 = n
    · rw [c]; exact hat
    · have hl2 : k < cnt (some n) := by show k < n - 1; omega
      have h0 := hw.1 k _ (by have := wl_at G (nx := some n) w (a := k + 1) (by omega) (by omega); rw [show k + 1 - 1 = k by omega] at this; exact this)
      refine h0.kept (ho _ ?_)
      show rho G (k + 1) < H.size
      rw [rho_own G (by omega)]
      omega
  · cases hn'
    refine ⟨by omega, by omega, ?_⟩
    omega
theorem rho_next {G : Gm} {w : Wd} {H : Heap} {n : Nat} (hw : wholds G (some n) w H) (hn : n ≤ NA) : H.size = rho G n := by
  have h2 := hw.2 n rfl
  rw [rho_own G hn]
  omega
theorem vaS_push {A : Nat → Prop} {H0 H H1 : Heap} {locs : List Loc} (hS : va_S A H0 H locs) (hz : H1.size = H.size + 1) (ho : ∀ q : Nat, q < H.size → H1[q]? = H[q]?) : va_S A H0 H1 locs :=
  ⟨Nat.le_trans hS.1 (by omega), fun x h1 h2 => (ho x (Nat.lt_of_lt_of_le h1 hS.1)).trans (hS.2.1 x h1 h2), hS.2.2⟩
theorem flds_0 {G : Gm} {w : Wd} {n m ci : Nat} (hz : ∀ k, w n k = 0) (j : Nat) : vp_V (flds G (some m) w n ci) j = (match (ftl ci)[j]? with | some false => Value.int 0 | _ => Value.null) := by
  unfold vp_V flds
  rw [List.getD_eq_getElem?_getD, List.getElem?_mapIdx]
  cases (ftl ci)[j]? with
  | none => rfl
  | some b =>
    cases b with
    | true =>
      show fldv G true (w n j) = Value.null
      rw [hz]
      rfl
    | false =>
      show fldv G false (w n j) = Value.int 0
      rw [hz]
      rfl
theorem Go_new {ci N idx : Nat} {C : String} {T : u_T} (dec : decode cc pc = .ok (.new idx, 3)) (cl : Cond.classLink mt.2.1 idx C ∈ GW) (it : Cond.instantiable C N ∈ GW) (ini : Cond.initialized C ∈ GW) (hc : vwCl[ci]? = some (C, T, N)) (ty : Nat → FieldType) (hty : ∀ k, k < N → parseFieldDescriptor (T k).2.2.1 = some (ty k)) (hin : ∀ w ∈ u_ws C T N, w ∈ GW)
    (hdef : ∀ j, j < N → defaultValue (ty j) = (match (ftl ci)[j]? with | some false => Value.int 0 | _ => Value.null)) (hs : SH n = (1, ci)) (hm : n + 1 = m) (hz : ∀ k, w n k = 0) (hbc : 1 ≤ bc) (hbs : N ≤ bs) (k : Go G cc mt (some m) d (bc - 1) (bs - N) (pc + 3) ls (vr n :: st) w K X) : Go G cc mt (some n) d bc bs pc ls st w K X := by
  intro p e R s m' args below meth c Q H locs cells slots la C0 EK EX hl hw hS h1 h2
  subst hm
  obtain ⟨cx, cb, -, co, ct, -, -, -, -, -, cK, -⟩ := id C0
  have hn := (SH_lt hs (by decide)).2
  have hKn := cK.1.1 ci _ hc
  have hr := rho_next hw hn
  refine W.newcK cx cb co (ct _ cl) (ct _ it) (ct _ ini) rfl dec (by omega) (by omega) hKn.2.1 hr fun H1 kC hkC e1 z1 o1 => ?_
  rw [← hr] at z1 o1
  refine k p e R s m' args below meth c Q H1 locs (cells + 1) (slots + N) la C0 EK EX hl (wholds_push hw hn z1 o1 ?_) (vaS_push hS z1 o1) (by omega) (by omega)
  rw [cont_1 hs]
  exact ⟨_, hc, (u_born ty ct hin hKn hkC e1 hty).to (fun j hj => by rw [flds_0 hz]; exact hdef j hj)⟩
theorem Go_newarr {kd N : Nat} {atype : ArrayType} {cA0 : ClassId} {A0 : vp_A} (dec : decode cc pc = .ok (.newarray atype, 2)) (ac : Cond.arrayClass (newarray.typeOf atype) ∈ GW) (hs : SH n = (kd, N)) (hk : kd ≠ 0) (hm : n + 1 = m) (hN : N < 100000) (hcl : ∀ U : State, va_K (GD G) vwCl (tyl G) U → U.vm.findClass ("[" ++ (newarray.typeOf atype).toString) = some cA0)
    (hcont : cont G (some m) w n = .inl (cA0, A0)) (hA0 : vp_cell cA0 A0 = arrV cA0 N (fun _ => defaultValue (newarray.typeOf atype))) (hbc : 1 ≤ bc) (hbs : N ≤ bs) (k : Go G cc mt (some m) d (bc - 1) (bs - N) (pc + 2) ls (vr n :: st) w K X) : Go G cc mt (some n) d bc bs pc ls (vi (N : Int) :: st) w K X := by
  intro p e R s m' args below meth c Q H locs cells slots la C0 EK EX hl hw hS h1 h2
  subst hm
  obtain ⟨cx, cb, -, co, ct, -, -, -, -, -, cK, -⟩ := id C0
  have hn := (SH_lt hs hk).2
  have hr := rho_next hw hn
  obtain ⟨i1, i2⟩ := iI_in (z := (N : Int)) (n := N + 1) (by omega) (by omega) (by omega)
  have hb : componentBytes (newarray.typeOf atype) ≤ 8 := by cases atype <;> decide
  refine va_newaK cx cb (ct _ ac) rfl dec rfl (fun q => i1 (Or.inl q)) (by rw [i2]; rfl) (N := N) (Nat.le_trans (Nat.mul_le_mul_left N hb) (by omega)) (by omega) (by omega) hr fun H1 cA e1 z1 o1 hAr hNm => ?_
  rw [← hr] at z1 o1
  cases hNm.symm.trans (hcl s cK.1)
  refine k p e R s m' args below meth c Q H1 locs (cells + 1) (slots + N) la C0 EK EX hl (wholds_push hw hn z1 o1 ?_) (vaS_push hS z1 o1) (by omega) (by omega)
  rw [hcont]
  show H1[rho G n]? = some (vp_cell _ _)
  rw [e1, hA0]
theorem Go_newI {N : Nat} (dec : decode cc pc = .ok (.newarray .int, 2)) (hs : SH n = (2, N)) (hm : n + 1 = m) (hN : N < 100000) (hz : ∀ k, w n k = 0) (hbc : 1 ≤ bc) (hbs : N ≤ bs) (k : Go G cc mt (some m) d (bc - 1) (bs - N) (pc + 2) ls (vr n :: st) w K X) : Go G cc mt (some n) d bc bs pc ls (vi (N : Int) :: st) w K X :=
  Go_newarr dec ac_int hs (by decide) hm hN (fun U h => (h.2 0 _ rfl).2) (cont_2 hs) (by rw [vp_cell_i]; congr 1; funext j; rw [hz]; rfl) hbc hbs k
theorem Go_newC {N : Nat} (dec : decode cc pc = .ok (.newarray .char, 2)) (hs : SH n = (3, N)) (hm : n + 1 = m) (hN : N < 100000) (hz : ∀ k, w n k = 0) (hbc : 1 ≤ bc) (hbs : N ≤ bs) (k : Go G cc mt (some m) d (bc - 1) (bs - N) (pc + 2) ls (vr n :: st) w K X) : Go G cc mt (some n) d bc bs pc ls (vi (N : Int) :: st) w K X :=
  Go_newarr dec ac_char hs (by decide) hm hN (fun U h => (h.2 1 _ rfl).2) (cont_3 hs) (by rw [vp_cell_i]; congr 1; funext j; rw [hz]; rfl) hbc hbs k
theorem Go_newZ {N : Nat} (dec : decode cc pc = .ok (.newarray .boolean, 2)) (hs : SH n = (4, N)) (hm : n + 1 = m) (hN : N < 100000) (hz : ∀ k, w n k = 0) (hbc : 1 ≤ bc) (hbs : N ≤ bs) (k : Go G cc mt (some m) d (bc - 1) (bs - N) (pc + 2) ls (vr n :: st) w K X) : Go G cc mt (some n) d bc bs pc ls (vi (N : Int) :: st) w K X :=
  Go_newarr dec ac_boolean hs (by decide) hm hN (fun U h => (h.2 2 _ rfl).2) (cont_4 hs) (by rw [vp_cell_i]; congr 1; funext j; rw [hz]; rfl) hbc hbs k
theorem Go_anew {kd N idx : Nat} {C : String} {cA0 : ClassId} {A0 : vp_A} (dec : decode cc pc = .ok (.anewarray idx, 3)) (cl : Cond.classLink mt.2.1 idx C ∈ GW) (hao : ∀ U H, KS G U H → va_AO C U) (hs : SH n = (kd, N)) (hk : kd ≠ 0) (hm : n + 1 = m) (hN : N < 100000) (hcl : ∀ U : State, va_K (GD G) vwCl (tyl G) U → U.vm.findClass ("[" ++ (FieldType.object C).toString) = some cA0)
    (hcont : cont G (some m) w n = .inl (cA0, A0)) (hA0 : vp_cell cA0 A0 = arrV cA0 N (fun _ => .null)) (hbc : 1 ≤ bc) (hbs : N ≤ bs) (k : Go G cc mt (some m) d (bc - 1) (bs - N) (pc + 3) ls (vr n :: st) w K X) : Go G cc mt (some n) d bc bs pc ls (vi (N : Int) :: st) w K X := by
  intro p e R s m' args below meth c Q H locs cells slots la C0 EK EX hl hw hS h1 h2
  subst hm
  obtain ⟨cx, cb, -, co, ct, -, -, -, -, -, cK, -⟩ := id C0
  have hn := (SH_lt hs hk).2
  have hr := rho_next hw hn
  obtain ⟨i1, i2⟩ := iI_in (z := (N : Int)) (n := N + 1) (by omega) (by omega) (by omega)
  have i3 : (Int32.ofInt (N : Int)).toNatClampNeg = N := by rw [i2]; rfl
  refine W.anew cx cb co (ct _ cl) (va_AO.use (hao s _ cK)) rfl dec rfl (fun q => i1 (Or.inl q)) (by rw [i3]; omega) (by omega) (by rw [i3]; omega) fun cA kA comp f1 f2 f3 f4 => ?_
  rw [i3]
  cases f1.symm.trans (hcl s cK.1)
  generalize hH1 : H.push ({ cls := cA0, slots := Array.replicate N .null, vm := .none } : Cell) = H1
  have z1 : H1.size = H.size + 1 := by rw [← hH1, Array.size_push]
  have e1 : H1[H.size]? = some (arrV cA0 N (fun _ => .null)) := by rw [← hH1, Array.getElem?_push_size, ← arrV_new]
  have o1 : ∀ q : Nat, q < H.size → H1[q]? = H[q]? := fun q hq => by rw [← hH1, Array.getElem?_push, if_neg (Nat.ne_of_lt hq)]
  rw [hr]
  refine k p e R s m' args below meth c Q H1 locs (cells + 1) (slots + N) la C0 EK EX hl (wholds_push hw hn z1 o1 ?_) (vaS_push hS z1 o1) (by omega) (by omega)
  rw [hcont]
  show H1[rho G n]? = some (vp_cell _ _)
  rw [← hr, e1, hA0]
theorem Go_anew5 {N idx : Nat} (dec : decode cc pc = .ok (.anewarray idx, 3)) (cl : Cond.classLink mt.2.1 idx RX9 ∈ GW) (hs : SH n = (5, N)) (hm : n + 1 = m) (hN : N < 100000) (hz : ∀ k, w n k = 0) (hbc : 1 ≤ bc) (hbs : N ≤ bs) (k : Go G cc mt (some m) d (bc - 1) (bs - N) (pc + 3) ls (vr n :: st) w K X) : Go G cc mt (some n) d bc bs pc ls (vi (N : Int) :: st) w K X :=
  Go_anew dec cl (fun U H h => h.2.2.2.2.2.2.2.2.1.2.1) hs (by decide) hm hN (fun U h => by obtain ⟨kA, comp, h1, h2, h3, h4⟩ := (h.2 3 _ rfl).2; exact h4) (cont_5 hs) (by rw [vp_cell_q]; congr 1; funext j; rw [hz]; rfl) hbc hbs k
theorem Go_anew6 {N idx : Nat} (dec : decode cc pc = .ok (.anewarray idx, 3)) (cl : Cond.classLink mt.2.1 idx RX5 ∈ GW) (hs : SH n = (6, N)) (hm : n + 1 = m) (hN : N < 100000) (hz : ∀ k, w n k = 0) (hbc : 1 ≤ bc) (hbs : N ≤ bs) (k : Go G cc mt (some m) d (bc - 1) (bs - N) (pc + 3) ls (vr n :: st) w K X) : Go G cc mt (some n) d bc bs pc ls (vi (N : Int) :: st) w K X :=
  Go_anew dec cl (fun U H h => h.2.2.2.2.2.2.2.2.1.2.2) hs (by decide) hm hN (fun U h => by obtain ⟨kA, comp, h1, h2, h3, h4⟩ := (h.2 4 _ rfl).2; exact h4) (cont_6 hs) (by rw [vp_cell_q]; congr 1; funext j; show va_rf (rfo G (w n j)) = _; rw [hz]; rfl) hbc hbs k
/-- a final reference is set -/
theorem Go_pfF {a b ci k idx : Nat} (dec : decode cc pc = .ok (.putfield idx, 3)) (f : FL mt.2.1 idx ci k) (hs : SH a = (1, ci)) (hx : a < n) (hk : (ftl ci)[k]? = some true) (hi2 : mt.2.2.1 = true) (hb : b ≠ 0)
    (hty : ∀ r : vw_C, vwCl[ci]? = some r → ∃ ty, parseFieldDescriptor (r.2.1 k).2.2.1 = some ty ∧ (∀ x, narrow ty (.ref x) = .ref x ∧ fits ty (.ref x) = true) ∧ (r.2.1 k).2.2.2 = true ∧ (r.2.1 k).1 = mt.2.1)
    (kk : Go G cc mt (some n) d bc bs (pc + 3) ls st (up w a k (b : Int)) K X) : Go G cc mt (some n) d bc bs pc ls (vr b :: vr a :: st) w K X := by
  intro p e R s m args below meth c Q H locs cells slots la C EK EX hl hw hS h1 h2
  obtain ⟨⟨r0, ty, hr0, hin, htyok, hnm⟩, r, hr, hlt, hsame, hfl⟩ := f
  obtain ⟨cx, cb, -, co, ct, -, cin, -, -, -, cK, -⟩ := id C
  cases hr0.symm.trans hr
  have hat := hw.1 _ _ (wl_e G (nx := some n) w hs (by decide) hx (cont_1 hs))
  obtain ⟨t, hd, hnf, hF, hown⟩ := hty _ hr
  have hap := va_apart (own := mt.2.1) ct hin ty htyok hnm cK.1 hr
  obtain ⟨r1, e1, cell, q1, q2, q3, q4⟩ := hat
  cases e1.symm.trans hr
  obtain ⟨hSl, hfc, kC, hkC, hkind⟩ := cK.1.1 ci _ hr
  obtain ⟨cf, kf, fi, f, hi, hsl⟩ := hSl k hlt
  have hlay := ct _ (hin _ (u_in_lay hlt))
  unfold u_lay at hlay
  rw [if_pos hF] at hlay
  have hst := (u_facts hfc hkC (u_lays ct hin hlt) hi).1
  have hcf : m.cls = cf := by
    obtain ⟨_, _, c', _, _, _, -, -, hf', -, -, -, hown2, -⟩ := Cond.laysFinal_spec hlay
    have e1 : c' = cf := by have := hi.symm.trans hf'; simp at this; exact this.1.symm
    rw [hown] at hown2
    rw [← e1]; exact Option.some.inj (co.symm.trans hown2)
  have h6 := u_fits (v := .ref (rho G b)) hfc hkC hkind (Or.inr hlay) hi hd (hnf _).1 (hnf _).2
  refine W.putFinK (ref := r0.1) cx cb co (ct _ hfl) (by rw [← hsame]; exact hi) hst hcf (cin hi2) (by rw [q2]; exact h6) q1 q3 (by rw [hsl]; exact k2_hasslot (q4 k hlt)) rfl rfl dec fun H' g1 g2 g3 => ?_
  rw [hsl] at g1 ⊢
  refine kk p e R s m args below meth c Q H' _ cells slots la C EK EX hl (wholds_put hs (by decide) hw g2 g3 ?_) (hS.put g2 g3 (own_in hs (by decide))) h1 h2
  rw [cont_1 hs]
  refine ⟨_, hr, t_OB.to (V := updV (vp_V (flds G (some n) w a ci)) k (.ref (rho G b))) ⟨_, g1, q2, q3, t_set q4 hap hlt _⟩ (fun j _ => ?_)⟩
  have e9 : fldv G true (rv (some n) (up w a k (b : Int)) a k) = .ref (rho G b) := by
    show fldv G true (up w a k (b : Int) a k) = _
    rw [up_s]
    simp [fldv, rfo, hb, va_rf]
  rw [flds_at (nx := some n) (b := true) hk j, if_pos rfl, e9]
/-- a saved state is put into its array -/
theorem Go_aast6 {a b N : Nat} {z : Int} (dec : decode cc pc = .ok (.aastore, 1)) (hs : SH a = (6, N)) (hb : SH b = (1, 4)) (hx : a < n) (hxb : b < n) (hz0 : 0 ≤ z) (hz : z < N) (hn : N < 2147483648) (kk : Go G cc mt (some n) d bc bs (pc + 1) ls st (up w a z.toNat (b : Int)) K X) : Go G cc mt (some n) d bc bs pc ls (vr b :: vi z :: vr a :: st) w K X := by
  intro p e R s m args below meth c Q H locs cells slots la C EK EX hl hw hS h1 h2
  obtain ⟨cx, cb, -, co, ct, -, -, -, -, -, cK, -⟩ := id C
  obtain ⟨i1, i2⟩ := iI_in hz0 hz hn
  have hatB := hw.1 _ _ (wl_e G (nx := some n) w hb (by decide) hxb (cont_1 hb))
  obtain ⟨r', hr', cellV, g1, g2, g3, -⟩ := hatB
  have hcls := (cK.1.1 4 _ hr').2
  cases hr'
  obtain ⟨kA, comp, k1, k2, k3, -⟩ := (cK.1.2 4 _ rfl).2
  have hcomp : comp = (GD G).1 4 := Option.some.inj (k3.symm.trans hcls.1)
  subst hcomp
  obtain ⟨kC, hkC, -⟩ := hcls.2
  have hlt : z.toNat < N := by omega
  refine W.aast cx cb (hw.1 _ _ (wl_e G (nx := some n) w hs (by decide) hx (cont_6 hs))) (fun q h => by cases h) (fun h => by cases h) k1 k2 rfl hkC ⟨fun q => i1 (Or.inl q), by show _ < (arrV _ _ _).slots.size; rw [arrV_size, i2]; exact hlt⟩ g1 (fun q h => by rw [g3] at h; cases h) (by rw [g2]; exact hkC) (by rw [g2]; exact va_assign hcls) rfl rfl dec fun H1 e1 e2 e3 => ?_
  refine kk p e R s m args below meth c Q H1 _ cells slots la C EK EX hl (wholds_put hs (by decide) hw e2 e3 ?_) (hS.put e2 e3 (own_in hs (by decide))) h1 h2
  rw [cont_6 hs]
  show H1[_]? = some (vp_cell _ _)
  have hb1 := SH_lt hb (by decide)
  have hb0 : ¬ b = 0 := by omega
  rw [e1, i2, vp_cell_q, vp_cell_q, arrV_store]
  congr 2
  funext q
  show updV (fun j => va_rf (rfo G (w a j))) z.toNat _ q = va_rf (rfo G (up w a z.toNat (b : Int) a q))
  by_cases hq : q = z.toNat
  · subst hq; simp [updV, up, rfo, hb0, va_rf]
  · simp [updV, up, hq]
theorem Go_objInit {nx : Option Nat} {a idx : Nat} (dec : decode cc pc = .ok (.invokespecial idx, 3)) (lk : Cond.methodLink mt.2.1 idx objectInit ∈ GW) (hd : 1 ≤ d) (hsum : (st.map fun v => (cv G v).category).sum ≤ 8) (k : Go G cc mt nx d bc bs (pc + 3) ls st w K X) : Go G cc mt nx d bc bs pc ls (vr a :: st) w K X := by
  intro p e R s m args below meth c Q H locs cells slots la C EK EX hl hw hS h1 h2
  obtain ⟨cx, cb, -, co, ct, -, -, cml, cf, cl, cK, -⟩ := id C
  exact W.objInit cx cb co (ct _ lk) (ct _ gOi_inst) (ct _ gOi_code) rfl (by show la.size = _; rw [hl.1, cml]) rfl dec (by omega) (by rw [List.map_map]; have q1 : ((List.map ((fun v => v.category) ∘ cv G) st)).sum ≤ 8 := hsum; show 2 * 0 + _ + 12 ≤ _; omega) (k p e R s m args below meth c Q H locs cells slots la C EK EX hl hw hS h1 h2)
theorem Go_callI {nx : Option Nat} {y : MethodName} {cc' : ByteArray} {nl' idx d' bc' bs' a : Nat} {mt' : Mt} (hr : mt'.1 = none) (dec : decode cc pc = .ok (.invokespecial idx, 3)) (mi : MI y cc' nl' mt' 0) (ht : mt'.2.2.2 = []) (lk : Cond.methodLink mt.2.1 idx y ∈ GW) (hsum : (st.map fun v => (cv G v).category).sum ≤ 8) (hd : d' < d) (hbc : bc' ≤ bc) (hbs : bs' ≤ bs)
    (E : Ev G y cc' nl' mt' nx d' bc' bs' [vr a] w (fun v nx' w' => Go G cc mt nx' d (bc - bc') (bs - bs') (pc + 3) ls st w' K X) (fun _ _ _ => False)) : Go G cc mt nx d bc bs pc ls (vr a :: st) w K X := by
  intro p e R s m args below meth c Q H locs cells slots la C EK EX hl hw hS h1 h2
  obtain ⟨cx, cb, -, co, ct, -, -, cml, -, -, cK, cst, -⟩ := id C
  have hrun := vx_runI (s := s) (R := R) (args := args) (H := H) (locs := locs) (cells := cells) (slots := slots) (below := below) (meth := meth) (e := e) (b := rho G a) (As := []) (rest := st.map (cv G)) (g := F0 m pc la ((vr a :: st).map (cv G))) (Ts := GW)
    ⟨cx, cb, cml, co, ct⟩ (E cst) ⟨by have := callB_go (bc' := bc') (bs' := bs') C mi.1 ht lk hd; rw [hr] at this; exact this, mi.2.2, ct _ mi.2.1⟩ ⟨PcG_blind, PcG_at C hw hS _ _ rfl⟩ rfl rfl (by show la.size = _; rw [hl.1]) rfl (lv_room (by rw [List.map_map]; exact hsum)) dec ⟨by omega, by omega⟩
  refine run_go hrun hS (fun v nx' w' H1 locs1 k1 k2 k3 => ?_) (fun k nx' w' H1 locs1 ce q k1 k2 k3 g1 g2 g3 => k1.elim)
  have k4 := k1 p e R s m args below meth c Q H1 locs1 (cells + bc') (slots + bs') la C EK EX hl k2 k3 (by omega) (by omega)
  unfold rvl
  rw [hr]
  exact k4
theorem Go_callIN {nx : Option Nat} {y : MethodName} {cc' : ByteArray} {nl' idx d' bc' bs' a : Nat} {mt' : Mt} (hr : mt'.1 = none) (dec : decode cc pc = .ok (.invokespecial idx, 3)) (mi : MI y cc' nl' mt' 0) (ht : mt'.2.2.2 = []) (lk : (mt.2.1, idx, y) ∈ nestM) (hsum : (st.map fun v => (cv G v).category).sum ≤ 8) (hd : d' < d) (hbc : bc' ≤ bc) (hbs : bs' ≤ bs)
    (E : Ev G y cc' nl' mt' nx d' bc' bs' [vr a] w (fun v nx' w' => Go G cc mt nx' d (bc - bc') (bs - bs') (pc + 3) ls st w' K X) (fun _ _ _ => False)) : Go G cc mt nx d bc bs pc ls (vr a :: st) w K X := by
  intro p e R s m args below meth c Q H locs cells slots la C EK EX hl hw hS h1 h2
  obtain ⟨cx, cb, -, co, ct, -, -, cml, cf, cl, cK, cst, -⟩ := id C
  obtain ⟨hcode, hini, hmh, har, -, hnl, -⟩ := mi.1
  have ew : codeW y cc' nl' mt' = Cond.code y cc' nl' mt'.1 := by unfold codeW; rw [ht]
  have hcn : va_CN R s args mt.2.1 idx y "LatticePaths" cc' nl' mt'.1 (wsM y cc' nl' mt') (rmG d' bc' bs') bc' bs' 0 := by
    refine ⟨⟨rfl, rfl, by show d' + 1 ≤ _; omega, by show 8 + (nl' + 11) + 40 * d' ≤ _; omega, fun w hw a' U hW => ?_, by unfold wsM; rw [ew]; exact List.mem_cons_self⟩, ?_, ct _ hini, hmh, fun sig h => ?_, va_Nw.use rfl (cK.2.2.2.2.2.2.2.2.1.1 _ lk)⟩
    · rcases List.mem_cons.mp hw with rfl | hw
      · exact GW_bef hW hcode (ct _ hcode)
      · exact GW_bef hW hw (ct _ hw)
    · rw [← ew]; exact ct _ hcode
    · rw [h] at har
      exact (Option.some.inj har).symm
  rw [hr] at hcn
  have hrun := vx_runIN (s := s) (R := R) (args := args) (H := H) (locs := locs) (cells := cells) (slots := slots) (below := below) (meth := meth) (e := e) (b := rho G a) (As := []) (rest := st.map (cv G)) (g := F0 m pc la ((vr a :: st).map (cv G))) (Ts := GW)
    ⟨cx, cb, cml, co, ct⟩ (E cst) ⟨hcn, mi.2.2, ct _ mi.2.1⟩ ⟨PcG_blind, PcG_at C hw hS _ _ rfl⟩ rfl rfl (by show la.size = _; rw [hl.1]) rfl (lv_room (by rw [List.map_map]; exact hsum)) dec ⟨by omega, by omega⟩
  refine run_go hrun hS (fun v nx' w' H1 locs1 k1 k2 k3 => ?_) (fun k nx' w' H1 locs1 ce q k1 k2 k3 g1 g2 g3 => k1.elim)
  have k4 := k1 p e R s m args below meth c Q H1 locs1 (cells + bc') (slots + bs') la C EK EX hl k2 k3 (by omega) (by omega)
  unfold rvl
  rw [hr]
  exact k4
theorem Go_gfR {a b ci k idx : Nat} (dec : decode cc pc = .ok (.getfield idx, 3)) (f : FL mt.2.1 idx ci k) (hs : SH a = (1, ci)) (hx : a < n) (hk : (ftl ci)[k]? = some true) (hb : w a k = (b : Int)) (hb0 : b ≠ 0) (kk : Go G cc mt (some n) d bc bs (pc + 3) ls (vr b :: st) w K X) : Go G cc mt (some n) d bc bs pc ls (vr a :: st) w K X := Go_gfr dec f hs hx hk hb hb0 kk
end CtorRules
/-- all is made: what leads where stays so -/
def allR (w : Wd) : Prop := (∀ a ci k, SH a = (1, ci) → (ftl ci)[k]? = some true → w a k = (RF a k : Int)) ∧ ∀ a N j, SH a = (6, N) → j < N → w a j = (RF a j : Int)
theorem arrV_eq {c : ClassId} {N : Nat} {f g : Nat → Value} (h : ∀ j, j < N → f j = g j) : arrV c N f = arrV c N g := by
  show ({ cls := c, slots := Array.ofFn (n := N) fun i => f i, vm := .none } : Cell) = { cls := c, slots := Array.ofFn (n := N) fun i => g i, vm := .none }
  congr 1
  congr 1
  funext i
  exact h i i.2
theorem wholds_all {G : Gm} {w : Wd} {H : Heap} (hr : allR w) (hw : wholds G (some 70) w H) : wholds G none w H := by
  refine ⟨fun k q hk => ?_, fun n hn => by cases hn⟩
  obtain ⟨hl, rfl⟩ := wl_inv G _ hk
  have hl : k < 69 := hl
  have h0 := hw.1 k _ (by have := wl_at G (nx := some 70) w (a := k + 1) (by omega) (show k + 1 - 1 < 69 by omega); rw [show k + 1 - 1 = k by omega] at this; exact this)
  generalize k + 1 = a at h0 ⊢
  obtain ⟨c, N, hs⟩ : ∃ c N, SH a = (c, N) := ⟨_, _, rfl⟩
  by_cases c1 : c = 1
  · subst c1
    rw [cont_1 hs] at h0 ⊢
    have e : flds G none w a N = flds G (some 70) w a N := by
      unfold flds
      refine List.ext_getElem? (fun j => ?_)
      rw [List.getElem?_mapIdx, List.getElem?_mapIdx]
      cases hb : (ftl N)[j]? with
      | none => rfl
      | some b =>
        cases b with
        | false => rfl
        | true =>
          show some (fldv G true (RF a j : Int)) = some (fldv G true (w a j))
          rw [hr.1 a N j hs hb]
    rw [e]
    exact h0
  · by_cases c6 : c = 6
    · subst c6
      rw [cont_6 hs] at h0 ⊢
      show H[_]? = some (vp_cell _ _)
      have h1 : H[rho G a]? = some (vp_cell (Gc G 6) (N, .inr (.inr (.inr (.inr (fun j => rfo G (rv (some 70) w a j))))))) := h0
      rw [h1, vp_cell_q, vp_cell_q]
      congr 1
      refine arrV_eq (fun j hj => ?_)
      show va_rf (rfo G (w a j)) = va_rf (rfo G (RF a j : Int))
      rw [hr.2 a N j hs hj]
    · have e : cont G none w a = cont G (some 70) w a := by
        unfold cont
        rw [hs]
        rcases c with _ | _ | _ | _ | _ | _ | _ | _ | _ | c
        · rfl
        · exact absurd rfl c1
        · rfl
        · rfl
        · rfl
        · rfl
        · exact absurd rfl c6
        · rfl
        · rfl
        · rfl
      rw [e]
      exact h0
theorem Go_all {G : Gm} {cc : ByteArray} {mt : Mt} {d bc bs pc : Nat} {ls : List (Option Vl)} {st : List Vl} {w : Wd} {K : Kt} {X : Xt} (hr : allR w) (k : Go G cc mt none d bc bs pc ls st w K X) : Go G cc mt (some 70) d bc bs pc ls st w K X := by
  intro p e R s m args below meth c Q H locs cells slots la C EK EX hl hw hS h1 h2
  exact k p e R s m args below meth c Q H locs cells slots la C EK EX hl (wholds_all hr hw) hS h1 h2
/-- what is set so far -/
def RT (a k : Nat) : Nat := if a = 3 then 6 + 2 * k else RF a k
def STG (L : List (Nat × Nat)) (nb : Bool) (w : Wd) : Prop := (∀ q ∈ L, w q.1 q.2 = (RT q.1 q.2 : Int)) ∧ (∀ a k, (a, k) ∉ L → (nb = true → a ≠ 4 ∧ a ≠ 5) → w a k = 0) ∧ (nb = true → ∀ t, t < 100 → w 4 t = -1 ∧ w 5 t = -1)
def w00 : Wd := fun _ _ => 0
theorem STG.nil : STG [] false w00 := ⟨fun q hq => by simp at hq, fun _ _ _ _ => rfl, fun h => by cases h⟩
theorem STG.set_ {L : List (Nat × Nat)} {nb : Bool} {w : Wd} {a k b : Nat} (h : STG L nb w) (e : b = RT a k) (h45 : a ≠ 4 ∧ a ≠ 5) : STG ((a, k) :: L) nb (up w a k (b : Int)) := by
  obtain ⟨h1, h2, h3⟩ := h
  refine ⟨fun q hq => ?_, fun a' k' hn hb => ?_, fun hb t ht => ?_⟩
  · by_cases c : q.1 = a ∧ q.2 = k
    · rw [c.1, c.2, up_s, e]
    · rcases List.mem_cons.mp hq with q1 | q1
      · rw [q1] at c; exact absurd ⟨rfl, rfl⟩ c
      · rw [← h1 q q1]
        by_cases c1 : q.1 = a
        · rw [c1, up_k (fun z => c ⟨c1, z⟩)]
        · rw [up_a c1]
  · have hn1 : ¬ (a' = a ∧ k' = k) := fun z => hn (by rw [z.1, z.2]; exact List.mem_cons_self)
    have := h2 a' k' (fun z => hn (List.mem_cons_of_mem _ z)) hb
    by_cases c1 : a' = a
    · rw [c1, up_k (fun z => hn1 ⟨c1, z⟩), ← c1]; exact this
    · rw [up_a c1]; exact this
  · rw [up_a (fun z => h45.1 z.symm), up_a (fun z => h45.2 z.symm)]; exact h3 hb t ht
theorem STG.set0 {L : List (Nat × Nat)} {nb : Bool} {w : Wd} {a k : Nat} (h : STG L nb w) (hn : (a, k) ∉ L) (h45 : a ≠ 4 ∧ a ≠ 5) : STG L nb (up w a k 0) := by
  obtain ⟨h1, h2, h3⟩ := h
  refine ⟨fun q hq => ?_, fun a' k' hn' hb => ?_, fun hb t ht => ?_⟩
  · have c : ¬ (q.1 = a ∧ q.2 = k) := fun z => hn (by rw [← z.1, ← z.2]; exact hq)
    rw [← h1 q hq]
    by_cases c1 : q.1 = a
    · rw [c1, up_k (fun z => c ⟨c1, z⟩)]
    · rw [up_a c1]
  · by_cases c1 : a' = a ∧ k' = k
    · rw [c1.1, c1.2, up_s]
    · have := h2 a' k' hn' hb
      by_cases c2 : a' = a
      · rw [c2, up_k (fun z => c1 ⟨c2, z⟩), ← c2]; exact this
      · rw [up_a c2]; exact this
  · rw [up_a (fun z => h45.1 z.symm), up_a (fun z => h45.2 z.symm)]; exact h3 hb t ht
/-- nothing is known of the later cells yet -/
theorem STG.zero {L : List (Nat × Nat)} {nb : Bool} {w : Wd} (h : STG L nb w) (n : Nat) (hL : (L.all fun q => decide (q.1 ≠ n)) = true) (hb : nb = true → n ≠ 4 ∧ n ≠ 5) : ∀ k, w n k = 0 := fun k => h.2.1 n k (fun z => by have := List.all_eq_true.mp hL _ z; rw [decide_eq_true_eq] at this; exact this rfl) hb
theorem STG.fill {L : List (Nat × Nat)} {w w' : Wd} (h : STG L false w) (f : frm w w' [4, 5]) (hL : (L.all fun q => decide (q.1 ≠ 4 ∧ q.1 ≠ 5)) = true) (hn : ∀ t, t < 100 → w' 4 t = -1 ∧ w' 5 t = -1) : STG L true w' := by
  refine ⟨fun q hq => ?_, fun a k h1 h2 => ?_, fun _ => hn⟩
  · have := List.all_eq_true.mp hL _ hq
    rw [decide_eq_true_eq] at this
    rw [f q.1 (by simp; omega)]
    exact h.1 q hq
  · have := h2 rfl
    rw [f a (by simp; omega)]
    exact h.2.1 a k h1 (fun z => by cases z)
