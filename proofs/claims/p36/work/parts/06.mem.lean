section GoMem
variable {G : Gm} {cc : ByteArray} {mt : Mt} {nx : Option Nat} {d bc bs pc : Nat} {ls : List (Option Vl)} {st : List Vl} {w : Wd} {K : Kt} {X : Xt}
/-- a value of one slot, or none known -/
def c1 : Option Vl → Bool
  | some (.inr (.inr (.inl _))) => false
  | some (.inr (.inr (.inr (.inl _)))) => false
  | _ => true
theorem lsOK_list {G : Gm} {la : Array Slot} {ls : List (Option Vl)} (h : lsOK G la ls) : lv_has la ls.length ((List.range ls.length).filterMap fun i => (ls.getD i none).map fun v => (i, cv G v)) := by
  refine ⟨h.1, h.2.1, fun q hq => ?_⟩
  obtain ⟨i, hi, hv⟩ := List.mem_filterMap.mp hq
  cases hg : ls.getD i none with
  | none => rw [hg] at hv; cases hv
  | some v =>
    rw [hg] at hv
    cases hv
    refine h.2.2 i v ?_
    rw [List.getD_eq_getElem?_getD] at hg
    cases hx : ls[i]? with
    | none => rw [hx] at hg; cases hg
    | some y => rw [hx] at hg; exact congrArg some hg
theorem cv_cat1 {G : Gm} {v : Vl} (h : c1 (some v) = true) : (cv G v).category = 1 := by
  match v with
  | .inl z => rfl
  | .inr (.inl a) => rfl
  | .inr (.inr (.inr (.inr (.inl x)))) => rfl
  | .inr (.inr (.inr (.inr (.inr _)))) =>
    show (va_rf (Gn G)).category = 1
    cases Gn G <;> rfl
  | .inr (.inr (.inl z)) => cases h
  | .inr (.inr (.inr (.inl z))) => cases h
/-- one local of one slot is stored -/
theorem lsOK_store {G : Gm} {la : Array Slot} {ls : List (Option Vl)} {i : Nat} {v : Vl} (h : lsOK G la ls) (hi : i < ls.length) (hv : c1 (some v) = true) (hp : ∀ j : Nat, j + 1 = i → c1 (ls.getD j none) = true) :
    ∀ la' : Array Slot, lv_has la' ls.length ((i, cv G v) :: ((List.range ls.length).filterMap fun i => (ls.getD i none).map fun v => (i, cv G v)).filter (fun q => !(q.1 == i) && !(q.1 + 1 == i && q.2.category == 2))) → lsOK G la' (ls.set i (some v)) := by
  intro la' hl
  refine ⟨by rw [List.length_set]; exact hl.1, hl.2.1, fun j x hj => ?_⟩
  by_cases hji : j = i
  · subst hji
    rw [List.getElem?_set_self hi] at hj
    cases hj
    exact hl.2.2 _ List.mem_cons_self
  · rw [List.getElem?_set_ne (Ne.symm hji)] at hj
    have hjl : j < ls.length := (List.getElem?_eq_some_iff.mp hj).1
    refine hl.2.2 (j, cv G x) (List.mem_cons_of_mem _ (List.mem_filter.mpr ⟨List.mem_filterMap.mpr ⟨j, List.mem_range.mpr hjl, ?_⟩, ?_⟩))
    · rw [List.getD_eq_getElem?_getD, hj]
      rfl
    · simp only [Bool.and_eq_true, Bool.not_eq_true', beq_eq_false_iff_ne, ne_eq, Bool.and_eq_false_iff]
      refine ⟨hji, ?_⟩
      by_cases h1 : j + 1 = i
      · right
        have := hp j h1
        rw [List.getD_eq_getElem?_getD, hj] at this
        rw [cv_cat1 this]
        decide
      · exact Or.inl h1
theorem Go_istore_n {j : Fin 4} {i : Nat} {z : Int} {ls' : List (Option Vl)} (dec : decode cc pc = .ok (.istore_n j, 1)) (hi : (j : Nat) = i) (hl' : ls.set i (some (vi z)) = ls') (hn : i < ls.length) (hp : ∀ j : Nat, j + 1 = i → c1 (ls.getD j none) = true) (k : Go G cc mt nx d bc bs (pc + 1) ls' st w K X) : Go G cc mt nx d bc bs pc ls (vi z :: st) w K X := by
  intro p e R s m args below meth c Q H locs cells slots la C EK EX hl hw hS h1 h2
  subst hl'
  refine lv_istore_n C.1 C.2.1 dec hi (lsOK_list hl) hn rfl (fun la' hla => ?_)
  have hk := lsOK_store (v := vi z) hl hn rfl hp la' hla
  exact k p e R s m args below meth c Q H locs cells slots la' (by rw [List.length_set]; exact C) EK EX hk hw hS h1 h2
theorem Go_istore {i : Nat} {z : Int} {ls' : List (Option Vl)} (dec : decode cc pc = .ok (.istore i, 2)) (hl' : ls.set i (some (vi z)) = ls') (hn : i < ls.length) (hp : ∀ j : Nat, j + 1 = i → c1 (ls.getD j none) = true) (k : Go G cc mt nx d bc bs (pc + 2) ls' st w K X) : Go G cc mt nx d bc bs pc ls (vi z :: st) w K X := by
  intro p e R s m args below meth c Q H locs cells slots la C EK EX hl hw hS h1 h2
  subst hl'
  refine lv_istore C.1 C.2.1 dec (lsOK_list hl) hn rfl (fun la' hla => ?_)
  have hk := lsOK_store (v := vi z) hl hn rfl hp la' hla
  exact k p e R s m args below meth c Q H locs cells slots la' (by rw [List.length_set]; exact C) EK EX hk hw hS h1 h2
theorem Go_astore_n {j : Fin 4} {i a : Nat} {ls' : List (Option Vl)} (dec : decode cc pc = .ok (.astore_n j, 1)) (hi : (j : Nat) = i) (hl' : ls.set i (some (vr a)) = ls') (hn : i < ls.length) (hp : ∀ j : Nat, j + 1 = i → c1 (ls.getD j none) = true) (k : Go G cc mt nx d bc bs (pc + 1) ls' st w K X) : Go G cc mt nx d bc bs pc ls (vr a :: st) w K X := by
  intro p e R s m args below meth c Q H locs cells slots la C EK EX hl hw hS h1 h2
  subst hl'
  refine lv_astore_n C.1 C.2.1 dec hi (lsOK_list hl) hn rfl (fun la' hla => ?_)
  have hk := lsOK_store (v := vr a) hl hn rfl hp la' hla
  exact k p e R s m args below meth c Q H locs cells slots la' (by rw [List.length_set]; exact C) EK EX hk hw hS h1 h2
theorem Go_astore {i a : Nat} {ls' : List (Option Vl)} (dec : decode cc pc = .ok (.astore i, 2)) (hl' : ls.set i (some (vr a)) = ls') (hn : i < ls.length) (hp : ∀ j : Nat, j + 1 = i → c1 (ls.getD j none) = true) (k : Go G cc mt nx d bc bs (pc + 2) ls' st w K X) : Go G cc mt nx d bc bs pc ls (vr a :: st) w K X := by
  intro p e R s m args below meth c Q H locs cells slots la C EK EX hl hw hS h1 h2
  subst hl'
  refine lv_astore C.1 C.2.1 dec (lsOK_list hl) hn rfl (fun la' hla => ?_)
  have hk := lsOK_store (v := vr a) hl hn rfl hp la' hla
  exact k p e R s m args below meth c Q H locs cells slots la' (by rw [List.length_set]; exact C) EK EX hk hw hS h1 h2
/-- the place of a local among the listed ones -/
theorem lsOK_place {G : Gm} {la : Array Slot} {ls : List (Option Vl)} {i : Nat} {v : Vl} (h : ls[i]? = some (some v)) : ∃ k : Nat, ((List.range ls.length).filterMap fun i => (ls.getD i none).map fun v => (i, cv G v))[k]? = some (i, cv G v) := by
  have hi : i < ls.length := (List.getElem?_eq_some_iff.mp h).1
  refine List.getElem?_of_mem (List.mem_filterMap.mpr ⟨i, List.mem_range.mpr hi, ?_⟩)
  rw [List.getD_eq_getElem?_getD, h]
  rfl
theorem Go_iinc {i : Nat} {n z : Int} {ls' : List (Option Vl)} (dec : decode cc pc = .ok (.iinc i n, 3)) (h : ls[i]? = some (some (vi z))) (hl' : ls.set i (some (vi (z + n))) = ls') (hp : ∀ j : Nat, j + 1 = i → c1 (ls.getD j none) = true) (k : Go G cc mt nx d bc bs (pc + 3) ls' st w K X) : Go G cc mt nx d bc bs pc ls st w K X := by
  intro p e R s m args below meth c Q H locs cells slots la C EK EX hl hw hS h1 h2
  subst hl'
  have hn : i < ls.length := (List.getElem?_eq_some_iff.mp h).1
  obtain ⟨k0, hk0⟩ := lsOK_place (G := G) (la := la) h
  refine lv_iinc (v := Int32.ofInt (z + n)) C.1 C.2.1 dec (lsOK_list hl) hk0 (by rw [← Int32.ofInt_add]) hn rfl (fun la' hla => ?_)
  have hk := lsOK_store (v := vi (z + n)) hl hn rfl hp la' hla
  exact k p e R s m args below meth c Q H locs cells slots la' (by rw [List.length_set]; exact C) EK EX hk hw hS h1 h2
theorem cont_1 {G : Gm} {nx : Option Nat} {w : Wd} {a ci : Nat} (h : SH a = (1, ci)) : cont G nx w a = .inr (ci, flds G nx w a ci) := by unfold cont; rw [h]; rfl
theorem cont_2 {G : Gm} {nx : Option Nat} {w : Wd} {a n : Nat} (h : SH a = (2, n)) : cont G nx w a = .inl (Gc G 2, n, .inl (fun j => Int32.ofInt (w a j))) := by unfold cont; rw [h]; rfl
theorem cont_3 {G : Gm} {nx : Option Nat} {w : Wd} {a n : Nat} (h : SH a = (3, n)) : cont G nx w a = .inl (Gc G 3, n, .inl (fun j => Int32.ofInt (w a j))) := by unfold cont; rw [h]; rfl
theorem cont_4 {G : Gm} {nx : Option Nat} {w : Wd} {a n : Nat} (h : SH a = (4, n)) : cont G nx w a = .inl (Gc G 4, n, .inl (fun j => Int32.ofInt (w a j))) := by unfold cont; rw [h]; rfl
theorem cont_5 {G : Gm} {nx : Option Nat} {w : Wd} {a n : Nat} (h : SH a = (5, n)) : cont G nx w a = .inl (Gc G 5, n, .inr (.inr (.inr (.inr (fun j => rfo G (w a j)))))) := by unfold cont; rw [h]; rfl
theorem cont_6 {G : Gm} {nx : Option Nat} {w : Wd} {a n : Nat} (h : SH a = (6, n)) : cont G nx w a = .inl (Gc G 6, n, .inr (.inr (.inr (.inr (fun j => rfo G (rv nx w a j)))))) := by unfold cont; rw [h]; rfl
theorem cont_7 {G : Gm} {nx : Option Nat} {w : Wd} {a n : Nat} (h : SH a = (7, n)) : cont G nx w a = .inl (Gc G 7, n, .inr (.inl (fun j => Int64.ofInt (w a j)))) := by unfold cont; rw [h]; rfl
theorem cont_8 {G : Gm} {nx : Option Nat} {w : Wd} {a n : Nat} (h : SH a = (8, n)) : cont G nx w a = .inl (Gc G 8, n, .inr (.inr (.inr (.inl (fun j => UInt64.ofNat (w a j).toNat))))) := by unfold cont; rw [h]; rfl
theorem rv_up {nx : Option Nat} {w : Wd} {a k : Nat} {z : Int} {b j : Nat} (h : b ≠ a) : rv nx (up w a k z) b j = rv nx w b j := by
  cases nx with
  | none => rfl
  | some n => exact up_a h
theorem cont_up {G : Gm} {nx : Option Nat} {w : Wd} {a k : Nat} {z : Int} {b : Nat} (h : b ≠ a) : cont G nx (up w a k z) b = cont G nx w b := by
  unfold cont flds
  simp only [up_a h, rv_up h]
/-- the world at a cell -/
theorem wl_e (G : Gm) {nx : Option Nat} (w : Wd) {a k n : Nat} {E : va_E} (hs : SH a = (k, n)) (hk : k ≠ 0) (hx : okx nx a) (he : cont G nx w a = E) : (wl G nx w)[a - 1]? = some (rho G a, E) := by
  rw [← he]
  exact wl_at G w (okx_cnt hs hk hx).1 (okx_cnt hs hk hx).2
theorem wl_inv (G : Gm) {nx : Option Nat} (w : Wd) {k : Nat} {q : Nat × va_E} (h : (wl G nx w)[k]? = some q) : k < cnt nx ∧ q = (rho G (k + 1), cont G nx w (k + 1)) := by
  have hl : k < cnt nx := by rw [← wl_len G nx w]; exact (List.getElem?_eq_some_iff.mp h).1
  refine ⟨hl, ?_⟩
  have h2 := wl_at G (nx := nx) w (a := k + 1) (by omega) (by omega)
  rw [show k + 1 - 1 = k by omega, h] at h2
  exact Option.some.inj h2
theorem rho_ne (G : Gm) {a b : Nat} (ha : a ≤ NA) (hb : b ≤ NA) (ha1 : 1 ≤ a) (hb1 : 1 ≤ b) (h : a ≠ b) : rho G a ≠ rho G b := by
  rw [rho_own G ha, rho_own G hb]
  omega
theorem wholds_put {G : Gm} {nx : Option Nat} {w : Wd} {H H1 : Heap} {a i k n : Nat} {z : Int} (hs : SH a = (k, n)) (hk : k ≠ 0) (hw : wholds G nx w H) (hz : H1.size = H.size) (oq : ∀ q, q ≠ rho G a → H1[q]? = H[q]?) (hat : va_at (GD G) vwCl (rho G a, cont G nx (up w a i z) a) H1) : wholds G nx (up w a i z) H1 := by
  refine ⟨fun j q hj => ?_, fun n hn => by rw [hz]; exact hw.2 n hn⟩
  obtain ⟨hl, rfl⟩ := wl_inv G _ hj
  have hc := wholds_cnt hw
  have hsl := SH_lt hs hk
  by_cases hja : j + 1 = a
  · rw [hja]; exact hat
  · rw [cont_up hja]
    have h0 := hw.1 j _ (by have := wl_at G (nx := nx) w (a := j + 1) (by omega) (by omega); rw [show j + 1 - 1 = j by omega] at this; exact this)
    exact h0.kept (oq _ (rho_ne G (by omega) hsl.2 (by omega) hsl.1 hja))
theorem own_in {G : Gm} {a k n : Nat} (hs : SH a = (k, n)) (hk : k ≠ 0) : ownA G (rho G a) := by
  rw [rho_own G (SH_lt hs hk).2]
  show Gb G ≤ _
  omega
theorem Go_gfi {a ci k idx : Nat} (dec : decode cc pc = .ok (.getfield idx, 3)) (f : FL mt.2.1 idx ci k) (hs : SH a = (1, ci)) (hx : okx nx a) (hk : (ftl ci)[k]? = some false) (kk : Go G cc mt nx d bc bs (pc + 3) ls (vi (w a k) :: st) w K X) : Go G cc mt nx d bc bs pc ls (vr a :: st) w K X := by
  intro p e R s m args below meth c Q H locs cells slots la C EK EX hl hw hS h1 h2
  obtain ⟨⟨r0, ty, hr0, hin, -, -⟩, r, hr, hlt, hsame, hfl⟩ := f
  obtain ⟨cx, cb, -, co, ct, -, -, -, -, -, cK, -⟩ := id C
  cases hr0.symm.trans hr
  have hat := wl_e G w hs (by decide) hx (cont_1 hs)
  refine va_get (ref := r0.1) (v := .int (Int32.ofInt (w a k))) cx cb ct hin co cK.1 hw.1 (a - 1) hat hr k hlt (ct _ hfl) (fun x h => by rw [← hsame]; exact h) ?_ dec (kk p e R s m args below meth c Q H locs cells slots la C EK EX hl hw hS h1 h2)
  unfold flds
  rw [List.getElem?_mapIdx, hk]
  rfl
theorem Go_gfr {a b ci k idx : Nat} (dec : decode cc pc = .ok (.getfield idx, 3)) (f : FL mt.2.1 idx ci k) (hs : SH a = (1, ci)) (hx : okx nx a) (hk : (ftl ci)[k]? = some true) (hb : rv nx w a k = (b : Int)) (hb0 : b ≠ 0) (kk : Go G cc mt nx d bc bs (pc + 3) ls (vr b :: st) w K X) : Go G cc mt nx d bc bs pc ls (vr a :: st) w K X := by
  intro p e R s m args below meth c Q H locs cells slots la C EK EX hl hw hS h1 h2
  obtain ⟨⟨r0, ty, hr0, hin, -, -⟩, r, hr, hlt, hsame, hfl⟩ := f
  obtain ⟨cx, cb, -, co, ct, -, -, -, -, -, cK, -⟩ := id C
  cases hr0.symm.trans hr
  have hat := wl_e G w hs (by decide) hx (cont_1 hs)
  refine va_get (ref := r0.1) (v := .ref (rho G b)) cx cb ct hin co cK.1 hw.1 (a - 1) hat hr k hlt (ct _ hfl) (fun x h => by rw [← hsame]; exact h) ?_ dec (kk p e R s m args below meth c Q H locs cells slots la C EK EX hl hw hS h1 h2)
  unfold flds
  rw [List.getElem?_mapIdx, hk]
  have hne : ¬ ((b : Int) = 0) := by omega
  simp [fldv, rfo, hb, hb0, va_rf]
theorem flds_at {G : Gm} {nx : Option Nat} {w : Wd} {a ci k : Nat} {z : Int} {b : Bool} (hk : (ftl ci)[k]? = some b) (j : Nat) : vp_V (flds G nx (up w a k z) a ci) j = updV (vp_V (flds G nx w a ci)) k (fldv G b (if b then rv nx (up w a k z) a k else z)) j := by
  have hlt : k < (ftl ci).length := (List.getElem?_eq_some_iff.mp hk).1
  unfold vp_V updV
  by_cases hj : j = k
  · subst hj
    rw [if_pos rfl]
    unfold flds
    rw [List.getD_eq_getElem?_getD, List.getElem?_mapIdx, hk]
    simp [up_s]
  · rw [if_neg hj]
    have e1 : up w a k z a j = w a j := up_k hj
    have e2 : rv nx (up w a k z) a j = rv nx w a j := by
      cases nx with
      | none => rfl
      | some n => exact e1
    show (flds G nx (up w a k z) a ci).getD j .null = (flds G nx w a ci).getD j .null
    unfold flds
    simp only [List.getD_eq_getElem?_getD, List.getElem?_mapIdx, e1, e2]
theorem Go_pfi {a ci k idx : Nat} {z : Int} (dec : decode cc pc = .ok (.putfield idx, 3)) (f : FL mt.2.1 idx ci k) (hs : SH a = (1, ci)) (hx : okx nx a) (hk : (ftl ci)[k]? = some false) (hty : ∀ r : vw_C, vwCl[ci]? = some r → (r.2.1 k).2.2.1 = "I" ∧ (r.2.1 k).2.2.2 = false) (kk : Go G cc mt nx d bc bs (pc + 3) ls st (up w a k z) K X) : Go G cc mt nx d bc bs pc ls (vi z :: vr a :: st) w K X := by
  intro p e R s m args below meth c Q H locs cells slots la C EK EX hl hw hS h1 h2
  obtain ⟨⟨r0, ty, hr0, hin, htyok, hnm⟩, r, hr, hlt, hsame, hfl⟩ := f
  obtain ⟨cx, cb, -, co, ct, -, -, -, -, -, cK, -⟩ := id C
  cases hr0.symm.trans hr
  have hat := hw.1 _ _ (wl_e G w hs (by decide) hx (cont_1 hs))
  obtain ⟨hI, hF⟩ := hty _ hr
  have hap := va_apart (own := mt.2.1) ct hin ty htyok hnm cK.1 hr
  obtain ⟨r1, e1, cell, q1, q2, q3, q4⟩ := hat
  cases e1.symm.trans hr
  obtain ⟨hSl, hfc, kC, hkC, hkind⟩ := cK.1.1 ci _ hr
  obtain ⟨cf, kf, fi, f, hi, hsl⟩ := hSl k hlt
  have hlay := ct _ (hin _ (u_in_lay hlt))
  unfold u_lay at hlay
  rw [if_neg (by rw [hF]; decide)] at hlay
  have hst := (u_facts hfc hkC (u_lays ct hin hlt) hi).1
  have h6 := u_store (v := .int (Int32.ofInt z)) (ty := .int) hfc hkC hkind hlay hi (by rw [hI]; decide) rfl rfl
  refine W.putK (ref := r0.1) cx cb (f := f) ⟨co, ct _ hfl, ⟨_, _, _, (by rw [← hsame]; exact hi)⟩, hst⟩ (by rw [q2]; exact h6) q1 q3 (by rw [hsl]; exact k2_hasslot (q4 k hlt)) rfl rfl dec fun H' g1 g2 g3 => ?_
  rw [hsl] at g1 ⊢
  refine kk p e R s m args below meth c Q H' _ cells slots la C EK EX hl (wholds_put hs (by decide) hw g2 g3 ?_) (hS.put g2 g3 (own_in hs (by decide))) h1 h2
  rw [cont_1 hs]
  exact ⟨_, hr, t_OB.to (V := updV (vp_V (flds G nx w a ci)) k (.int (Int32.ofInt z))) ⟨_, g1, q2, q3, t_set q4 hap hlt _⟩ (fun j _ => (flds_at (b := false) hk j).symm)⟩
theorem KS_ty {G : Gm} {U : State} {H : Heap} (h : KS G U H) (k : Nat) {cA : ClassId} {ty : FieldType} (e : (tyl G)[k]? = some (cA, ty)) (n : Nat) (z : Nat → Value) : U.isArrayOf (arrV cA n z) ty := (h.1.2 k _ e).1 n z
theorem Go_iald {a n : Nat} {z : Int} (dec : decode cc pc = .ok (.iaload, 1)) (hs : SH a = (2, n)) (hx : okx nx a) (hz0 : 0 ≤ z) (hz : z < n) (hn : n < 2147483648) (kk : Go G cc mt nx d bc bs (pc + 1) ls (vi (w a z.toNat) :: st) w K X) : Go G cc mt nx d bc bs pc ls (vi z :: vr a :: st) w K X := by
  intro p e R s m args below meth c Q H locs cells slots la C EK EX hl hw hS h1 h2
  obtain ⟨cx, cb, -, co, ct, -, -, -, -, -, cK, -⟩ := id C
  obtain ⟨i1, i2⟩ := iI_in hz0 hz hn
  refine va_iald cx cb cK.1 hw.1 (a - 1) 0 (wl_e G w hs (by decide) hx (cont_2 hs)) rfl i1 dec ?_
  rw [i2]
  exact kk p e R s m args below meth c Q H locs cells slots la C EK EX hl hw hS h1 h2
theorem Go_cald {a n : Nat} {z : Int} (dec : decode cc pc = .ok (.caload, 1)) (hs : SH a = (3, n)) (hx : okx nx a) (hz0 : 0 ≤ z) (hz : z < n) (hn : n < 2147483648) (kk : Go G cc mt nx d bc bs (pc + 1) ls (vi (w a z.toNat) :: st) w K X) : Go G cc mt nx d bc bs pc ls (vi z :: vr a :: st) w K X := by
  intro p e R s m args below meth c Q H locs cells slots la C EK EX hl hw hS h1 h2
  obtain ⟨cx, cb, -, co, ct, -, -, -, -, -, cK, -⟩ := id C
  obtain ⟨i1, i2⟩ := iI_in hz0 hz hn
  refine va_cald cx cb cK.1 hw.1 (a - 1) 1 (wl_e G w hs (by decide) hx (cont_3 hs)) rfl i1 dec ?_
  rw [i2]
  exact kk p e R s m args below meth c Q H locs cells slots la C EK EX hl hw hS h1 h2
theorem Go_zald {a n : Nat} {z : Int} (dec : decode cc pc = .ok (.baload, 1)) (hs : SH a = (4, n)) (hx : okx nx a) (hz0 : 0 ≤ z) (hz : z < n) (hn : n < 2147483648) (kk : Go G cc mt nx d bc bs (pc + 1) ls (vi (w a z.toNat) :: st) w K X) : Go G cc mt nx d bc bs pc ls (vi z :: vr a :: st) w K X := by
  intro p e R s m args below meth c Q H locs cells slots la C EK EX hl hw hS h1 h2
  obtain ⟨cx, cb, -, co, ct, -, -, -, -, -, cK, -⟩ := id C
  obtain ⟨i1, i2⟩ := iI_in hz0 hz hn
  refine va_zald cx cb cK.1 hw.1 (a - 1) 2 (wl_e G w hs (by decide) hx (cont_4 hs)) rfl i1 dec ?_
  rw [i2]
  exact kk p e R s m args below meth c Q H locs cells slots la C EK EX hl hw hS h1 h2
/-- an array of trails: its elements move -/
theorem Go_aald5 {a b n : Nat} {z : Int} (dec : decode cc pc = .ok (.aaload, 1)) (hs : SH a = (5, n)) (hx : okx nx a) (hz0 : 0 ≤ z) (hz : z < n) (hn : n < 2147483648) (hb : w a z.toNat = (b : Int)) (hb0 : b ≠ 0) (kk : Go G cc mt nx d bc bs (pc + 1) ls (vr b :: st) w K X) : Go G cc mt nx d bc bs pc ls (vi z :: vr a :: st) w K X := by
  intro p e R s m args below meth c Q H locs cells slots la C EK EX hl hw hS h1 h2
  obtain ⟨cx, cb, -, co, ct, -, -, -, -, -, cK, -⟩ := id C
  obtain ⟨i1, i2⟩ := iI_in hz0 hz hn
  refine va_aldq cx cb cK.1 hw.1 (a - 1) 3 (wl_e G w hs (by decide) hx (cont_5 hs)) rfl i1 dec ?_
  have e9 : va_rf (rfo G (w a z.toNat)) = .ref (rho G b) := by
    have hne : ¬ ((b : Int) = 0) := by omega
    simp [rfo, hb, hb0, va_rf]
  rw [i2, e9]
  exact kk p e R s m args below meth c Q H locs cells slots la C EK EX hl hw hS h1 h2
theorem Go_aald6 {a b n : Nat} {z : Int} (dec : decode cc pc = .ok (.aaload, 1)) (hs : SH a = (6, n)) (hx : okx nx a) (hz0 : 0 ≤ z) (hz : z < n) (hn : n < 2147483648) (hb : rv nx w a z.toNat = (b : Int)) (hb0 : b ≠ 0) (kk : Go G cc mt nx d bc bs (pc + 1) ls (vr b :: st) w K X) : Go G cc mt nx d bc bs pc ls (vi z :: vr a :: st) w K X := by
  intro p e R s m args below meth c Q H locs cells slots la C EK EX hl hw hS h1 h2
  obtain ⟨cx, cb, -, co, ct, -, -, -, -, -, cK, -⟩ := id C
  obtain ⟨i1, i2⟩ := iI_in hz0 hz hn
  refine va_aldq cx cb cK.1 hw.1 (a - 1) 4 (wl_e G w hs (by decide) hx (cont_6 hs)) rfl i1 dec ?_
  have e9 : va_rf (rfo G (rv nx w a z.toNat)) = .ref (rho G b) := by
    have hne : ¬ ((b : Int) = 0) := by omega
    simp [rfo, hb, hb0, va_rf]
  rw [i2, e9]
  exact kk p e R s m args below meth c Q H locs cells slots la C EK EX hl hw hS h1 h2
theorem Go_iast {a n : Nat} {x z : Int} (dec : decode cc pc = .ok (.iastore, 1)) (hs : SH a = (2, n)) (hx : okx nx a) (hz0 : 0 ≤ z) (hz : z < n) (hn : n < 2147483648) (kk : Go G cc mt nx d bc bs (pc + 1) ls st (up w a z.toNat x) K X) : Go G cc mt nx d bc bs pc ls (vi x :: vi z :: vr a :: st) w K X := by
  intro p e R s m args below meth c Q H locs cells slots la C EK EX hl hw hS h1 h2
  obtain ⟨cx, cb, -, co, ct, -, -, -, -, -, cK, -⟩ := id C
  obtain ⟨i1, i2⟩ := iI_in hz0 hz hn
  refine W.iast cx cb (hw.1 _ _ (wl_e G w hs (by decide) hx (cont_2 hs))) (KS_ty cK 0 rfl n _) (fun q => by cases q) (by show ¬ (_ < 0 ∨ (arrV _ _ _).slots.size ≤ _); rw [arrV_size]; exact i1) rfl rfl dec fun H1 g1 g2 g3 => ?_
  refine kk p e R s m args below meth c Q H1 _ cells slots la C EK EX hl (wholds_put hs (by decide) hw g2 g3 ?_) (hS.put g2 g3 (own_in hs (by decide))) h1 h2
  rw [cont_2 hs]
  show H1[_]? = some (vp_cell _ _)
  rw [g1, i2, vp_cell_i, vp_cell_i, arrV_store]
  congr 2
  funext q
  by_cases hq : q = z.toNat
  · subst hq; simp [updV, up]
  · simp [updV, up, hq]
theorem Go_zast {a n : Nat} {x z : Int} (dec : decode cc pc = .ok (.bastore, 1)) (hs : SH a = (4, n)) (hx : okx nx a) (hz0 : 0 ≤ z) (hz : z < n) (hn : n < 2147483648) (hv : x = 0 ∨ x = 1) (kk : Go G cc mt nx d bc bs (pc + 1) ls st (up w a z.toNat x) K X) : Go G cc mt nx d bc bs pc ls (vi x :: vi z :: vr a :: st) w K X := by
  intro p e R s m args below meth c Q H locs cells slots la C EK EX hl hw hS h1 h2
  obtain ⟨cx, cb, -, co, ct, -, -, -, -, -, cK, -⟩ := id C
  obtain ⟨i1, i2⟩ := iI_in hz0 hz hn
  have hnar : narrow .boolean (.int (Int32.ofInt x)) = .int (Int32.ofInt x) := by
    rcases hv with rfl | rfl <;> decide
  refine W.zast cx cb (hw.1 _ _ (wl_e G w hs (by decide) hx (cont_4 hs))) (KS_ty cK 2 rfl n _) (fun q => by cases q) (by show ¬ (_ < 0 ∨ (arrV _ _ _).slots.size ≤ _); rw [arrV_size]; exact i1) rfl rfl dec fun H1 g1 g2 g3 => ?_
  refine kk p e R s m args below meth c Q H1 _ cells slots la C EK EX hl (wholds_put hs (by decide) hw g2 g3 ?_) (hS.put g2 g3 (own_in hs (by decide))) h1 h2
  rw [cont_4 hs]
  show H1[_]? = some (vp_cell _ _)
  rw [g1, i2, hnar, vp_cell_i, vp_cell_i, arrV_store]
  congr 2
  funext q
  by_cases hq : q = z.toNat
  · subst hq; simp [updV, up]
  · simp [updV, up, hq]
theorem Go_cast {a n : Nat} {x z : Int} (dec : decode cc pc = .ok (.castore, 1)) (hs : SH a = (3, n)) (hx : okx nx a) (hz0 : 0 ≤ z) (hz : z < n) (hn : n < 2147483648) (hv0 : 0 ≤ x) (hv : x < 65536) (kk : Go G cc mt nx d bc bs (pc + 1) ls st (up w a z.toNat x) K X) : Go G cc mt nx d bc bs pc ls (vi x :: vi z :: vr a :: st) w K X := by
  intro p e R s m args below meth c Q H locs cells slots la C EK EX hl hw hS h1 h2
  obtain ⟨cx, cb, -, co, ct, -, -, -, -, -, cK, -⟩ := id C
  obtain ⟨i1, i2⟩ := iI_in hz0 hz hn
  have hnar : narrow .char (.int (Int32.ofInt x)) = .int (Int32.ofInt x) := by
    obtain ⟨q, rfl⟩ := Int.eq_ofNat_of_zero_le hv0
    exact (pk_charN (by omega)).1
  refine W.cast cx cb (hw.1 _ _ (wl_e G w hs (by decide) hx (cont_3 hs))) (KS_ty cK 1 rfl n _) (fun q => by cases q) (by show ¬ (_ < 0 ∨ (arrV _ _ _).slots.size ≤ _); rw [arrV_size]; exact i1) rfl rfl dec fun H1 g1 g2 g3 => ?_
  refine kk p e R s m args below meth c Q H1 _ cells slots la C EK EX hl (wholds_put hs (by decide) hw g2 g3 ?_) (hS.put g2 g3 (own_in hs (by decide))) h1 h2
  rw [cont_3 hs]
  show H1[_]? = some (vp_cell _ _)
  rw [g1, i2, hnar, vp_cell_i, vp_cell_i, arrV_store]
  congr 2
  funext q
  by_cases hq : q = z.toNat
  · subst hq; simp [updV, up]
  · simp [updV, up, hq]
end GoMem
