section GoJdk
variable {G : Gm} {cc : ByteArray} {mt : Mt} {nx : Option Nat} {d bc bs pc : Nat} {ls : List (Option Vl)} {st : List Vl} {w : Wd} {K : Kt} {X : Xt}
theorem Go_alen2 {a n : Nat} (dec : decode cc pc = .ok (.arraylength, 1)) (hs : SH a = (2, n)) (hx : okx nx a) (k : Go G cc mt nx d bc bs (pc + 1) ls (vi (n : Int) :: st) w K X) : Go G cc mt nx d bc bs pc ls (vr a :: st) w K X := by
  intro p e R s m args below meth c Q H locs cells slots la C EK EX hl hw hS h1 h2
  obtain ⟨cx, cb, -, co, ct, -, -, cml, cf, cl, cK, -⟩ := id C
  exact va_alen cx cb cK.1 hw.1 (a - 1) 0 (wl_e G w hs (by decide) hx (cont_2 hs)) rfl rfl dec (k p e R s m args below meth c Q H locs cells slots la C EK EX hl hw hS h1 h2)
/-- a trail is put into the array of trails -/
theorem Go_aast5 {a b n : Nat} {z : Int} (dec : decode cc pc = .ok (.aastore, 1)) (hs : SH a = (5, n)) (hb : SH b = (1, 8)) (hx : okx nx a) (hxb : okx nx b) (hz0 : 0 ≤ z) (hz : z < n) (hn : n < 2147483648) (kk : Go G cc mt nx d bc bs (pc + 1) ls st (up w a z.toNat (b : Int)) K X) : Go G cc mt nx d bc bs pc ls (vr b :: vi z :: vr a :: st) w K X := by
  intro p e R s m args below meth c Q H locs cells slots la C EK EX hl hw hS h1 h2
  obtain ⟨cx, cb, -, co, ct, -, -, -, -, -, cK, -⟩ := id C
  obtain ⟨i1, i2⟩ := iI_in hz0 hz hn
  have hatB := hw.1 _ _ (wl_e G w hb (by decide) hxb (cont_1 hb))
  obtain ⟨r', hr', cellV, g1, g2, g3, -⟩ := hatB
  have hcls := (cK.1.1 8 _ hr').2
  cases hr'
  obtain ⟨kA, comp, k1, k2, k3, -⟩ := (cK.1.2 3 _ rfl).2
  have hcomp : comp = (GD G).1 8 := Option.some.inj (k3.symm.trans hcls.1)
  subst hcomp
  obtain ⟨kC, hkC, -⟩ := hcls.2
  have hlt : z.toNat < n := by omega
  refine W.aast cx cb (hw.1 _ _ (wl_e G w hs (by decide) hx (cont_5 hs))) (fun q h => by cases h) (fun h => by cases h) k1 k2 rfl hkC ⟨fun q => i1 (Or.inl q), by show _ < (arrV _ _ _).slots.size; rw [arrV_size, i2]; exact hlt⟩ g1 (fun q h => by rw [g3] at h; cases h) (by rw [g2]; exact hkC) (by rw [g2]; exact va_assign hcls) rfl rfl dec fun H1 e1 e2 e3 => ?_
  refine kk p e R s m args below meth c Q H1 _ cells slots la C EK EX hl (wholds_put hs (by decide) hw e2 e3 ?_) (hS.put e2 e3 (own_in hs (by decide))) h1 h2
  rw [cont_5 hs]
  show H1[_]? = some (vp_cell _ _)
  have hb1 := SH_lt hb (by decide)
  have hb0 : ¬ b = 0 := by omega
  rw [e1, i2, vp_cell_q, vp_cell_q, arrV_store]
  congr 2
  funext q
  by_cases hq : q = z.toNat
  · subst hq; simp [updV, up, rfo, hb0, va_rf]
  · simp [updV, up, hq]
theorem Go_i2b {a : Int} (dec : decode cc pc = .ok (.i2b, 1)) (h0 : 0 ≤ a) (h1 : a < 128) (k : Go G cc mt nx d bc bs (pc + 1) ls (vi a :: st) w K X) : Go G cc mt nx d bc bs pc ls (vi a :: st) w K X := by
  intro p e R s m args below meth c Q H locs cells slots la C EK EX hl hw hS h1' h2
  obtain ⟨x, rfl⟩ := Int.eq_ofNat_of_zero_le h0
  have key : ∀ n, n < 128 → (nI n).toInt8.toInt32 = nI n := by decide +kernel
  exact lv_i2b C.1 C.2.1 dec (key x (by omega)) (k p e R s m args below meth c Q H locs cells slots la C EK EX hl hw hS h1' h2)
theorem Go_ishr0 {a : Int} (dec : decode cc pc = .ok (.ishr, 1)) (k : Go G cc mt nx d bc bs (pc + 1) ls (vi a :: st) w K X) : Go G cc mt nx d bc bs pc ls (vi 0 :: vi a :: st) w K X := by
  intro p e R s m args below meth c Q H locs cells slots la C EK EX hl hw hS h1 h2
  have kk := k p e R s m args below meth c Q H locs cells slots la C EK EX hl hw hS h1 h2
  refine lv_ishr C.1 C.2.1 dec ?_
  have e1 : Int32.ofInt a >>> (Int32.ofInt 0 &&& 31) = Int32.ofInt a := sb_shr0 _
  rw [e1]
  exact kk
theorem Go_iand255 {a : Int} (dec : decode cc pc = .ok (.iand, 1)) (h0 : 0 ≤ a) (h1 : a < 256) (k : Go G cc mt nx d bc bs (pc + 1) ls (vi a :: st) w K X) : Go G cc mt nx d bc bs pc ls (vi 255 :: vi a :: st) w K X := by
  intro p e R s m args below meth c Q H locs cells slots la C EK EX hl hw hS h1' h2
  have kk := k p e R s m args below meth c Q H locs cells slots la C EK EX hl hw hS h1' h2
  obtain ⟨x, rfl⟩ := Int.eq_ofNat_of_zero_le h0
  refine lv_iand C.1 C.2.1 dec ?_
  have e1 : Int32.ofInt (x : Int) &&& Int32.ofInt 255 = Int32.ofInt (x : Int) := by
    have := pk_andN (n := x) (by omega) (m := 255) 8 (by decide)
    rw [Nat.mod_eq_of_lt (by omega)] at this
    exact this
  rw [e1]
  exact kk
theorem Go_pop {v : Vl} (dec : decode cc pc = .ok (.pop, 1)) (hv : c1 (some v) = true) (k : Go G cc mt nx d bc bs (pc + 1) ls st w K X) : Go G cc mt nx d bc bs pc ls (v :: st) w K X := by
  intro p e R s m args below meth c Q H locs cells slots la C EK EX hl hw hS h1 h2
  exact lv_pop C.1 C.2.1 dec (cv_cat1 hv) (k p e R s m args below meth c Q H locs cells slots la C EK EX hl hw hS h1 h2)
/-- the fields of the board that its nest mate reads and writes -/
theorem gfN_i {idx k : Nat} {nm : String} {i : Nat} (hm : nestF[i]? = some (RX5, idx, RX0, nm, "I")) (hF : (TX0 k).2.1 = nm ∧ (TX0 k).2.2.1 = "I" ∧ (TX0 k).1 = RX0) (hk : k < 8) (hk2 : (ftl 0)[k]? = some false) (dec : decode cc pc = .ok (.getfield idx, 3)) (ho : mt.2.1 = RX5) (kk : Go G cc mt none d bc bs (pc + 3) ls (vi (w 2 k) :: st) w K X) : Go G cc mt none d bc bs pc ls (vr 2 :: st) w K X := by
  intro p e R s m args below meth c Q H locs cells slots la C EK EX hl hw hS h1 h2
  obtain ⟨r0, ty, hr0, hin, -, -⟩ := kt0
  cases hr0
  obtain ⟨cx, cb, -, co, ct, -, -, -, -, -, cK, -⟩ := id C
  obtain ⟨cK1, -, -, -, -, -, -, -, -, cN, -⟩ := cK
  have hN := cN _ (List.mem_of_getElem? hm)
  have hat := wl_e (nx := none) G w (a := 2) (k := 1) (n := 0) rfl (by decide) trivial (cont_1 rfl)
  rw [ho] at co
  obtain ⟨f1, f2, f3⟩ := hF
  subst f1
  refine va_getN (ref := RX0) (v := .int (Int32.ofInt (w 2 k))) (host := "LatticePaths") cx cb ct hin co cK1 hw.1 1 hat rfl k hk ?_ (fun x h => by rw [f3] at h; exact h) ?_ dec (kk p e R s m args below meth c Q H locs cells slots la C EK EX hl hw hS h1 h2)
  · rw [f2]; exact va_Nw.use rfl hN
  · unfold flds
    rw [List.getElem?_mapIdx, hk2]
    rfl
theorem pfN_i {idx k : Nat} {nm : String} {i : Nat} {z : Int} (hm : nestF[i]? = some (RX5, idx, RX0, nm, "I")) (hF : (TX0 k).2.1 = nm ∧ (TX0 k).2.2.1 = "I" ∧ (TX0 k).1 = RX0 ∧ (TX0 k).2.2.2 = false) (hk : k < 8) (hk2 : (ftl 0)[k]? = some false) (dec : decode cc pc = .ok (.putfield idx, 3)) (ho : mt.2.1 = RX5) (kk : Go G cc mt none d bc bs (pc + 3) ls st (up w 2 k z) K X) : Go G cc mt none d bc bs pc ls (vi z :: vr 2 :: st) w K X := by
  intro p e R s m args below meth c Q H locs cells slots la C EK EX hl hw hS h1 h2
  obtain ⟨r0, ty, hr0, hin, htyok, hnm⟩ := kt0
  cases hr0
  obtain ⟨cx, cb, -, co, ct, -, -, -, -, -, cK, -⟩ := id C
  obtain ⟨cK1, -, -, -, -, -, -, -, -, cN, -⟩ := id cK
  have hN := cN _ (List.mem_of_getElem? hm)
  have hs : SH 2 = (1, 0) := rfl
  have hat := hw.1 _ _ (wl_e (nx := none) G w hs (by decide) trivial (cont_1 hs))
  obtain ⟨f1, hI, f3, hFi⟩ := hF
  rw [ho] at co
  have hap := va_apart (own := RX5) ct hin ty htyok hnm cK1 (ci := 0) rfl
  obtain ⟨r1, e1, cell, q1, q2, q3, q4⟩ := hat
  cases e1
  obtain ⟨hSl, hfc, kC, hkC, hkind⟩ := cK1.1 0 _ rfl
  obtain ⟨cf, kf, fi, f, hi, hsl⟩ := hSl k hk
  have hlay := ct _ (hin _ (u_in_lay hk))
  unfold u_lay at hlay
  rw [if_neg (by show ¬ (TX0 k).2.2.2 = true; rw [hFi]; decide)] at hlay
  have hst := (u_facts hfc hkC (u_lays ct hin hk) hi).1
  have h6 := u_store (v := .int (Int32.ofInt z)) (ty := .int) hfc hkC hkind hlay hi (by show parseFieldDescriptor (TX0 k).2.2.1 = _; rw [hI]; decide) rfl rfl
  have hi2 : s.fieldFound? RX0 nm "I" = some (cf, kf, fi, f) := by
    rw [← f1, ← hI]
    rw [f3] at hi
    exact hi
  refine va_WputK (ref := RX0) cx cb (f := f) co (va_Nw.use rfl hN) hi2 hst (by rw [q2]; exact h6) q1 q3 (by rw [hsl]; exact k2_hasslot (q4 k hk)) rfl rfl dec fun H' g1 g2 g3 => ?_
  rw [hsl] at g1 ⊢
  refine kk p e R s m args below meth c Q H' _ cells slots la C EK EX hl (wholds_put hs (by decide) hw g2 g3 ?_) (hS.put g2 g3 (own_in hs (by decide))) h1 h2
  rw [cont_1 hs]
  exact ⟨_, rfl, t_OB.to (V := updV (vp_V (flds G none w 2 0)) k (.int (Int32.ofInt z))) ⟨_, g1, q2, q3, t_set q4 hap hk _⟩ (fun j _ => (flds_at (b := false) hk2 j).symm)⟩
theorem gfN_25 (dec : decode cc pc = .ok (.getfield 25, 3)) (ho : mt.2.1 = RX5) (kk : Go G cc mt none d bc bs (pc + 3) ls (vr 3 :: st) w K X) : Go G cc mt none d bc bs pc ls (vr 2 :: st) w K X := by
  intro p e R s m args below meth c Q H locs cells slots la C EK EX hl hw hS h1 h2
  obtain ⟨r0, ty, hr0, hin, -, -⟩ := kt0
  cases hr0
  obtain ⟨cx, cb, -, co, ct, -, -, -, -, -, cK, -⟩ := id C
  obtain ⟨cK1, -, -, -, -, -, -, -, -, cN, -⟩ := cK
  have hN := cN _ (List.mem_of_getElem? (i := 0) rfl)
  have hat := wl_e (nx := none) G w (a := 2) (k := 1) (n := 0) rfl (by decide) trivial (cont_1 rfl)
  rw [ho] at co
  exact va_getN (ref := RX0) (v := .ref (rho G 3)) (host := "LatticePaths") cx cb ct hin co cK1 hw.1 1 hat rfl 0 (by decide) (va_Nw.use rfl hN) (fun x h => h) rfl dec (kk p e R s m args below meth c Q H locs cells slots la C EK EX hl hw hS h1 h2)
theorem gfN_18 (dec : decode cc pc = .ok (.getfield 18, 3)) (ho : mt.2.1 = RX5) (kk : Go G cc mt none d bc bs (pc + 3) ls (vi (w 2 1) :: st) w K X) : Go G cc mt none d bc bs pc ls (vr 2 :: st) w K X := gfN_i (i := 1) rfl ⟨rfl, rfl, rfl⟩ (by decide) rfl dec ho kk
theorem pfN_18 {z : Int} (dec : decode cc pc = .ok (.putfield 18, 3)) (ho : mt.2.1 = RX5) (kk : Go G cc mt none d bc bs (pc + 3) ls st (up w 2 1 z) K X) : Go G cc mt none d bc bs pc ls (vi z :: vr 2 :: st) w K X := pfN_i (i := 1) rfl ⟨rfl, rfl, rfl, rfl⟩ (by decide) rfl dec ho kk
theorem gfN_39 (dec : decode cc pc = .ok (.getfield 39, 3)) (ho : mt.2.1 = RX5) (kk : Go G cc mt none d bc bs (pc + 3) ls (vi (w 2 2) :: st) w K X) : Go G cc mt none d bc bs pc ls (vr 2 :: st) w K X := gfN_i (i := 2) rfl ⟨rfl, rfl, rfl⟩ (by decide) rfl dec ho kk
theorem pfN_39 {z : Int} (dec : decode cc pc = .ok (.putfield 39, 3)) (ho : mt.2.1 = RX5) (kk : Go G cc mt none d bc bs (pc + 3) ls st (up w 2 2 z) K X) : Go G cc mt none d bc bs pc ls (vi z :: vr 2 :: st) w K X := pfN_i (i := 2) rfl ⟨rfl, rfl, rfl, rfl⟩ (by decide) rfl dec ho kk
theorem gfN_43 (dec : decode cc pc = .ok (.getfield 43, 3)) (ho : mt.2.1 = RX5) (kk : Go G cc mt none d bc bs (pc + 3) ls (vi (w 2 3) :: st) w K X) : Go G cc mt none d bc bs pc ls (vr 2 :: st) w K X := gfN_i (i := 3) rfl ⟨rfl, rfl, rfl⟩ (by decide) rfl dec ho kk
theorem pfN_43 {z : Int} (dec : decode cc pc = .ok (.putfield 43, 3)) (ho : mt.2.1 = RX5) (kk : Go G cc mt none d bc bs (pc + 3) ls st (up w 2 3 z) K X) : Go G cc mt none d bc bs pc ls (vi z :: vr 2 :: st) w K X := pfN_i (i := 3) rfl ⟨rfl, rfl, rfl, rfl⟩ (by decide) rfl dec ho kk
theorem gfN_47 (dec : decode cc pc = .ok (.getfield 47, 3)) (ho : mt.2.1 = RX5) (kk : Go G cc mt none d bc bs (pc + 3) ls (vi (w 2 4) :: st) w K X) : Go G cc mt none d bc bs pc ls (vr 2 :: st) w K X := gfN_i (i := 4) rfl ⟨rfl, rfl, rfl⟩ (by decide) rfl dec ho kk
theorem pfN_47 {z : Int} (dec : decode cc pc = .ok (.putfield 47, 3)) (ho : mt.2.1 = RX5) (kk : Go G cc mt none d bc bs (pc + 3) ls st (up w 2 4 z) K X) : Go G cc mt none d bc bs pc ls (vi z :: vr 2 :: st) w K X := pfN_i (i := 4) rfl ⟨rfl, rfl, rfl, rfl⟩ (by decide) rfl dec ho kk
end GoJdk
