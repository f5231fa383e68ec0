theorem tx_of {args : Array Value} {s : State} {own tx : String} {k : Nat} (h1 : (Cond.stringRef own k tx).before args s = true) (h2 : (Cond.exactly (.string own k) "java/lang/String").before args s = true) : ∃ a, vk_R own k tx a s ∧ (Term.string own k).eval args s none [] s = some (.ref a) := by
  obtain ⟨a, c, cell, k, q1, -⟩ := Cond.exactly_spec (args := args) (first := s) (o := none) (s := s) (idx := []) h2
  exact ⟨a, vk_R.of h1 q1, q1⟩
theorem arr_of {args : Array Value} {s : State} {ty : FieldType} (h : (Cond.arrayClass ty).before args s = true) : ∃ cA, ArrOfT s cA ty ∧ s.vm.findClass ("[" ++ ty.toString) = some cA := by
  obtain ⟨c, k, comp, h1, h2, h3⟩ := Cond.arrayClass_spec (args := args) (first := s) (o := none) (s := s) (idx := []) h
  exact ⟨c, fun N z => ⟨(fun k h => by cases h), k, h2, comp, h3⟩, h1⟩
theorem arrO_of {args : Array Value} {s : State} {C : String} (h : (Cond.arrayOver (.object C)).before args s = true) : ∃ cA, ArrOfT s cA (.object C) ∧ va_RA s cA (.object C) := by
  obtain ⟨comp, c, k, h1, h2, h3, h4, h5⟩ := Cond.arrayOver_spec (args := args) (first := s) (o := none) (s := s) (idx := []) h
  exact ⟨c, fun N z => ⟨(fun k h => by cases h), k, h3, comp, h4⟩, k, comp, h3, h4, h1, h5⟩
section Start
variable {s : State} {b : Nat}
set_option maxRecDepth 100000 in
theorem st_txs (hts : ∀ w ∈ lw_tbl, w.before #[Value.ref b] s = true) (hs : ∀ w ∈ flatC (Cond.and given_1 narrow_1), w.before #[Value.ref b] s = true) : ∀ q ∈ txs, ∃ a, vk_R q.1 q.2.1 q.2.2 a s := by
  have key : ∀ {k : Nat} {tx : String}, Cond.stringRef RX11 k tx ∈ lw_tbl → Cond.exactly (.string RX11 k) "java/lang/String" ∈ flatC (Cond.and given_1 narrow_1) → ∃ a, vk_R RX11 k tx a s := fun h1 h2 => by
    obtain ⟨a, h, -⟩ := tx_of (hts _ h1) (hs _ h2)
    exact ⟨a, h⟩
  exact (List.forall_mem_cons.mpr ⟨key (mt3 (List.mem_of_getElem? (i := 34) rfl)) ((List.mem_of_getElem? (i := 140) (by decide +kernel))), (List.forall_mem_cons.mpr ⟨key (mt3 (List.mem_of_getElem? (i := 107) rfl)) ((List.mem_of_getElem? (i := 218) (by decide +kernel))), (List.forall_mem_cons.mpr ⟨key (mt3 (List.mem_of_getElem? (i := 218) rfl)) ((List.mem_of_getElem? (i := 322) (by decide +kernel))), (List.forall_mem_cons.mpr ⟨key (mt3 (List.mem_of_getElem? (i := 234) rfl)) ((List.mem_of_getElem? (i := 395) (by decide +kernel))), (List.forall_mem_cons.mpr ⟨key (mt3 (List.mem_of_getElem? (i := 235) rfl)) ((List.mem_of_getElem? (i := 436) (by decide +kernel))), (List.forall_mem_cons.mpr ⟨key (mt2 (List.mem_of_getElem? (i := 72) rfl)) ((List.mem_of_getElem? (i := 59) (by decide +kernel))), (List.forall_mem_cons.mpr ⟨key (mt2 (List.mem_of_getElem? (i := 222) rfl)) ((List.mem_of_getElem? (i := 113) (by decide +kernel))), (List.forall_mem_cons.mpr ⟨key (mt3 (List.mem_of_getElem? (i := 72) rfl)) ((List.mem_of_getElem? (i := 189) (by decide +kernel))), (List.forall_mem_cons.mpr ⟨key (mt3 (List.mem_of_getElem? (i := 151) rfl)) ((List.mem_of_getElem? (i := 253) (by decide +kernel))), (List.forall_mem_cons.mpr ⟨key (mt3 (List.mem_of_getElem? (i := 210) rfl)) ((List.mem_of_getElem? (i := 288) (by decide +kernel))), (List.forall_mem_cons.mpr ⟨key (mt2 (List.mem_of_getElem? (i := 167) rfl)) ((List.mem_of_getElem? (i := 80) (by decide +kernel))), (fun _ h => absurd h List.not_mem_nil)⟩)⟩)⟩)⟩)⟩)⟩)⟩)⟩)⟩)⟩)⟩)
set_option maxRecDepth 100000 in
theorem st_nest (hts : ∀ w ∈ lw_tbl, w.before #[Value.ref b] s = true) : (∀ q ∈ nestM, va_Nw (.methodLinkNest q.1 q.2.1 q.2.2 "LatticePaths") s) ∧ (∀ q ∈ nestF, va_Nw (.fieldLinkNest q.1 q.2.1 q.2.2.1 q.2.2.2.1 q.2.2.2.2 "LatticePaths") s) := ⟨(List.forall_mem_cons.mpr ⟨va_Nw.of rfl (hts _ (mt1 (List.mem_of_getElem? (i := 38) rfl))), (List.forall_mem_cons.mpr ⟨va_Nw.of rfl (hts _ (mt1 (List.mem_of_getElem? (i := 92) rfl))), (List.forall_mem_cons.mpr ⟨va_Nw.of rfl (hts _ (mt1 (List.mem_of_getElem? (i := 132) rfl))), (List.forall_mem_cons.mpr ⟨va_Nw.of rfl (hts _ (mt1 (List.mem_of_getElem? (i := 143) rfl))), (List.forall_mem_cons.mpr ⟨va_Nw.of rfl (hts _ (mt1 (List.mem_of_getElem? (i := 156) rfl))), (List.forall_mem_cons.mpr ⟨va_Nw.of rfl (hts _ (mt1 (List.mem_of_getElem? (i := 159) rfl))), (List.forall_mem_cons.mpr ⟨va_Nw.of rfl (hts _ (mt1 (List.mem_of_getElem? (i := 169) rfl))), (List.forall_mem_cons.mpr ⟨va_Nw.of rfl (hts _ (mt1 (List.mem_of_getElem? (i := 179) rfl))), (List.forall_mem_cons.mpr ⟨va_Nw.of rfl (hts _ (mt1 (List.mem_of_getElem? (i := 200) rfl))), (fun _ h => absurd h List.not_mem_nil)⟩)⟩)⟩)⟩)⟩)⟩)⟩)⟩)⟩), (List.forall_mem_cons.mpr ⟨va_Nw.of rfl (hts _ (mt1 (List.mem_of_getElem? (i := 54) rfl))), (List.forall_mem_cons.mpr ⟨va_Nw.of rfl (hts _ (mt1 (List.mem_of_getElem? (i := 55) rfl))), (List.forall_mem_cons.mpr ⟨va_Nw.of rfl (hts _ (mt1 (List.mem_of_getElem? (i := 57) rfl))), (List.forall_mem_cons.mpr ⟨va_Nw.of rfl (hts _ (mt1 (List.mem_of_getElem? (i := 59) rfl))), (List.forall_mem_cons.mpr ⟨va_Nw.of rfl (hts _ (mt1 (List.mem_of_getElem? (i := 61) rfl))), (fun _ h => absurd h List.not_mem_nil)⟩)⟩)⟩)⟩)⟩)⟩
set_option maxRecDepth 100000 in
theorem st_ex (hts : ∀ w ∈ lw_tbl, w.before #[Value.ref b] s = true) (hs : ∀ w ∈ flatC (Cond.and given_1 narrow_1), w.before #[Value.ref b] s = true) : ((∀ k, kEq k → va_Nw (.castable (exn k) (exn k)) s) ∧ ∀ y ∈ declY, va_Nw (.declares y) s) ∧ (∀ k j, kEq k → kEq j → k ≠ j → va_Nc (exn k) (exn j) s) := by
  refine ⟨⟨fun k hk => ?_, (List.forall_mem_cons.mpr ⟨va_Nw.of rfl (hts _ (mt2 (List.mem_of_getElem? (i := 35) rfl))), (List.forall_mem_cons.mpr ⟨va_Nw.of rfl (hts _ (mt2 (List.mem_of_getElem? (i := 37) rfl))), (List.forall_mem_cons.mpr ⟨va_Nw.of rfl (hts _ (mt2 (List.mem_of_getElem? (i := 39) rfl))), (fun _ h => absurd h List.not_mem_nil)⟩)⟩)⟩)⟩, fun k j hk hj hkj => ?_⟩
  · have c : k = 1 ∨ k = 2 ∨ k = 3 := by have := hk.1; have := hk.2; omega
    rcases c with rfl | rfl | rfl
    · exact va_Nw.of rfl (hts _ (mt2 (List.mem_of_getElem? (i := 215) rfl)))
    · exact va_Nw.of rfl (hts _ (mt2 (List.mem_of_getElem? (i := 33) rfl)))
    · exact va_Nw.of rfl (hts _ (mt2 (List.mem_of_getElem? (i := 160) rfl)))
  · have c : (k = 1 ∧ j = 2) ∨ (k = 1 ∧ j = 3) ∨ (k = 2 ∧ j = 1) ∨ (k = 2 ∧ j = 3) ∨ (k = 3 ∧ j = 1) ∨ (k = 3 ∧ j = 2) := by have := hk.1; have := hk.2; have := hj.1; have := hj.2; omega
    rcases c with ⟨rfl, rfl⟩ | ⟨rfl, rfl⟩ | ⟨rfl, rfl⟩ | ⟨rfl, rfl⟩ | ⟨rfl, rfl⟩ | ⟨rfl, rfl⟩
    · exact va_Nc.of (hs _ (List.mem_of_getElem? (i := 32) (by decide +kernel)))
    · exact va_Nc.of (hs _ (List.mem_of_getElem? (i := 44) (by decide +kernel)))
    · exact va_Nc.of (hs _ (List.mem_of_getElem? (i := 58) (by decide +kernel)))
    · exact va_Nc.of (hs _ (List.mem_of_getElem? (i := 45) (by decide +kernel)))
    · exact va_Nc.of (hs _ (List.mem_of_getElem? (i := 57) (by decide +kernel)))
    · exact va_Nc.of (hs _ (List.mem_of_getElem? (i := 31) (by decide +kernel)))
set_option maxRecDepth 100000 in
theorem st_tab (hts : ∀ w ∈ lw_tbl, w.before #[Value.ref b] s = true) (hs : ∀ w ∈ flatC (Cond.and given_1 narrow_1), w.before #[Value.ref b] s = true) {A : Nat → Prop} (hA : ∀ a : Nat, a < s.heap.size → ¬ A a) : (∃ t, va_Z RX2 "ACROSS" "[I" (.ref t) A s s.heap ∧ va_T .int t 4 (fun j => .int (Int32.ofInt (tabA j))) A s s.heap) ∧ (∃ t, va_Z RX2 "ALONG" "[I" (.ref t) A s s.heap ∧ va_T .int t 4 (fun j => .int (Int32.ofInt (tabB j))) A s s.heap) := by
  refine ⟨?_, ?_⟩
  · obtain ⟨t, ht, hT⟩ := va_Tof (args := #[Value.ref b]) (tm := (.static RX2 "ACROSS" "[I")) (ty := .int) (N := 4) (f := fun j => .int (Int32.ofInt (tabA j))) (A := A) (by decide) (hs _ (List.mem_of_getElem? (i := 7) (by decide +kernel))) (va_eqt (z := 4) (hs _ (List.mem_of_getElem? (i := 8) (by decide +kernel)))) (fun j hj => match j, hj with
      | 0, _ => va_eqt (t := .elem (.static RX2 "ACROSS" "[I") (.int 0)) (z := 0) (hs _ (List.mem_of_getElem? (i := 9) (by decide +kernel)))
      | 1, _ => va_eqt (t := .elem (.static RX2 "ACROSS" "[I") (.int 1)) (z := 1) (hs _ (List.mem_of_getElem? (i := 10) (by decide +kernel)))
      | 2, _ => va_eqt (t := .elem (.static RX2 "ACROSS" "[I") (.int 2)) (z := 0) (hs _ (List.mem_of_getElem? (i := 11) (by decide +kernel)))
      | 3, _ => va_eqt (t := .elem (.static RX2 "ACROSS" "[I") (.int 3)) (z := -1) (hs _ (List.mem_of_getElem? (i := 12) (by decide +kernel)))) hA
    exact ⟨t, va_Zref (hts _ (mt3 (List.mem_of_getElem? (i := 8) rfl))) (hts _ (mt1 (List.mem_of_getElem? (i := 17) rfl))) ht hA, hT⟩
  
  · obtain ⟨t, ht, hT⟩ := va_Tof (args := #[Value.ref b]) (tm := (.static RX2 "ALONG" "[I")) (ty := .int) (N := 4) (f := fun j => .int (Int32.ofInt (tabB j))) (A := A) (by decide) (hs _ (List.mem_of_getElem? (i := 14) (by decide +kernel))) (va_eqt (z := 4) (hs _ (List.mem_of_getElem? (i := 15) (by decide +kernel)))) (fun j hj => match j, hj with
      | 0, _ => va_eqt (t := .elem (.static RX2 "ALONG" "[I") (.int 0)) (z := -1) (hs _ (List.mem_of_getElem? (i := 16) (by decide +kernel)))
      | 1, _ => va_eqt (t := .elem (.static RX2 "ALONG" "[I") (.int 1)) (z := 0) (hs _ (List.mem_of_getElem? (i := 17) (by decide +kernel)))
      | 2, _ => va_eqt (t := .elem (.static RX2 "ALONG" "[I") (.int 2)) (z := 1) (hs _ (List.mem_of_getElem? (i := 18) (by decide +kernel)))
      | 3, _ => va_eqt (t := .elem (.static RX2 "ALONG" "[I") (.int 3)) (z := 0) (hs _ (List.mem_of_getElem? (i := 19) (by decide +kernel)))) hA
    exact ⟨t, va_Zref (hts _ (mt3 (List.mem_of_getElem? (i := 13) rfl))) (hts _ (mt1 (List.mem_of_getElem? (i := 17) rfl))) ht hA, hT⟩
set_option maxRecDepth 100000 in
theorem st_sta (hts : ∀ w ∈ lw_tbl, w.before #[Value.ref b] s = true) (hs : ∀ w ∈ flatC (Cond.and given_1 narrow_1), w.before #[Value.ref b] s = true) {A : Nat → Prop} (hA : ∀ a : Nat, a < s.heap.size → ¬ A a) : vx_Zq Bundle.tN "UNASSIGNED_STACK" Bundle.steD A s s.heap ∧ vx_Zq Bundle.tN "SUPPRESSED_SENTINEL" Bundle.listD A s s.heap :=
  ⟨vx_Zqof (hts _ (mt2 (List.mem_of_getElem? (i := 58) rfl))) (hts _ (mt1 (List.mem_of_getElem? (i := 13) rfl))) (hs _ (List.mem_of_getElem? (i := 4) (by decide +kernel))) hA, vx_Zqof (hts _ (mt2 (List.mem_of_getElem? (i := 60) rfl))) (hts _ (mt1 (List.mem_of_getElem? (i := 13) rfl))) (hs _ (List.mem_of_getElem? (i := 5) (by decide +kernel))) hA⟩
set_option maxRecDepth 100000 in
theorem KS_start (l : Launch) {L : Nat} {xs : Nat → Int32} (hts : ∀ w ∈ lw_tbl, w.before #[Value.ref b] s = true) (hX : va_X b L xs s s.heap) (hbl : b < s.heap.size) (hgv : (Cond.and given_1 narrow_1).before #[Value.ref b] s = true) : ∃ G : Gm, G.1 = l ∧ Gb G = s.heap.size ∧ GL G = L ∧ rho G 1000 = b ∧ KS G s s.heap := by
  have hs := flat_of_before _ hgv
  have hg : ∀ w ∈ GW, w.before #[Value.ref b] s = true := fun w hw => hts w (GW_tbl hw)
  have hA : ∀ a : Nat, a < s.heap.size → ¬ (fun q : Nat => s.heap.size ≤ q) a := fun a h => Nat.not_le.mpr h
  obtain ⟨c0, i0, h0⟩ := u_known (C := RX0) (T := TX0) (N := 8) (n := 8) hg lys0 (hg _ itX0)
  obtain ⟨c1, i1, h1⟩ := u_known (C := RX1) (T := TX1) (N := 3) (n := 3) hg lys1 (hg _ itX1)
  obtain ⟨c2, i2, h2⟩ := u_known (C := RX3) (T := TX3) (N := 2) (n := 2) hg lys2 (hg _ itX3)
  obtain ⟨c3, i3, h3⟩ := u_known (C := RX4) (T := TX4) (N := 5) (n := 5) hg lys3 (hg _ itX4)
  obtain ⟨c4, i4, h4⟩ := u_known (C := RX5) (T := TX5) (N := 6) (n := 6) hg lys4 (hg _ itX5)
  obtain ⟨c5, i5, h5⟩ := u_known (C := RX6) (T := TX6) (N := 1) (n := 1) hg lys5 (hg _ itX6)
  obtain ⟨c6, i6, h6⟩ := u_known (C := RX7) (T := TX7) (N := 5) (n := 5) hg lys6 (hg _ itX7)
  obtain ⟨c7, i7, h7⟩ := u_known (C := RX8) (T := TX8) (N := 2) (n := 2) hg lys7 (hg _ itX8)
  obtain ⟨c8, i8, h8⟩ := u_known (C := RX9) (T := TX9) (N := 2) (n := 2) hg lys8 (hg _ itX9)
  obtain ⟨c9, i9, h9⟩ := u_known (C := RX10) (T := TX10) (N := 1) (n := 1) hg lys9 (hg _ itX10)
  obtain ⟨c10, i10, h10⟩ := u_known (C := RX11) (T := TX11) (N := 10) (n := 10) hg lys10 (hg _ itX11)
  obtain ⟨a_int, x_int, y_int⟩ := arr_of (hg _ ac_int)
  obtain ⟨a_char, x_char, y_char⟩ := arr_of (hg _ ac_char)
  obtain ⟨a_boolean, x_boolean, y_boolean⟩ := arr_of (hg _ ac_boolean)
  have ao9 : (Cond.arrayOver (.object RX9)).before #[Value.ref b] s = true := hts _ (mt1 (List.mem_of_getElem? (i := 36) rfl))
  have ao5 : (Cond.arrayOver (.object RX5)).before #[Value.ref b] s = true := hts _ (mt1 (List.mem_of_getElem? (i := 90) rfl))
  obtain ⟨a_t, x_t, y_t⟩ := arrO_of ao9
  obtain ⟨a_s, x_s, y_s⟩ := arrO_of ao5
  obtain ⟨⟨t1, z1, w1⟩, ⟨t2, z2, w2⟩⟩ := st_tab hts hs hA
  obtain ⟨v1, v2⟩ := st_sta hts hs hA
  refine ⟨(l, s.heap.size, fun k => [b, t1, t2].getD (k - 1000) 0, (fun k => [c0, c1, c2, c3, c4, c5, c6, c7, c8, c9, c10].getD k 0, fun k => ([i0, i1, i2, i3, i4, i5, i6, i7, i8, i9, i10] : List (Nat → Nat)).getD k (fun _ => 0)), fun k => [0, 0, a_int, a_char, a_boolean, a_t, a_s].getD k 0, L, xs, none), rfl, rfl, rfl, rfl, ?_⟩
  refine ⟨⟨fun k q hq => ?_, fun k q hq => ?_⟩, v1, v2, ⟨z1, w1⟩, ⟨z2, w2⟩, st_txs hts hs, trivial, ⟨hX, hA b hbl⟩, ⟨(st_nest hts).1, va_AO.of ao9, va_AO.of ao5⟩, (st_nest hts).2, (st_ex hts hs).1, (st_ex hts hs).2⟩
  · match k, hq with
    | 0, hq => cases hq; exact h0
    | 1, hq => cases hq; exact h1
    | 2, hq => cases hq; exact h2
    | 3, hq => cases hq; exact h3
    | 4, hq => cases hq; exact h4
    | 5, hq => cases hq; exact h5
    | 6, hq => cases hq; exact h6
    | 7, hq => cases hq; exact h7
    | 8, hq => cases hq; exact h8
    | 9, hq => cases hq; exact h9
    | 10, hq => cases hq; exact h10
    | k + 11, hq => cases hq
  · match k, hq with
    | 0, hq => cases hq; exact ⟨x_int, y_int⟩
    | 1, hq => cases hq; exact ⟨x_char, y_char⟩
    | 2, hq => cases hq; exact ⟨x_boolean, y_boolean⟩
    | 3, hq => cases hq; exact ⟨x_t, y_t⟩
    | 4, hq => cases hq; exact ⟨x_s, y_s⟩
    | k + 5, hq => cases hq
end Start
set_option maxHeartbeats 4000000 in
theorem whole_start {p : Program} {e : Env} {s : State} {m : MethodId} {below : List Frame} {meth : Method} {c : Code} (l : Launch) (hflags : l.flags = flags0) {b L : Nat} {xs : Nat → Int32} (hL : L ≤ 260) (C0 : lw_At p s m meth c b L xs) : W p l e room_1 s m #[Value.ref b] below meth c s.heap [] 0 0 (lw_Z below #[Value.ref b] s) (entryFrame m ([Value.ref b] : List Value).toArray 14) := by
  obtain ⟨hx, hb, hr, hml, hown, hts, hX, hbl, hlocks, hgv⟩ := id C0
  obtain ⟨G, g1, g2, g3, g4, hK⟩ := KS_start l hts hX hbl hgv
  have hg : ∀ w ∈ GW, w.before #[Value.ref b] s = true := fun w hw => hts w (GW_tbl hw)
  have hst : l.stackTraces = false := by
    unfold Launch.stackTraces
    rw [hflags]
    decide +kernel
  have hl := lsOK_entry (G := G) (as := [vr 1000]) (nl := 14) (allc1 rfl) (Nat.le_of_ble_eq_true rfl)
  have e1 : List.map (cv G) [vr 1000] = [Value.ref b] := by
    show [Value.ref (rho G 1000)] = _
    rw [g4]
  rw [e1] at hl
  rw [lg_entry_eq]
  have hGo := l_law_all (G := G) (tb := c.exceptionTable.toList.map fun h => (h.startPc, h.endPc, h.handlerPc, h.catchType)) (K := fun v _ _ => v = vi 1) (X := XF) (by rw [g3]; exact hL) (fun _ => rfl)
  have key := hGo p e room_1 s m #[Value.ref b] below meth c (lw_Z below #[Value.ref b] s) s.heap [] 0 0 _
    ⟨hx, hb, hr, hown, hg, hlocks, (fun h => by cases h), hml, Nat.le_of_ble_eq_true rfl, Nat.le_of_ble_eq_true rfl, hK, by rw [g1]; exact hst, by rw [g2]; exact Nat.le_refl _, (table_eq _).symm⟩
    (fun v nx w H locs cells slots la pc st hv hw hS h1 h2 hR => by
      subst hv
      rcases hR with ⟨h0, -⟩ | ⟨z, ty, ez, h0, hn, hd, rfl⟩ | ⟨a, ez, -⟩ | ⟨x, ez, -⟩ | ⟨x, ez, -⟩ | ⟨x, ez, -⟩
      · cases h0
      · cases ez
        rw [g1]
        refine va_forget (fun q hq => ?_) (W.widen (k := 600130) (n := 7301080) h1 h2 (W.base ?_))
        · have := hS.2.2 q hq
          rw [← g2]
          exact this
        · exact lw_ret (Drawn.sameBut.refl s.drawn lw_cs) hx hb hr hlocks hd
      · cases ez
      · cases ez
      · cases ez
      · cases ez)
    (Or.inl (fun _ _ _ h => h)) hl
    ⟨fun k q hq => by have := (wl_inv G (nx := some 1) w00 hq).1; exact absurd this (Nat.not_lt_zero _), fun n hn => by cases hn; exact ⟨Nat.le_refl _, Nat.le_of_ble_eq_true rfl, by rw [g2]; rfl⟩⟩
    va_S.rf (Nat.le_of_ble_eq_true rfl) (Nat.le_of_ble_eq_true rfl)
  rw [g1] at key
  exact key
