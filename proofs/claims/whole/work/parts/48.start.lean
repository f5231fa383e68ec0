theorem tx_of {args : Array Value} {s : State} {own tx : String} {k : Nat} (h1 : (Cond.stringRef own k tx).before args s = true) (h2 : (Cond.exactly (.string own k) "java/lang/String").before args s = true) : ∃ a, vk_R own k tx a s ∧ (Term.string own k).eval args s none [] s = some (.ref a) := by
  obtain ⟨a, c, cell, k, q1, -⟩ := Cond.exactly_spec (args := args) (first := s) (o := none) (s := s) (idx := []) h2
  exact ⟨a, vk_R.of h1 q1, q1⟩
theorem arr_of {args : Array Value} {s : State} {ty : FieldType} (h : (Cond.arrayClass ty).before args s = true) : ∃ cA, ArrOfT s cA ty ∧ s.vm.findClass ("[" ++ ty.toString) = some cA := by
  obtain ⟨c, k, comp, h1, h2, h3⟩ := Cond.arrayClass_spec (args := args) (first := s) (o := none) (s := s) (idx := []) h
  exact ⟨c, fun N z => ⟨(fun k h => by cases h), k, h2, comp, h3⟩, h1⟩
theorem arrO_of {args : Array Value} {s : State} {C : String} (h : (Cond.arrayOver (.object C)).before args s = true) : ∃ cA, ArrOfT s cA (.object C) ∧ va_RA s cA (.object C) := by
  obtain ⟨comp, c, k, h1, h2, h3, h4, h5⟩ := Cond.arrayOver_spec (args := args) (first := s) (o := none) (s := s) (idx := []) h
  exact ⟨c, fun N z => ⟨(fun k h => by cases h), k, h3, comp, h4⟩, k, comp, h3, h4, h1, h5⟩
section Start
variable {s : State} {b : Nat}
set_option maxRecDepth 100000 in
theorem st_txs (hts : ∀ w ∈ lw_tbl, w.before #[Value.ref b] s = true) (hs : ∀ w ∈ flatC (Cond.and given_1 narrow_1), w.before #[Value.ref b] s = true) : ∀ q ∈ txs, ∃ a, vk_R q.1 q.2.1 q.2.2 a s := by
  have key : ∀ {k : Nat} {tx : String}, Cond.stringRef RX11 k tx ∈ lw_tbl → Cond.exactly (.string RX11 k) "java/lang/String" ∈ flatC (Cond.and given_1 narrow_1) → ∃ a, vk_R RX11 k tx a s := fun h1 h2 => by
    obtain ⟨a, h, -⟩ := tx_of (hts _ h1) (hs _ h2)
    exact ⟨a, h⟩
  exact (List.forall_mem_cons.mpr ⟨key (mt3 (List.mem_of_getElem? (i := 44) rfl)) ((List.mem_of_getElem? (i := 133) (by decide +kernel))), (List.forall_mem_cons.mpr ⟨key (mt3 (List.mem_of_getElem? (i := 160) rfl)) ((List.mem_of_getElem? (i := 245) (by decide +kernel))), (List.forall_mem_cons.mpr ⟨key (mt4 (List.mem_of_getElem? (i := 33) rfl)) ((List.mem_of_getElem? (i := 349) (by decide +kernel))), (List.forall_mem_cons.mpr ⟨key (mt4 (List.mem_of_getElem? (i := 49) rfl)) ((List.mem_of_getElem? (i := 422) (by decide +kernel))), (List.forall_mem_cons.mpr ⟨key (mt4 (List.mem_of_getElem? (i := 50) rfl)) ((List.mem_of_getElem? (i := 463) (by decide +kernel))), (List.forall_mem_cons.mpr ⟨key (mt4 (List.mem_of_getElem? (i := 74) rfl)) ((List.mem_of_getElem? (i := 494) (by decide +kernel))), (List.forall_mem_cons.mpr ⟨key (mt4 (List.mem_of_getElem? (i := 92) rfl)) ((List.mem_of_getElem? (i := 539) (by decide +kernel))), (List.forall_mem_cons.mpr ⟨key (mt4 (List.mem_of_getElem? (i := 107) rfl)) ((List.mem_of_getElem? (i := 593) (by decide +kernel))), (List.forall_mem_cons.mpr ⟨key (mt4 (List.mem_of_getElem? (i := 167) rfl)) ((List.mem_of_getElem? (i := 639) (by decide +kernel))), (List.forall_mem_cons.mpr ⟨key (mt4 (List.mem_of_getElem? (i := 202) rfl)) ((List.mem_of_getElem? (i := 674) (by decide +kernel))), (List.forall_mem_cons.mpr ⟨key (mt5 (List.mem_of_getElem? (i := 50) rfl)) ((List.mem_of_getElem? (i := 710) (by decide +kernel))), (List.forall_mem_cons.mpr ⟨key (mt3 (List.mem_of_getElem? (i := 4) rfl)) ((List.mem_of_getElem? (i := 107) (by decide +kernel))), (List.forall_mem_cons.mpr ⟨key (mt3 (List.mem_of_getElem? (i := 110) rfl)) ((List.mem_of_getElem? (i := 181) (by decide +kernel))), (List.forall_mem_cons.mpr ⟨key (mt3 (List.mem_of_getElem? (i := 204) rfl)) ((List.mem_of_getElem? (i := 280) (by decide +kernel))), (List.forall_mem_cons.mpr ⟨key (mt4 (List.mem_of_getElem? (i := 26) rfl)) ((List.mem_of_getElem? (i := 315) (by decide +kernel))), (List.forall_mem_cons.mpr ⟨key (mt3 (List.mem_of_getElem? (i := 126) rfl)) ((List.mem_of_getElem? (i := 209) (by decide +kernel))), (fun _ h => absurd h List.not_mem_nil)⟩)⟩)⟩)⟩)⟩)⟩)⟩)⟩)⟩)⟩)⟩)⟩)⟩)⟩)⟩)⟩)
set_option maxRecDepth 100000 in
theorem st_nest (hts : ∀ w ∈ lw_tbl, w.before #[Value.ref b] s = true) : (∀ q ∈ nestM, va_Nw (.methodLinkNest q.1 q.2.1 q.2.2 "LatticePaths") s) ∧ (∀ q ∈ nestF, va_Nw (.fieldLinkNest q.1 q.2.1 q.2.2.1 q.2.2.2.1 q.2.2.2.2 "LatticePaths") s) := ⟨(List.forall_mem_cons.mpr ⟨va_Nw.of rfl (hts _ (mt1 (List.mem_of_getElem? (i := 45) rfl))), (List.forall_mem_cons.mpr ⟨va_Nw.of rfl (hts _ (mt1 (List.mem_of_getElem? (i := 99) rfl))), (List.forall_mem_cons.mpr ⟨va_Nw.of rfl (hts _ (mt1 (List.mem_of_getElem? (i := 139) rfl))), (List.forall_mem_cons.mpr ⟨va_Nw.of rfl (hts _ (mt1 (List.mem_of_getElem? (i := 150) rfl))), (List.forall_mem_cons.mpr ⟨va_Nw.of rfl (hts _ (mt1 (List.mem_of_getElem? (i := 163) rfl))), (List.forall_mem_cons.mpr ⟨va_Nw.of rfl (hts _ (mt1 (List.mem_of_getElem? (i := 166) rfl))), (List.forall_mem_cons.mpr ⟨va_Nw.of rfl (hts _ (mt1 (List.mem_of_getElem? (i := 176) rfl))), (List.forall_mem_cons.mpr ⟨va_Nw.of rfl (hts _ (mt1 (List.mem_of_getElem? (i := 186) rfl))), (List.forall_mem_cons.mpr ⟨va_Nw.of rfl (hts _ (mt1 (List.mem_of_getElem? (i := 208) rfl))), (fun _ h => absurd h List.not_mem_nil)⟩)⟩)⟩)⟩)⟩)⟩)⟩)⟩)⟩), (List.forall_mem_cons.mpr ⟨va_Nw.of rfl (hts _ (mt1 (List.mem_of_getElem? (i := 61) rfl))), (List.forall_mem_cons.mpr ⟨va_Nw.of rfl (hts _ (mt1 (List.mem_of_getElem? (i := 62) rfl))), (List.forall_mem_cons.mpr ⟨va_Nw.of rfl (hts _ (mt1 (List.mem_of_getElem? (i := 64) rfl))), (List.forall_mem_cons.mpr ⟨va_Nw.of rfl (hts _ (mt1 (List.mem_of_getElem? (i := 66) rfl))), (List.forall_mem_cons.mpr ⟨va_Nw.of rfl (hts _ (mt1 (List.mem_of_getElem? (i := 68) rfl))), (fun _ h => absurd h List.not_mem_nil)⟩)⟩)⟩)⟩)⟩)⟩
set_option maxRecDepth 100000 in
theorem st_ex (hts : ∀ w ∈ lw_tbl, w.before #[Value.ref b] s = true) (hs : ∀ w ∈ flatC (Cond.and given_1 narrow_1), w.before #[Value.ref b] s = true) : ((∀ k, kEq k → va_Nw (.castable (exn k) (exn k)) s) ∧ ∀ y ∈ declY, va_Nw (.declares y) s) ∧ (∀ k j, kEq k → kEq j → k ≠ j → va_Nc (exn k) (exn j) s) := by
  refine ⟨⟨fun k hk => ?_, (List.forall_mem_cons.mpr ⟨va_Nw.of rfl (hts _ (mt2 (List.mem_of_getElem? (i := 207) rfl))), (List.forall_mem_cons.mpr ⟨va_Nw.of rfl (hts _ (mt2 (List.mem_of_getElem? (i := 209) rfl))), (List.forall_mem_cons.mpr ⟨va_Nw.of rfl (hts _ (mt2 (List.mem_of_getElem? (i := 211) rfl))), (fun _ h => absurd h List.not_mem_nil)⟩)⟩)⟩)⟩, fun k j hk hj hkj => ?_⟩
  · have c : k = 1 ∨ k = 2 ∨ k = 3 := by have := hk.1; have := hk.2; omega
    rcases c with rfl | rfl | rfl
    · exact va_Nw.of rfl (hts _ (mt2 (List.mem_of_getElem? (i := 205) rfl)))
    · exact va_Nw.of rfl (hts _ (mt3 (List.mem_of_getElem? (i := 37) rfl)))
    · exact va_Nw.of rfl (hts _ (mt3 (List.mem_of_getElem? (i := 119) rfl)))
  · have c : (k = 1 ∧ j = 2) ∨ (k = 1 ∧ j = 3) ∨ (k = 2 ∧ j = 1) ∨ (k = 2 ∧ j = 3) ∨ (k = 3 ∧ j = 1) ∨ (k = 3 ∧ j = 2) := by have := hk.1; have := hk.2; have := hj.1; have := hj.2; omega
    rcases c with ⟨rfl, rfl⟩ | ⟨rfl, rfl⟩ | ⟨rfl, rfl⟩ | ⟨rfl, rfl⟩ | ⟨rfl, rfl⟩ | ⟨rfl, rfl⟩
    · exact va_Nc.of (hs _ (List.mem_of_getElem? (i := 51) (by decide +kernel)))
    · exact va_Nc.of (hs _ (List.mem_of_getElem? (i := 65) (by decide +kernel)))
    · exact va_Nc.of (hs _ (List.mem_of_getElem? (i := 37) (by decide +kernel)))
    · exact va_Nc.of (hs _ (List.mem_of_getElem? (i := 66) (by decide +kernel)))
    · exact va_Nc.of (hs _ (List.mem_of_getElem? (i := 38) (by decide +kernel)))
    · exact va_Nc.of (hs _ (List.mem_of_getElem? (i := 52) (by decide +kernel)))
set_option maxRecDepth 100000 in
theorem st_tab (hts : ∀ w ∈ lw_tbl, w.before #[Value.ref b] s = true) (hs : ∀ w ∈ flatC (Cond.and given_1 narrow_1), w.before #[Value.ref b] s = true) {A : Nat → Prop} (hA : ∀ a : Nat, a < s.heap.size → ¬ A a) : (∃ t, va_Z RX2 "ACROSS" "[I" (.ref t) A s s.heap ∧ va_T .int t 4 (fun j => .int (Int32.ofInt (tabA j))) A s s.heap) ∧ (∃ t, va_Z RX2 "ALONG" "[I" (.ref t) A s s.heap ∧ va_T .int t 4 (fun j => .int (Int32.ofInt (tabB j))) A s s.heap) := by
  refine ⟨?_, ?_⟩
  · obtain ⟨t, ht, hT⟩ := va_Tof (args := #[Value.ref b]) (tm := (.static RX2 "ACROSS" "[I")) (ty := .int) (N := 4) (f := fun j => .int (Int32.ofInt (tabA j))) (A := A) (by decide) (hs _ (List.mem_of_getElem? (i := 10) (by decide +kernel))) (va_eqt (z := 4) (hs _ (List.mem_of_getElem? (i := 11) (by decide +kernel)))) (fun j hj => match j, hj with
      | 0, _ => va_eqt (t := .elem (.static RX2 "ACROSS" "[I") (.int 0)) (z := 0) (hs _ (List.mem_of_getElem? (i := 12) (by decide +kernel)))
      | 1, _ => va_eqt (t := .elem (.static RX2 "ACROSS" "[I") (.int 1)) (z := 1) (hs _ (List.mem_of_getElem? (i := 13) (by decide +kernel)))
      | 2, _ => va_eqt (t := .elem (.static RX2 "ACROSS" "[I") (.int 2)) (z := 0) (hs _ (List.mem_of_getElem? (i := 14) (by decide +kernel)))
      | 3, _ => va_eqt (t := .elem (.static RX2 "ACROSS" "[I") (.int 3)) (z := -1) (hs _ (List.mem_of_getElem? (i := 15) (by decide +kernel)))) hA
    exact ⟨t, va_Zref (hts _ (mt2 (List.mem_of_getElem? (i := 165) rfl))) (hts _ (mt1 (List.mem_of_getElem? (i := 14) rfl))) ht hA, hT⟩
  
  · obtain ⟨t, ht, hT⟩ := va_Tof (args := #[Value.ref b]) (tm := (.static RX2 "ALONG" "[I")) (ty := .int) (N := 4) (f := fun j => .int (Int32.ofInt (tabB j))) (A := A) (by decide) (hs _ (List.mem_of_getElem? (i := 17) (by decide +kernel))) (va_eqt (z := 4) (hs _ (List.mem_of_getElem? (i := 18) (by decide +kernel)))) (fun j hj => match j, hj with
      | 0, _ => va_eqt (t := .elem (.static RX2 "ALONG" "[I") (.int 0)) (z := -1) (hs _ (List.mem_of_getElem? (i := 19) (by decide +kernel)))
      | 1, _ => va_eqt (t := .elem (.static RX2 "ALONG" "[I") (.int 1)) (z := 0) (hs _ (List.mem_of_getElem? (i := 20) (by decide +kernel)))
      | 2, _ => va_eqt (t := .elem (.static RX2 "ALONG" "[I") (.int 2)) (z := 1) (hs _ (List.mem_of_getElem? (i := 21) (by decide +kernel)))
      | 3, _ => va_eqt (t := .elem (.static RX2 "ALONG" "[I") (.int 3)) (z := 0) (hs _ (List.mem_of_getElem? (i := 22) (by decide +kernel)))) hA
    exact ⟨t, va_Zref (hts _ (mt2 (List.mem_of_getElem? (i := 170) rfl))) (hts _ (mt1 (List.mem_of_getElem? (i := 14) rfl))) ht hA, hT⟩
set_option maxRecDepth 100000 in
theorem st_url (hts : ∀ w ∈ lw_tbl, w.before #[Value.ref b] s = true) (hs : ∀ w ∈ flatC (Cond.and given_1 narrow_1), w.before #[Value.ref b] s = true) {A : Nat → Prop} (hA : ∀ a : Nat, a < s.heap.size → ¬ A a) : ∃ a v, vk_R RX3 31 "URDL" a s ∧ va_O "java/lang/String" a A s s.heap ∧ va_OF "java/lang/String" "coder" "B" (.int 0) a A s s.heap ∧ va_OF "java/lang/String" "value" "[B" (.ref v) a A s s.heap ∧ va_T .byte v 4 (fun j => .int (urdl.getD j 0)) A s s.heap := by
  have hx : (Cond.exactly (.string RX3 31) "java/lang/String").before #[Value.ref b] s = true := (hs _ (List.mem_of_getElem? (i := 99) (by decide +kernel)))
  obtain ⟨a, h1, h2⟩ := tx_of (hts _ (mt2 (List.mem_of_getElem? (i := 42) rfl))) hx
  obtain ⟨v, hv, hT⟩ := va_Tof (args := #[Value.ref b]) (tm := (.field (.string RX3 31) "java/lang/String" "value" "[B")) (ty := .byte) (N := 4) (f := fun j => .int (urdl.getD j 0)) (A := A) (by decide) (hs _ (List.mem_of_getElem? (i := 101) (by decide +kernel))) (va_eqt (z := 4) (hs _ (List.mem_of_getElem? (i := 102) (by decide +kernel)))) (fun j hj => match j, hj with
      | 0, _ => va_eqt (t := .elem (.field (.string RX3 31) "java/lang/String" "value" "[B") (.int 0)) (z := 85) (hs _ (List.mem_of_getElem? (i := 103) (by decide +kernel)))
      | 1, _ => va_eqt (t := .elem (.field (.string RX3 31) "java/lang/String" "value" "[B") (.int 1)) (z := 82) (hs _ (List.mem_of_getElem? (i := 104) (by decide +kernel)))
      | 2, _ => va_eqt (t := .elem (.field (.string RX3 31) "java/lang/String" "value" "[B") (.int 2)) (z := 68) (hs _ (List.mem_of_getElem? (i := 105) (by decide +kernel)))
      | 3, _ => va_eqt (t := .elem (.field (.string RX3 31) "java/lang/String" "value" "[B") (.int 3)) (z := 76) (hs _ (List.mem_of_getElem? (i := 106) (by decide +kernel)))) hA
  exact ⟨a, v, h1, va_Oof hx h2 hA, vk_OFof h2 (va_eqt (z := 0) (hs _ (List.mem_of_getElem? (i := 100) (by decide +kernel)))) hA, vk_OFof h2 hv hA, hT⟩
set_option maxRecDepth 100000 in
theorem st_sta (hts : ∀ w ∈ lw_tbl, w.before #[Value.ref b] s = true) (hs : ∀ w ∈ flatC (Cond.and given_1 narrow_1), w.before #[Value.ref b] s = true) {A : Nat → Prop} (hA : ∀ a : Nat, a < s.heap.size → ¬ A a) : vx_Zq Bundle.tN "UNASSIGNED_STACK" Bundle.steD A s s.heap ∧ vx_Zq Bundle.tN "SUPPRESSED_SENTINEL" Bundle.listD A s s.heap ∧ va_Z "java/lang/String" "COMPACT_STRINGS" "Z" (.int 1) A s s.heap ∧ ∃ g : Option Nat, va_Z "jdk/internal/util/Preconditions" "SIOOBE_FORMATTER" "Ljava/util/function/BiFunction;" (va_rf g) A s s.heap := by
  refine ⟨vx_Zqof (hts _ (mt2 (List.mem_of_getElem? (i := 230) rfl))) (hts _ (mt1 (List.mem_of_getElem? (i := 15) rfl))) (hs _ (List.mem_of_getElem? (i := 23) (by decide +kernel))) hA, vx_Zqof (hts _ (mt2 (List.mem_of_getElem? (i := 232) rfl))) (hts _ (mt1 (List.mem_of_getElem? (i := 15) rfl))) (hs _ (List.mem_of_getElem? (i := 24) (by decide +kernel))) hA, va_Zof (hts _ (mt2 (List.mem_of_getElem? (i := 56) rfl))) (hts _ (mt1 (List.mem_of_getElem? (i := 21) rfl))) (va_eqi (hs _ (List.mem_of_getElem? (i := 4) (by decide +kernel)))) hA, ?_⟩
  rcases va_Zqof (A := A) (hts _ (mt2 (List.mem_of_getElem? (i := 99) rfl))) (hts _ (mt1 (List.mem_of_getElem? (i := 25) rfl))) (hs _ (List.mem_of_getElem? (i := 5) (by decide +kernel))) hA with h | ⟨t, h⟩
  · exact ⟨none, h⟩
  · exact ⟨some t, h⟩
set_option maxRecDepth 100000 in
theorem KS_start (l : Launch) {L : Nat} {xs : Nat → Int32} (hts : ∀ w ∈ lw_tbl, w.before #[Value.ref b] s = true) (hX : va_X b L xs s s.heap) (hbl : b < s.heap.size) (hgv : (Cond.and given_1 narrow_1).before #[Value.ref b] s = true) : ∃ G : Gm, G.1 = l ∧ Gb G = s.heap.size ∧ GL G = L ∧ rho G 1000 = b ∧ KS G s s.heap := by
  have hs := flat_of_before _ hgv
  have hg : ∀ w ∈ GW, w.before #[Value.ref b] s = true := fun w hw => hts w (GW_tbl hw)
  have hA : ∀ a : Nat, a < s.heap.size → ¬ (fun q : Nat => s.heap.size ≤ q) a := fun a h => Nat.not_le.mpr h
  obtain ⟨c0, i0, h0⟩ := u_known (C := RX0) (T := TX0) (N := 8) (n := 8) hg lys0 (hg _ itX0)
  obtain ⟨c1, i1, h1⟩ := u_known (C := RX1) (T := TX1) (N := 3) (n := 3) hg lys1 (hg _ itX1)
  obtain ⟨c2, i2, h2⟩ := u_known (C := RX3) (T := TX3) (N := 2) (n := 2) hg lys2 (hg _ itX3)
  obtain ⟨c3, i3, h3⟩ := u_known (C := RX4) (T := TX4) (N := 5) (n := 5) hg lys3 (hg _ itX4)
  obtain ⟨c4, i4, h4⟩ := u_known (C := RX5) (T := TX5) (N := 6) (n := 6) hg lys4 (hg _ itX5)
  obtain ⟨c5, i5, h5⟩ := u_known (C := RX6) (T := TX6) (N := 1) (n := 1) hg lys5 (hg _ itX6)
  obtain ⟨c6, i6, h6⟩ := u_known (C := RX7) (T := TX7) (N := 5) (n := 5) hg lys6 (hg _ itX7)
  obtain ⟨c7, i7, h7⟩ := u_known (C := RX8) (T := TX8) (N := 2) (n := 2) hg lys7 (hg _ itX8)
  obtain ⟨c8, i8, h8⟩ := u_known (C := RX9) (T := TX9) (N := 2) (n := 2) hg lys8 (hg _ itX9)
  obtain ⟨c9, i9, h9⟩ := u_known (C := RX10) (T := TX10) (N := 1) (n := 1) hg lys9 (hg _ itX10)
  obtain ⟨c10, i10, h10⟩ := u_known (C := RX11) (T := TX11) (N := 10) (n := 10) hg lys10 (hg _ itX11)
  obtain ⟨c11, i11, h11⟩ := u_known (C := RX12) (T := TX12) (N := 20) (n := 20) hg lys11 (hg _ itX12)
  obtain ⟨a_int, x_int, y_int⟩ := arr_of (hg _ ac_int)
  obtain ⟨a_char, x_char, y_char⟩ := arr_of (hg _ ac_char)
  obtain ⟨a_boolean, x_boolean, y_boolean⟩ := arr_of (hg _ ac_boolean)
  obtain ⟨a_long, x_long, y_long⟩ := arr_of (hg _ ac_long)
  obtain ⟨a_double, x_double, y_double⟩ := arr_of (hg _ ac_double)
  have ao9 : (Cond.arrayOver (.object RX9)).before #[Value.ref b] s = true := hts _ (mt1 (List.mem_of_getElem? (i := 43) rfl))
  have ao5 : (Cond.arrayOver (.object RX5)).before #[Value.ref b] s = true := hts _ (mt1 (List.mem_of_getElem? (i := 97) rfl))
  obtain ⟨a_t, x_t, y_t⟩ := arrO_of ao9
  obtain ⟨a_s, x_s, y_s⟩ := arrO_of ao5
  obtain ⟨⟨t1, z1, w1⟩, ⟨t2, z2, w2⟩⟩ := st_tab hts hs hA
  obtain ⟨t3, t4, u1, u2, u3, u4, u5⟩ := st_url hts hs hA
  obtain ⟨v1, v2, v3, gn, v4⟩ := st_sta hts hs hA
  refine ⟨(l, s.heap.size, fun k => [b, t1, t2, t3, t4].getD (k - 1000) 0, (fun k => [c0, c1, c2, c3, c4, c5, c6, c7, c8, c9, c10, c11].getD k 0, fun k => ([i0, i1, i2, i3, i4, i5, i6, i7, i8, i9, i10, i11] : List (Nat → Nat)).getD k (fun _ => 0)), fun k => [0, 0, a_int, a_char, a_boolean, a_t, a_s, a_long, a_double].getD k 0, L, xs, gn), rfl, rfl, rfl, rfl, ?_⟩
  refine ⟨⟨fun k q hq => ?_, fun k q hq => ?_⟩, v1, v2, ⟨z1, w1⟩, ⟨z2, w2⟩, st_txs hts hs, ⟨u1, u2, u3, u4, u5, v3, v4⟩, ⟨hX, hA b hbl⟩, ⟨(st_nest hts).1, va_AO.of ao9, va_AO.of ao5⟩, (st_nest hts).2, (st_ex hts hs).1, (st_ex hts hs).2⟩
  · match k, hq with
    | 0, hq => cases hq; exact h0
    | 1, hq => cases hq; exact h1
    | 2, hq => cases hq; exact h2
    | 3, hq => cases hq; exact h3
    | 4, hq => cases hq; exact h4
    | 5, hq => cases hq; exact h5
    | 6, hq => cases hq; exact h6
    | 7, hq => cases hq; exact h7
    | 8, hq => cases hq; exact h8
    | 9, hq => cases hq; exact h9
    | 10, hq => cases hq; exact h10
    | 11, hq => cases hq; exact h11
    | k + 12, hq => cases hq
  · match k, hq with
    | 0, hq => cases hq; exact ⟨x_int, y_int⟩
    | 1, hq => cases hq; exact ⟨x_char, y_char⟩
    | 2, hq => cases hq; exact ⟨x_boolean, y_boolean⟩
    | 3, hq => cases hq; exact ⟨x_t, y_t⟩
    | 4, hq => cases hq; exact ⟨x_s, y_s⟩
    | 5, hq => cases hq; exact ⟨x_long, y_long⟩
    | 6, hq => cases hq; exact ⟨x_double, y_double⟩
    | k + 7, hq => cases hq
end Start
set_option maxHeartbeats 4000000 in
theorem whole_start {p : Program} {e : Env} {s : State} {m : MethodId} {below : List Frame} {meth : Method} {c : Code} (l : Launch) (hflags : l.flags = flags0) {b L : Nat} {xs : Nat → Int32} (hL : L ≤ 2048) (C0 : lw_At p s m meth c b L xs) : W p l e room_1 s m #[Value.ref b] below meth c s.heap [] 0 0 (lw_Z below #[Value.ref b] s) (entryFrame m ([Value.ref b] : List Value).toArray 10) := by
  obtain ⟨hx, hb, hr, hml, hown, hts, hX, hbl, hlocks, hgv⟩ := id C0
  obtain ⟨G, g1, g2, g3, g4, hK⟩ := KS_start l hts hX hbl hgv
  have hg : ∀ w ∈ GW, w.before #[Value.ref b] s = true := fun w hw => hts w (GW_tbl hw)
  have hst : l.stackTraces = false := by
    unfold Launch.stackTraces
    rw [hflags]
    decide +kernel
  have hl := lsOK_entry (G := G) (as := [vr 1000]) (nl := 10) (allc1 rfl) (Nat.le_of_ble_eq_true rfl)
  have e1 : List.map (cv G) [vr 1000] = [Value.ref b] := by
    show [Value.ref (rho G 1000)] = _
    rw [g4]
  rw [e1] at hl
  rw [lg_entry_eq]
  have hGo := l_law_all (G := G) (tb := c.exceptionTable.toList.map fun h => (h.startPc, h.endPc, h.handlerPc, h.catchType)) (K := fun v _ _ => v = vi 1) (X := XF) (by rw [g3]; exact hL) (fun _ => rfl)
  have key := hGo p e room_1 s m #[Value.ref b] below meth c (lw_Z below #[Value.ref b] s) s.heap [] 0 0 _
    ⟨hx, hb, hr, hown, hg, hlocks, (fun h => by cases h), hml, Nat.le_of_ble_eq_true rfl, Nat.le_of_ble_eq_true rfl, hK, by rw [g1]; exact hst, by rw [g2]; exact Nat.le_refl _, (table_eq _).symm⟩
    (fun v nx w H locs cells slots la pc st hv hw hS h1 h2 hR => by
      subst hv
      rcases hR with ⟨h0, -⟩ | ⟨z, ty, ez, h0, hn, hd, rfl⟩ | ⟨a, ez, -⟩ | ⟨x, ez, -⟩ | ⟨x, ez, -⟩
      · cases h0
      · cases ez
        rw [g1]
        refine va_forget (fun q hq => ?_) (W.widen (k := 601024) (n := 7293034) h1 h2 (W.base ?_))
        · have := hS.2.2 q hq
          rw [← g2]
          exact this
        · exact lw_ret (Drawn.sameBut.refl s.drawn lw_cs) hx hb hr hlocks hd
      · cases ez
      · cases ez
      · cases ez)
    (Or.inl (fun _ _ _ h => h)) hl
    ⟨fun k q hq => by have := (wl_inv G (nx := some 1) w00 hq).1; exact absurd this (Nat.not_lt_zero _), fun n hn => by cases hn; exact ⟨Nat.le_refl _, Nat.le_of_ble_eq_true rfl, by rw [g2]; rfl⟩⟩
    va_S.rf (Nat.le_of_ble_eq_true rfl) (Nat.le_of_ble_eq_true rfl)
  rw [g1] at key
  exact key
