/-! WHAT A METHOD OF THE CLASS THROWS -/
def nmsX : List String := ["java/lang/RuntimeException", "java/lang/Exception"]
def exc (k : Nat) : Nat := match k with
  | 1 => 174
  | 2 => 91
  | _ => 210
def exk (k : Nat) : Nat := match k with
  | 1 => 170
  | 2 => 87
  | _ => 206
theorem at1 : ((vx_atS RX11 174 (exn 1) nmsX).filter goodWord).all (fun w => lw_tbl.contains w) = true := by decide +kernel
theorem at2 : ((vx_atS RX11 91 (exn 2) nmsX).filter goodWord).all (fun w => lw_tbl.contains w) = true := by decide +kernel
theorem at3 : ((vx_atS RX11 210 (exn 3) nmsX).filter goodWord).all (fun w => lw_tbl.contains w) = true := by decide +kernel
theorem au1 : (vx_atS RX11 174 (exn 1) nmsX).all (fun w => goodWord w || ((Cond.castable (exn 1) (exn 1)) :: declY.map Cond.declares).contains w) = true := by decide +kernel
theorem au2 : (vx_atS RX11 91 (exn 2) nmsX).all (fun w => goodWord w || ((Cond.castable (exn 2) (exn 2)) :: declY.map Cond.declares).contains w) = true := by decide +kernel
theorem au3 : (vx_atS RX11 210 (exn 3) nmsX).all (fun w => goodWord w || ((Cond.castable (exn 3) (exn 3)) :: declY.map Cond.declares).contains w) = true := by decide +kernel
theorem av1 : (Cond.classLink RX11 170 (exn 1) :: Cond.initialized (exn 1) :: vx_atS RX11 174 (exn 1) nmsX).all vx_ot = true := by decide +kernel
theorem av2 : (Cond.classLink RX11 87 (exn 2) :: Cond.initialized (exn 2) :: vx_atS RX11 91 (exn 2) nmsX).all vx_ot = true := by decide +kernel
theorem av3 : (Cond.classLink RX11 206 (exn 3) :: Cond.initialized (exn 3) :: vx_atS RX11 210 (exn 3) nmsX).all vx_ot = true := by decide +kernel
theorem atk {k : Nat} (hk : kEq k) : (∀ w ∈ vx_atS RX11 (exc k) (exn k) nmsX, (goodWord w = true ∧ w ∈ GW) ∨ w = Cond.castable (exn k) (exn k) ∨ ∃ y ∈ declY, w = Cond.declares y) ∧ (∀ w ∈ Cond.classLink RX11 (exk k) (exn k) :: Cond.initialized (exn k) :: vx_atS RX11 (exc k) (exn k) nmsX, vx_ot w = true) ∧ Cond.classLink RX11 (exk k) (exn k) ∈ GW ∧ Cond.initialized (exn k) ∈ GW ∧ Bundle.fit (exn k) = true := by
  have key : ∀ (ic : Nat) (X : String), ((vx_atS RX11 ic X nmsX).filter goodWord).all (fun w => lw_tbl.contains w) = true → (vx_atS RX11 ic X nmsX).all (fun w => goodWord w || ((Cond.castable X X) :: declY.map Cond.declares).contains w) = true → ∀ w ∈ vx_atS RX11 ic X nmsX, (goodWord w = true ∧ w ∈ GW) ∨ w = Cond.castable X X ∨ ∃ y ∈ declY, w = Cond.declares y := by
    intro ic X h1 h2 w hw
    by_cases g : goodWord w = true
    · have := List.all_eq_true.mp h1 w (List.mem_filter.mpr ⟨hw, g⟩)
      exact Or.inl ⟨g, inG (List.contains_iff_mem.mp this) g⟩
    · have := List.all_eq_true.mp h2 w hw
      rw [Bool.or_eq_true] at this
      rcases this with q | q
      · exact absurd q g
      · rcases List.mem_cons.mp (List.contains_iff_mem.mp q) with e | e
        · exact Or.inr (Or.inl e)
        · obtain ⟨y, hy, e⟩ := List.mem_map.mp e
          exact Or.inr (Or.inr ⟨y, hy, e.symm⟩)
  have c : k = 1 ∨ k = 2 ∨ k = 3 := by have := hk.1; have := hk.2; omega
  rcases c with rfl | rfl | rfl
  · exact ⟨key _ _ at1 au1, List.all_eq_true.mp av1, clX11_170, gi_IndexOutOfBoundsException, by decide +kernel⟩
  · exact ⟨key _ _ at2 au2, List.all_eq_true.mp av2, clX11_87, gi_IllegalStateException, by decide +kernel⟩
  · exact ⟨key _ _ at3 au3, List.all_eq_true.mp av3, clX11_206, gi_IllegalArgumentException, by decide +kernel⟩
section Throw
variable {G : Gm} {cc : ByteArray} {mt : Mt} {d bc bs pc : Nat} {ls : List (Option Vl)} {st : List Vl} {w : Wd} {K : Kt} {X : Xt}
/-- the own cells stay where more is made -/
theorem wholds_grow {H H1 : Heap} (h : wholds G none w H) (hq : ∀ q : Nat, q < H.size → H1[q]? = H[q]?) : wholds G none w H1 := by
  refine ⟨fun k q hk => ?_, fun n hn => by cases hn⟩
  have h0 := h.1 k q hk
  refine h0.kept (hq _ ?_)
  obtain ⟨a, e⟩ := q
  cases e with
  | inl x => exact (Array.getElem?_eq_some_iff.mp (show H[a]? = some _ from h0)).1
  | inr o =>
    obtain ⟨r, -, h2⟩ := h0
    obtain ⟨c, h3, -⟩ := h2
    exact (Array.getElem?_eq_some_iff.mp h3).1
theorem Go_throw {k is : Nat} {tx : String} (hk : kEq k) (hx : (RX11, is, tx) ∈ txs) (ho : mt.2.1 = RX11) (ht : mt.2.2.2 = []) (hd : 6 ≤ d) (hbc : 1 ≤ bc) (hbs : 6 ≤ bs)
    (d0 : decode cc pc = .ok (.new (exk k), 3)) (d3 : decode cc (pc + 3) = .ok (.dup, 1)) (d4 : decode cc (pc + 4) = .ok (.ldc is, 2)) (d6 : decode cc (pc + 6) = .ok (.invokespecial (exc k), 3)) (d9 : decode cc (pc + 9) = .ok (.athrow, 1))
    (hsum : (st.map fun v => (cv G v).category).sum ≤ 8) (kx : X k none w) : Go G cc mt none d bc bs pc ls st w K X := by
  intro p e R s m args below meth c Q H locs cells slots la C EK EX hl hw hS h1 h2
  obtain ⟨cx, cb, -, co, ct, clk, -, cml, cf, cl, cK, cst, csz, ctab⟩ := id C
  obtain ⟨a1, a2, a3, a4, a5⟩ := atk hk
  rcases EX with h | ⟨Qc, XC, mc, ms, rfl, hc, hs, htab, hXC⟩
  · exact (h k none w kx).elim
  rw [ho] at co
  obtain ⟨sa, hsa⟩ := cK.2.2.2.2.2.1 _ hx
  refine vx_throwS cx cb cst (own := RX11) (names := nmsX) (sa := sa) (A := ownA G) co a5 (by decide +kernel) (ct _ a3) (ct _ a4) hsa (fun w hw => ?_) a2 cK.2.1 cK.2.2.1 hS (by show la.size = _; rw [cml, hl.1]) d0 d3 d4 d6 d9 (fun x hx => (htab x hx).elim) (by show 2 + 3 < _; omega) (by rw [List.map_map]; have q1 : ((List.map ((fun v => v.category) ∘ cv G) st)).sum ≤ 8 := hsum; show _ + (13 * (2 + 1) + 43) ≤ _; omega) (by omega) (by omega) clk (fun t ha hz hq => ?_) hS.2.2 (by omega) (by omega)
  · rcases a1 w hw with q | q | ⟨y, hy, q⟩
    · exact ct _ q.2
    · rw [q]; exact va_Nw.use rfl (cK.2.2.2.2.2.2.2.2.2.2.1.1 k hk)
    · rw [q]; exact va_Nw.use rfl (cK.2.2.2.2.2.2.2.2.2.2.1.2 y hy)
  · exact hXC k none w t kx (wholds_grow hw hq) ⟨Nat.le_trans hS.1 hz, fun q g1 g2 => by rw [hq q (Nat.lt_of_lt_of_le g1 hS.1)]; exact hS.2.1 q g1 g2⟩
theorem Go_throwW {k is : Nat} {tx : String} (hk : kEq k) (hx : (RX11, is, tx) ∈ txs) (ho : mt.2.1 = RX11) (ht : mt.2.2.2 = []) (hd : 6 ≤ d) (hbc : 1 ≤ bc) (hbs : 6 ≤ bs)
    (d0 : decode cc pc = .ok (.new (exk k), 3)) (d3 : decode cc (pc + 3) = .ok (.dup, 1)) (d4 : decode cc (pc + 4) = .ok (.ldc_w is, 3)) (d6 : decode cc (pc + 7) = .ok (.invokespecial (exc k), 3)) (d9 : decode cc (pc + 10) = .ok (.athrow, 1))
    (hsum : (st.map fun v => (cv G v).category).sum ≤ 8) (kx : X k none w) : Go G cc mt none d bc bs pc ls st w K X := by
  intro p e R s m args below meth c Q H locs cells slots la C EK EX hl hw hS h1 h2
  obtain ⟨cx, cb, -, co, ct, clk, -, cml, cf, cl, cK, cst, csz, ctab⟩ := id C
  obtain ⟨a1, a2, a3, a4, a5⟩ := atk hk
  rcases EX with h | ⟨Qc, XC, mc, ms, rfl, hc, hs, htab, hXC⟩
  · exact (h k none w kx).elim
  rw [ho] at co
  obtain ⟨sa, hsa⟩ := cK.2.2.2.2.2.1 _ hx
  refine vx_throwSW cx cb cst (own := RX11) (names := nmsX) (sa := sa) (A := ownA G) co a5 (by decide +kernel) (ct _ a3) (ct _ a4) hsa (fun w hw => ?_) a2 cK.2.1 cK.2.2.1 hS (by show la.size = _; rw [cml, hl.1]) d0 d3 d4 d6 d9 (fun x hx => (htab x hx).elim) (by show 2 + 3 < _; omega) (by rw [List.map_map]; have q1 : ((List.map ((fun v => v.category) ∘ cv G) st)).sum ≤ 8 := hsum; show _ + (13 * (2 + 1) + 43) ≤ _; omega) (by omega) (by omega) clk (fun t ha hz hq => ?_) hS.2.2 (by omega) (by omega)
  · rcases a1 w hw with q | q | ⟨y, hy, q⟩
    · exact ct _ q.2
    · rw [q]; exact va_Nw.use rfl (cK.2.2.2.2.2.2.2.2.2.2.1.1 k hk)
    · rw [q]; exact va_Nw.use rfl (cK.2.2.2.2.2.2.2.2.2.2.1.2 y hy)
  · exact hXC k none w t kx (wholds_grow hw hq) ⟨Nat.le_trans hS.1 hz, fun q g1 g2 => by rw [hq q (Nat.lt_of_lt_of_le g1 hS.1)]; exact hS.2.1 q g1 g2⟩
end Throw
