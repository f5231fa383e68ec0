theorem BT_spare {w w' : Wd} {ps : List (List Nat)} {q : Nat} (h : BT w ps) (hq : q < 5) (hp : ps.length ≤ q) (f : frm w w' [tA w q, tA w q + 1]) : BT w' ps := by
  obtain ⟨a1, a2, a3, a4, a5⟩ := h
  have b0 := bts_sh (a3 q hq).1
  have e3 : w' 3 = w 3 := f 3 (by simp; omega)
  have e2 : w' 2 = w 2 := f 2 (by simp; omega)
  have eA : ∀ p, tA w' p = tA w p := fun p => by unfold tA; rw [e3]
  refine ⟨by rw [e2, a1], a2, fun q hq => by rw [eA, e3]; exact a3 q hq, fun q r hq hr e => a4 q r hq hr (by rw [← eA, ← eA]; exact e), fun r hr => ?_⟩
  rw [eA]
  have b := bts_sh (a3 r (by omega)).1
  have hne : tA w r ≠ tA w q := fun x => by have := a4 r q (by omega) hq x; omega
  exact (a5 r hr).frm f (by simp; omega) (by simp; omega)
theorem BT_app {w : Wd} {ps : List (List Nat)} {l : List Nat} (h : BT w ps) (hn : ps.length < 5) (t : TR w (tA w ps.length) l) : BT (up w 2 1 ((ps.length : Int) + 1)) (ps ++ [l]) := by
  obtain ⟨a1, a2, a3, a4, a5⟩ := h
  have e3 : (up w 2 1 ((ps.length : Int) + 1)) 3 = w 3 := up_f (by decide)
  have eA : ∀ p, tA (up w 2 1 ((ps.length : Int) + 1)) p = tA w p := fun p => by unfold tA; rw [e3]
  refine ⟨by rw [up_s]; simp, by simp; omega, fun q hq => by rw [eA, e3]; exact a3 q hq, fun q r hq hr e => a4 q r hq hr (by rw [← eA, ← eA]; exact e), fun r hr => ?_⟩
  rw [List.length_append, List.length_cons, List.length_nil] at hr
  rw [eA, pth_app]
  have b := bts_sh (a3 r (by omega)).1
  by_cases e : r = ps.length
  · rw [if_pos e, e]
    rw [e] at b
    exact t.frm (A := [2]) (frm.rfl.up (by simp)) (by simp; omega) (by simp; omega)
  · rw [if_neg e]
    exact (a5 r (by omega)).frm (A := [2]) (frm.rfl.up (by simp)) (by simp; omega) (by simp; omega)
/-- a board is marked anew -/
theorem BS_mk {w w1 w2 : Wd} {s : Sta} {ps' : List (List Nat)} {A : List Nat} (h : BS w s) (f1 : frm w w1 A) (hA : ∀ a ∈ A, a ∈ bcs) (hc : ∀ j, j ≠ 1 → w1 2 j = w 2 j) (d2 : BD w2 ps') (f2 : frm w1 w2 [2, 4, 5]) (g2 : ∀ j, j ≠ 7 → w2 2 j = w1 2 j) : BS w2 (ps', s.2.1, s.2.2.1, s.2.2.2) ∧ frm w w2 bcs :=
  ⟨⟨d2, by rw [g2 2 (by decide), hc 2 (by decide)]; exact h.2.1, by rw [g2 3 (by decide), hc 3 (by decide)]; exact h.2.2.1, by rw [g2 4 (by decide), hc 4 (by decide)]; exact h.2.2.2⟩, (f1.mono hA).trans f2 (by decide)⟩
theorem OKp.back {ps : List (List Nat)} {p n : Nat} (h : OKp ps) (hp : p < ps.length) (hn : 1 ≤ n) : OKp (ps.set p ((pth ps p).take n)) := by
  have hl := h.len hp
  exact h.set hp (by rw [List.length_take]; omega) (by rw [List.length_take]; omega) ((h.adj hp).take _) ((h.lt p).take _) ((h.nd p).1.sublist (List.take_sublist _ _)) (fun x hx q hq => (h.nd p).2 q (by omega) x (List.mem_of_mem_take hx))
theorem OKp.rev {ps : List (List Nat)} {p : Nat} (h : OKp ps) (hp : p < ps.length) : OKp (ps.set p (pth ps p).reverse) := by
  have hl := h.len hp
  exact h.set hp (by rw [List.length_reverse]; omega) (by rw [List.length_reverse]; omega) ((h.adj hp).rev (h.lt p)) (h.lt p).rev (List.pairwise_reverse.mpr ((h.nd p).1.imp (fun h => Ne.symm h))) (fun x hx q hq => (h.nd p).2 q (by omega) x (List.mem_reverse.mp hx))
theorem OKp.split {ps : List (List Nat)} {p n : Nat} (h : OKp ps) (h5 : ps.length < 5) (hp : p < ps.length) (hn : n + 1 < (pth ps p).length) : OKp (ps.set p ((pth ps p).take (n + 1)) ++ [(pth ps p).drop (n + 1)]) := by
  have hl := h.len hp
  refine (h.back hp (n := n + 1) (by omega)).app (by rw [List.length_set]; exact h5) (by rw [List.length_drop]; omega) (by rw [List.length_drop]; omega) ((h.adj hp).drop _) ((h.lt p).drop _) ((h.nd p).1.sublist (List.drop_sublist _ _)) (fun x hx q hq => ?_)
  rw [pth_set hp] at hq
  have hx2 := List.mem_of_mem_drop hx
  by_cases e : q = p
  · rw [if_pos e] at hq
    obtain ⟨i, hi, ei⟩ := mem_getD hx
    obtain ⟨j, hj, ej⟩ := mem_getD hq
    rw [List.length_drop] at hi
    rw [List.length_take] at hj
    rw [drop_getD] at ei
    rw [gD_take (by omega)] at ej
    have i1 := idx_getD (h.nd p).1 (j := n + 1 + i) (by omega)
    rw [ei, ← ej, idx_getD (h.nd p).1 (by omega)] at i1
    omega
  · rw [if_neg e] at hq
    exact (h.nd p).2 q (by omega) x hx2 hq
section Ops2
variable {G : Gm} {w : Wd} {K : Kt} {X : Xt} {s : Sta} {p : Nat}
theorem e_X0_shorten (h : BS w s) (ho : OKp s.1) (hp : p < s.1.length) (h2 : 2 ≤ (pth s.1 p).length) (k : ∀ w', BS w' (s.1.set p ((pth s.1 p).take ((pth s.1 p).length - 1)), s.2.1, s.2.2.1, s.2.2.2) → frm w w' bcs → K (vi ((pth s.1 p).length - 1)) none w') : Ev G yX0_shorten cX0_shorten 3 mX0_shorten none 3 0 0 [vr 2, vi (p : Int)] w K X := by
  have h0 := h
  obtain ⟨⟨hb, hm, ht0⟩, c1, c2, c3⟩ := h
  have h5 := hb.2.1
  have h3 := hb.2.2.1 p (by omega)
  have hT := hb.2.2.2.2 p hp
  have hts := bts_sh h3.1
  have hts1 := hts.1
  have hl := ho.len hp
  have hO := ho.back hp (n := (pth s.1 p).length - 1) (by omega)
  refine Ev_intro mvX0_shorten.1 rfl (fun h => by cases h) (allc1 rfl) (Nat.le_of_ble_eq_true rfl) (Or.inl rfl) ?_
  show Go G cX0_shorten mX0_shorten none 3 0 0 0 [some (vr 2), some (vi (p : Int)), none] [] w K X
  refine Go_ald0 dX0_shorten_0 ?_
  refine gf0_0 dX0_shorten_1 flX0_11 ?_
  refine Go_ild1 dX0_shorten_4 ?_
  refine Go_aald5 dX0_shorten_5 rfl trivial (by omega) (by omega) (by decide) (by rw [Int.toNat_natCast]; exact h3.2) hts.2.1 ?_
  refine Go_ast2 dX0_shorten_6 rfl ?_
  refine Go_ald2 dX0_shorten_7 ?_
  refine Go_ald2 dX0_shorten_8 ?_
  refine Go_cV0 (d' := 0) (bc' := 0) (bs' := 0) rfl dX0_shorten_9 mvX9_length rfl lkX0_38 (by first | assumption | rfl) rfl trivial (by decide) (by decide) (by decide) (Nat.le_of_ble_eq_true rfl) ?_
  refine e_X9_length hT ?_
  refine Go_iconst dX0_shorten_12 ?_
  refine Go_isub dX0_shorten_13 ?_
  rw [show ((pth s.1 p).length : Int) - 2 = (((pth s.1 p).length - 2 : Nat) : Int) by omega]
  refine Go_cVv1 (d' := 1) (bc' := 0) (bs' := 0) rfl dX0_shorten_14 mvX9_endAt rfl lkX0_104 (by first | assumption | rfl) rfl trivial (by decide) (by decide) (by decide) (Nat.le_of_ble_eq_true rfl) ?_
  refine e_X9_endAt hT (by omega) (fun w1 t1 f1 => ?_)
  rw [show (pth s.1 p).length - 2 + 1 = (pth s.1 p).length - 1 by omega] at t1
  refine Go_ald0 dX0_shorten_17 ?_
  refine Go_cVv0 (d' := 2) (bc' := 0) (bs' := 0) rfl dX0_shorten_18 mvX0_markSites rfl lkX0_69 (by first | assumption | rfl) rfl trivial (by decide) (by decide) (by decide) (Nat.le_of_ble_eq_true rfl) ?_
  refine e_X0_markSites (BT_put hb hp rfl f1 t1) hO.2.2.1 hO.2.2.2 (fun w2 d2 f2 g2 => ?_)
  refine Go_ald2 dX0_shorten_21 ?_
  refine Go_cV0 (d' := 0) (bc' := 0) (bs' := 0) rfl dX0_shorten_22 mvX9_length rfl lkX0_38 (by first | assumption | rfl) rfl trivial (by decide) (by decide) (by decide) (Nat.le_of_ble_eq_true rfl) ?_
  refine e_X9_length (t1.frm f2 (by simp; omega) (by simp; omega)) ?_
  refine Go_ireturn dX0_shorten_25 rfl (by first | rfl | decide | exact nar_b | simp [narrow]) ?_
  obtain ⟨r1, r2⟩ := BS_mk h0 f1 (bcs_t h3.1) (fun j _ => by rw [f1.at (by simp; omega)]) d2 f2 g2
  refine kI ?_ (k _ r1 r2)
  rw [List.length_take]; omega
theorem e_X0_flip (h : BS w s) (ho : OKp s.1) (hp : p < s.1.length) (k : ∀ w', BS w' (s.1.set p (pth s.1 p).reverse, s.2.1, s.2.2.1, s.2.2.2) → frm w w' bcs → K (vi (hdL (pth s.1 p).reverse)) none w') : Ev G yX0_flip cX0_flip 2 mX0_flip none 3 0 0 [vr 2, vi (p : Int)] w K X := by
  have h0 := h
  obtain ⟨⟨hb, hm, ht0⟩, c1, c2, c3⟩ := h
  have h5 := hb.2.1
  have h3 := hb.2.2.1 p (by omega)
  have hT := hb.2.2.2.2 p hp
  have hts := bts_sh h3.1
  have hts1 := hts.1
  have hl := ho.len hp
  have hO := ho.rev hp
  refine Ev_intro mvX0_flip.1 rfl (fun h => by cases h) (allc1 rfl) (Nat.le_of_ble_eq_true rfl) (Or.inl rfl) ?_
  show Go G cX0_flip mX0_flip none 3 0 0 0 [some (vr 2), some (vi (p : Int))] [] w K X
  refine Go_ald0 dX0_flip_0 ?_
  refine gf0_0 dX0_flip_1 flX0_11 ?_
  refine Go_ild1 dX0_flip_4 ?_
  refine Go_aald5 dX0_flip_5 rfl trivial (by omega) (by omega) (by decide) (by rw [Int.toNat_natCast]; exact h3.2) hts.2.1 ?_
  refine Go_cVv0 (d' := 0) (bc' := 0) (bs' := 0) rfl dX0_flip_6 mvX9_flip rfl lkX0_107 (by first | assumption | rfl) rfl trivial (by decide) (by decide) (by decide) (Nat.le_of_ble_eq_true rfl) ?_
  refine e_X9_flip hT hl.1 (fun w1 t1 f1 => ?_)
  refine Go_ald0 dX0_flip_9 ?_
  refine Go_cVv0 (d' := 2) (bc' := 0) (bs' := 0) rfl dX0_flip_10 mvX0_markSites rfl lkX0_69 (by first | assumption | rfl) rfl trivial (by decide) (by decide) (by decide) (Nat.le_of_ble_eq_true rfl) ?_
  refine e_X0_markSites (BT_put hb hp rfl f1 t1) hO.2.2.1 hO.2.2.2 (fun w2 d2 f2 g2 => ?_)
  refine Go_ald0 dX0_flip_13 ?_
  refine gf0_0 dX0_flip_14 flX0_11 ?_
  refine Go_ild1 dX0_flip_17 ?_
  have e3 : w2 3 = w 3 := by rw [f2 3 (by decide), f1 3 (by simp; omega)]
  refine Go_aald5 dX0_flip_18 rfl trivial (by omega) (by omega) (by decide) (by rw [Int.toNat_natCast, e3]; exact h3.2) hts.2.1 ?_
  refine Go_cV0 (d' := 2) (bc' := 0) (bs' := 0) rfl dX0_flip_19 mvX9_head rfl lkX0_72 (by first | assumption | rfl) rfl trivial (by decide) (by decide) (by decide) (Nat.le_of_ble_eq_true rfl) ?_
  refine e_X9_headN (t1.frm f2 (by simp; omega) (by simp; omega)) (by rw [List.length_reverse]; exact hl.1) ?_
  refine Go_ireturn dX0_flip_22 rfl (by first | rfl | decide | exact nar_b | simp [narrow]) ?_
  obtain ⟨r1, r2⟩ := BS_mk h0 f1 (bcs_t h3.1) (fun j _ => by rw [f1.at (by simp; omega)]) d2 f2 g2
  exact k _ r1 r2
theorem e_X0_add {l : List Nat} (h : BS w s) (hs : TR w 47 l) (h5 : s.1.length < 5) (ho : OKp (s.1 ++ [l])) (k : ∀ w', BS w' (s.1 ++ [l], s.2.1, s.2.2.1, s.2.2.2) → frm w w' bcs → K (vi s.1.length) none w') : Ev G yX0_add cX0_add 3 mX0_add none 3 0 0 [vr 2, vr 47] w K X := by
  have h0 := h
  obtain ⟨⟨hb, hm, ht0⟩, c1, c2, c3⟩ := h
  have h3 := hb.2.2.1 s.1.length h5
  have hts := bts_sh h3.1
  have hts1 := hts.1
  refine Ev_intro mvX0_add.1 rfl (fun h => by cases h) (allc1 rfl) (Nat.le_of_ble_eq_true rfl) (Or.inl rfl) ?_
  show Go G cX0_add mX0_add none 3 0 0 0 [some (vr 2), some (vr 47), none] [] w K X
  refine Go_ald0 dX0_add_0 ?_
  refine gf0_1 dX0_add_1 flX0_35 (by first | assumption | rfl) ?_
  rw [hb.1]
  refine Go_ist2 dX0_add_4 rfl ?_
  refine Go_ald0 dX0_add_5 ?_
  refine gf0_0 dX0_add_6 flX0_11 ?_
  refine Go_ild2 dX0_add_9 ?_
  refine Go_aald5 dX0_add_10 rfl trivial (by omega) (by omega) (by decide) (by rw [Int.toNat_natCast]; exact h3.2) hts.2.1 ?_
  refine Go_ald1 dX0_add_11 ?_
  refine Go_iconst dX0_add_12 ?_
  refine Go_cVv2 (d' := 2) (bc' := 0) (bs' := 0) rfl dX0_add_13 mvX9_copyFrom rfl lkX0_65 (by first | assumption | rfl) rfl trivial (by decide) (by decide) (by decide) (Nat.le_of_ble_eq_true rfl) ?_
  refine e_X9_copyFrom (f := 0) hts.1 hs (by omega) (by omega) (by omega) (by omega) (fun w1 t1 f1 => ?_)
  refine Go_ald0 dX0_add_16 ?_
  refine Go_dup dX0_add_17 ?_
  refine gf0_1 dX0_add_18 flX0_35 (by first | assumption | rfl) ?_
  refine Go_iconst dX0_add_21 ?_
  have e2 : w1 2 = w 2 := f1 2 (by simp; omega)
  rw [e2, hb.1]
  refine Go_iadd dX0_add_22 ?_
  refine pf0_1 dX0_add_23 flX0_35 (by first | assumption | rfl) ?_
  refine Go_ald0 dX0_add_26 ?_
  have e3 : tA w1 s.1.length = tA w s.1.length := by unfold tA; rw [f1 3 (by simp; omega)]
  have hb1 := BT_app (BT_spare hb h5 (Nat.le_refl _) f1) h5 (l := l) (by rw [e3]; exact t1)
  refine Go_cVv0 (d' := 2) (bc' := 0) (bs' := 0) rfl dX0_add_27 mvX0_markSites rfl lkX0_69 (by first | assumption | rfl) rfl trivial (by decide) (by decide) (by decide) (Nat.le_of_ble_eq_true rfl) ?_
  refine e_X0_markSites hb1 ho.2.2.1 ho.2.2.2 (fun w2 d2 f2 g2 => ?_)
  refine Go_ild2 dX0_add_30 ?_
  refine Go_ireturn dX0_add_31 rfl (by first | rfl | decide | exact nar_b | simp [narrow]) ?_
  obtain ⟨r1, r2⟩ := BS_mk (A := bcs) h0 ((f1.mono (bcs_t h3.1)).up (by decide)) (fun _ h => h) (fun j hj => by rw [up_k hj, e2]) d2 f2 g2
  exact k _ r1 r2
theorem e_X0_cut {n : Nat} (h : BS w s) (ho : OKp s.1) (hp : p < s.1.length) (h5 : s.1.length < 5) (hn : n + 1 < (pth s.1 p).length) (k : ∀ w', BS w' (s.1.set p ((pth s.1 p).take (n + 1)) ++ [(pth s.1 p).drop (n + 1)], s.2.1, s.2.2.1, s.2.2.2) → frm w w' bcs → K (vi s.1.length) none w') : Ev G yX0_cut cX0_cut 4 mX0_cut none 3 0 0 [vr 2, vi (p : Int), vi (n : Int)] w K X := by
  have h0 := h
  obtain ⟨⟨hb, hm, ht0⟩, c1, c2, c3⟩ := h
  have h3 := hb.2.2.1 s.1.length h5
  have h3p := hb.2.2.1 p (by omega)
  have hne : tA w p ≠ tA w s.1.length := fun x => by have := hb.2.2.2.1 p s.1.length (by omega) h5 x; omega
  have hT := hb.2.2.2.2 p hp
  have hts := bts_sh h3.1
  have hts1 := hts.1
  have htp := bts_sh h3p.1
  have htp1 := htp.1
  have hl := ho.len hp
  have hO := ho.split h5 hp hn
  refine Ev_intro mvX0_cut.1 rfl (fun h => by cases h) (allc1 rfl) (Nat.le_of_ble_eq_true rfl) (Or.inl rfl) ?_
  show Go G cX0_cut mX0_cut none 3 0 0 0 [some (vr 2), some (vi (p : Int)), some (vi (n : Int)), none] [] w K X
  refine Go_ald0 dX0_cut_0 ?_
  refine gf0_1 dX0_cut_1 flX0_35 (by first | assumption | rfl) ?_
  rw [hb.1]
  refine Go_ist3 dX0_cut_4 rfl ?_
  refine Go_ald0 dX0_cut_5 ?_
  refine gf0_0 dX0_cut_6 flX0_11 ?_
  refine Go_ild3 dX0_cut_9 ?_
  refine Go_aald5 dX0_cut_10 rfl trivial (by omega) (by omega) (by decide) (by rw [Int.toNat_natCast]; exact h3.2) hts.2.1 ?_
  refine Go_ald0 dX0_cut_11 ?_
  refine gf0_0 dX0_cut_12 flX0_11 ?_
  refine Go_ild1 dX0_cut_15 ?_
  refine Go_aald5 dX0_cut_16 rfl trivial (by omega) (by omega) (by decide) (by rw [Int.toNat_natCast]; exact h3p.2) htp.2.1 ?_
  refine Go_ild2 dX0_cut_17 ?_
  refine Go_iconst dX0_cut_18 ?_
  refine Go_iadd dX0_cut_19 ?_
  refine Go_cVv2 (d' := 2) (bc' := 0) (bs' := 0) rfl dX0_cut_20 mvX9_copyFrom rfl lkX0_65 (by first | assumption | rfl) rfl trivial (by decide) (by decide) (by decide) (Nat.le_of_ble_eq_true rfl) ?_
  refine e_X9_copyFrom (f := n + 1) hts.1 hT hne (by omega) (by omega) (by omega) (fun w1 t1 f1 => ?_)
  have e3 : w1 3 = w 3 := f1 3 (by simp; omega)
  have hT1 := hT.frm f1 (by simp; omega) (by simp; omega)
  have hb1 := BT_spare hb h5 (Nat.le_refl _) f1
  have eA : ∀ q, tA w1 q = tA w q := fun q => by unfold tA; rw [e3]
  refine Go_ald0 dX0_cut_23 ?_
  refine gf0_0 dX0_cut_24 flX0_11 ?_
  refine Go_ild1 dX0_cut_27 ?_
  refine Go_aald5 dX0_cut_28 rfl trivial (by omega) (by omega) (by decide) (by rw [Int.toNat_natCast, e3]; exact h3p.2) htp.2.1 ?_
  refine Go_ild2 dX0_cut_29 ?_
  refine Go_cVv1 (d' := 1) (bc' := 0) (bs' := 0) rfl dX0_cut_30 mvX9_endAt rfl lkX0_104 (by first | assumption | rfl) rfl trivial (by decide) (by decide) (by decide) (Nat.le_of_ble_eq_true rfl) ?_
  refine e_X9_endAt hT1 (by omega) (fun w2 t2 f2 => ?_)
  have hb2 := BT_put (w' := w2) hb1 hp (by rw [eA]) f2 (by rw [eA]; exact t2)
  have e4 : w2 2 = w 2 := by rw [f2 2 (by simp; omega), f1 2 (by simp; omega)]
  have e5 : w2 3 = w 3 := by rw [f2 3 (by simp; omega), e3]
  have hT2 := t1.frm f2 (by simp; omega) (by simp; omega)
  have hb3 := BT_app (l := (pth s.1 p).drop (n + 1)) hb2 (by rw [List.length_set]; exact h5) (by rw [List.length_set]; unfold tA at hT2 ⊢; rw [e5]; exact hT2)
  rw [List.length_set] at hb3
  refine Go_ald0 dX0_cut_33 ?_
  refine Go_dup dX0_cut_34 ?_
  refine gf0_1 dX0_cut_35 flX0_35 (by first | assumption | rfl) ?_
  rw [e4, hb.1]
  refine Go_iconst dX0_cut_38 ?_
  refine Go_iadd dX0_cut_39 ?_
  refine pf0_1 dX0_cut_40 flX0_35 (by first | assumption | rfl) ?_
  refine Go_ald0 dX0_cut_43 ?_
  refine Go_cVv0 (d' := 2) (bc' := 0) (bs' := 0) rfl dX0_cut_44 mvX0_markSites rfl lkX0_69 (by first | assumption | rfl) rfl trivial (by decide) (by decide) (by decide) (Nat.le_of_ble_eq_true rfl) ?_
  refine e_X0_markSites hb3 hO.2.2.1 hO.2.2.2 (fun w3 d3 f3 g3 => ?_)
  refine Go_ild3 dX0_cut_47 ?_
  refine Go_ireturn dX0_cut_48 rfl (by first | rfl | decide | exact nar_b | simp [narrow]) ?_
  obtain ⟨r1, r2⟩ := BS_mk (A := bcs) h0 (((f1.mono (bcs_t h3.1)).trans f2 (bcs_t h3p.1)).up (by decide)) (fun _ h => h) (fun j hj => by rw [up_k hj, e4]) d3 f3 g3
  exact k _ r1 r2
/-- which trail a path has, once a path is gone -/
def sft (p n q : Nat) : Nat := if q = n - 1 then p else if p ≤ q ∧ q < n - 1 then q + 1 else q
theorem BT_drop {w w' : Wd} {ps : List (List Nat)} (h : BT w ps) (hp : p < ps.length) (f : frm w w' [2, 3]) (h1 : w' 2 1 = (ps.length : Int) - 1) (h3 : ∀ q, q < 5 → w' 3 q = w 3 (sft p ps.length q)) : BT w' (ps.eraseIdx p) := by
  obtain ⟨a1, a2, a3, a4, a5⟩ := h
  have e0 : (ps.eraseIdx p).length = ps.length - 1 := List.length_eraseIdx_of_lt hp
  have s5 : ∀ q, q < 5 → sft p ps.length q < 5 := fun q hq => by unfold sft; split; omega; split <;> omega
  have eA : ∀ q, q < 5 → tA w' q = tA w (sft p ps.length q) := fun q hq => by unfold tA; rw [h3 q hq]
  refine ⟨by rw [h1, e0]; omega, by rw [e0]; omega, fun q hq => by rw [eA q hq, h3 q hq]; exact a3 _ (s5 q hq), fun q r hq hr e => ?_, fun q hq => ?_⟩
  · rw [eA q hq, eA r hr] at e
    have := a4 _ _ (s5 q hq) (s5 r hr) e
    unfold sft at this
    split at this <;> split at this <;> (try split at this) <;> (try split at this) <;> omega
  · rw [e0] at hq
    rw [eA q (by omega), pth_erase]
    have e9 : (if q < p then pth ps q else pth ps (q + 1)) = pth ps (sft p ps.length q) := by
      unfold sft
      by_cases q1 : q < p
      · rw [if_pos q1, if_neg (by omega), if_neg (by omega)]
      · rw [if_neg q1, if_neg (by omega), if_pos (by omega)]
    have hlt : sft p ps.length q < ps.length := by unfold sft; split; omega; split <;> omega
    rw [e9]
    have b := bts_sh (a3 _ (s5 q (by omega))).1
    exact (a5 _ hlt).frm f (by simp; omega) (by simp; omega)
theorem e_X0_drop {ps : List (List Nat)} (h : BT w ps) (hp : p < ps.length) (hl : LTp (ps.eraseIdx p)) (hn : ND (ps.eraseIdx p)) (k : ∀ w', BD w' (ps.eraseIdx p) → frm w w' [2, 3, 4, 5] → (∀ j, j ≠ 1 → j ≠ 7 → w' 2 j = w 2 j) → K (vi 0) none w') : Ev G yX0_drop cX0_drop 4 mX0_drop none 3 0 0 [vr 2, vi (p : Int)] w K X := by
  have h5 := h.2.1
  have h1 := h.1
  have h3 := h.2.2.1 p (by omega)
  have hts := bts_sh h3.1
  have hts1 := hts.1
  refine Ev_intro mvX0_drop.1 rfl (fun h => by cases h) (allc1 rfl) (Nat.le_of_ble_eq_true rfl) (Or.inl rfl) ?_
  show Go G cX0_drop mX0_drop none 3 0 0 0 [some (vr 2), some (vi (p : Int)), none, none] [] w K X
  refine Go_ald0 dX0_drop_0 ?_
  refine gf0_0 dX0_drop_1 flX0_11 ?_
  refine Go_ild1 dX0_drop_4 ?_
  refine Go_aald5 dX0_drop_5 rfl trivial (by omega) (by omega) (by decide) (by rw [Int.toNat_natCast]; exact h3.2) hts.2.1 ?_
  refine Go_ast2 dX0_drop_6 rfl ?_
  refine Go_ild1 dX0_drop_7 ?_
  refine Go_iconst dX0_drop_8 ?_
  refine Go_iadd dX0_drop_9 ?_
  refine Go_ist3 dX0_drop_10 rfl ?_
  refine Go_upTo (n := ps.length - p - 1) (L := fun i => [some (vr 2), some (vi (p : Int)), some (vr (tA w p)), some (vi ((p : Int) + 1 + i))]) (P := fun i v => frm w v [3] ∧ ∀ q, v 3 q = if p ≤ q ∧ q < p + i then w 3 (q + 1) else w 3 q) (by repeat' (first | exact Or.inl rfl | exact Or.inr rfl | exact Or.inr (lcg (by omega)) | exact trivial | constructor)) (⟨frm.rfl, fun q => by rw [if_neg (by omega)]⟩) (fun i v hi hP kn => ?_) (fun v hP => ?_)
  · try dsimp only at hP kn
    try dsimp only
    obtain ⟨f1, hv⟩ := hP
    have e1 : v 2 1 = (ps.length : Int) := by rw [f1.at (by decide), h1]
    have h3i := h.2.2.1 (p + 1 + i) (by omega)
    have hti := bts_sh h3i.1
    have hti1 := hti.1
    refine Go_ild3 dX0_drop_11 ?_
    refine Go_ald0 dX0_drop_12 ?_
    refine gf0_1 dX0_drop_13 flX0_35 (by first | assumption | rfl) ?_
    refine Go_icmp_ge (tgt := 39) dX0_drop_16 (by decide) (by constructor <;> omega) (by constructor <;> omega) (fun h16 => by omega) (fun h16 => ?_)
    refine Go_ald0 dX0_drop_19 ?_
    refine gf0_0 dX0_drop_20 flX0_11 ?_
    refine Go_ild3 dX0_drop_23 ?_
    refine Go_iconst dX0_drop_24 ?_
    refine Go_isub dX0_drop_25 ?_
    refine Go_ald0 dX0_drop_26 ?_
    refine gf0_0 dX0_drop_27 flX0_11 ?_
    refine Go_ild3 dX0_drop_30 ?_
    refine Go_aald5 dX0_drop_31 (a := 3) rfl trivial (by omega) (by omega) (by decide) (by rw [show ((p : Int) + 1 + i).toNat = p + 1 + i by omega, hv, if_neg (by omega)]; exact h3i.2) hti.2.1 ?_
    refine Go_aast5 dX0_drop_32 (a := 3) rfl hti1 trivial trivial (by omega) (by omega) (by decide) ?_
    refine Go_inc3 dX0_drop_33 rfl ?_
    refine Go_goto (tgt := 11) dX0_drop_36 (by decide) ?_
    refine Go_forget (by repeat' (first | exact Or.inl rfl | exact Or.inr rfl | exact Or.inr (lcg (by omega)) | exact trivial | constructor)) (kn _ ⟨f1.up (by decide), fun q => ?_⟩)
    rw [show ((p : Int) + 1 + i - 1).toNat = p + i by omega, ← h3i.2]
    by_cases e : q = p + i
    · subst e; rw [up_s, if_pos (by omega), show p + i + 1 = p + 1 + i by omega]
    · rw [up_k e, hv]
      by_cases e2 : p ≤ q ∧ q < p + i
      · rw [if_pos e2, if_pos (by omega)]
      · rw [if_neg e2, if_neg (by omega)]
  · try dsimp only at hP
    try dsimp only
    obtain ⟨f1, hv⟩ := hP
    have e1 : v 2 1 = (ps.length : Int) := by rw [f1.at (by decide), h1]
    refine Go_ild3 dX0_drop_11 ?_
    refine Go_ald0 dX0_drop_12 ?_
    refine gf0_1 dX0_drop_13 flX0_35 (by first | assumption | rfl) ?_
    refine Go_icmp_ge (tgt := 39) dX0_drop_16 (by decide) (by constructor <;> omega) (by constructor <;> omega) (fun h16 => ?_) (fun h16 => by omega)
    refine Go_ald0 dX0_drop_39 ?_
    refine Go_dup dX0_drop_40 ?_
    refine gf0_1 dX0_drop_41 flX0_35 (by first | assumption | rfl) ?_
    refine Go_iconst dX0_drop_44 ?_
    refine Go_isub dX0_drop_45 ?_
    refine pf0_1 dX0_drop_46 flX0_35 (by first | assumption | rfl) ?_
    rw [e1]
    refine Go_ald0 dX0_drop_49 ?_
    refine gf0_0 dX0_drop_50 flX0_11 ?_
    refine Go_ald0 dX0_drop_53 ?_
    refine gf0_1 dX0_drop_54 flX0_35 (by first | assumption | rfl) ?_
    rw [up_s]
    refine Go_ald2 dX0_drop_57 ?_
    refine Go_aast5 dX0_drop_58 (a := 3) rfl hts1 trivial trivial (by omega) (by omega) (by decide) ?_
    rw [show ((ps.length : Int) - 1).toNat = ps.length - 1 by omega]
    have hb1 : BT (up (up v 2 1 ((ps.length : Int) - 1)) 3 (ps.length - 1) (tA w p : Int)) (ps.eraseIdx p) := BT_drop h hp (((f1.mono (by decide)).up (by decide)).up (by decide)) (by rw [up_a (by decide), up_s]) (fun q hq => by
      unfold sft
      by_cases e : q = ps.length - 1
      · subst e; rw [up_s, if_pos rfl, h3.2]
      · rw [up_k e, up_a (by decide), hv, if_neg e]
        by_cases e2 : p ≤ q ∧ q < ps.length - 1
        · rw [if_pos e2, if_pos (by omega)]
        · rw [if_neg e2, if_neg (by omega)])
    refine Go_ald0 dX0_drop_59 ?_
    refine Go_cVv0 (d' := 2) (bc' := 0) (bs' := 0) rfl dX0_drop_60 mvX0_markSites rfl lkX0_69 (by first | assumption | rfl) rfl trivial (by decide) (by decide) (by decide) (Nat.le_of_ble_eq_true rfl) ?_
    refine e_X0_markSites hb1 hl hn (fun w2 d2 f2 g2 => ?_)
    refine Go_return dX0_drop_63 rfl ?_
    exact k _ d2 ((((f1.mono (by decide)).up (by decide)).up (by decide)).trans f2 (by decide)) (fun j j1 j7 => by rw [g2 j j7, up_a (by decide), up_k j1, f1.at (by decide)])
end Ops2
