def turS (s : Sta) (p pl q : Nat) : Sta := (s.1.set p (turL (pth s.1 p) pl q), s.2.1, s.2.2.1, s.2.2.2 + 1)
section Turn2
variable {G : Gm} {w : Wd} {K : Kt} {X : Xt} {s : Sta} {p pl q : Nat}
theorem e_X10_moveSites (h : BS w s) (ho : OKp s.1) (hp : p < s.1.length) (hpl : pl < (pth s.1 p).length) (hq : q ≤ 3) (hw : whyT s.1 p pl q = 0) (hL : lnd w (pth s.1 p) pl q) (k : ∀ w', BS w' (s.1.set p (turL (pth s.1 p) pl q), s.2.1, s.2.2.1, s.2.2.2) → frm w w' bcs → K (vi 0) none w') : Ev G yX10_moveSites cX10_moveSites 6 mX10_moveSites none 3 0 0 [vr 49, vr 2, vi (p : Int), vi (pl : Int)] w K X := by
  have h5 := ho.1
  have h3 := h.1.1.2.2.1 p (by omega)
  have hts := bts_sh h3.1
  have hts1 := hts.1
  have hT := h.1.1.2.2.2.2 p hp
  have hlen := ho.len hp
  have oT := OKp_turn ho hp hpl hq hw
  have t0 : TR w (tA w p) (mvL (pth s.1 p) pl q (pl + 1)) := by rw [mvL_0]; exact hT
  refine Ev_intro mvX10_moveSites.1 rfl (fun h => by cases h) (allc1 rfl) (Nat.le_of_ble_eq_true rfl) (Or.inl rfl) ?_
  show Go G cX10_moveSites mX10_moveSites none 3 0 0 0 [some (vr 49), some (vr 2), some (vi (p : Int)), some (vi (pl : Int)), none, none] [] w K X
  refine Go_ald1 dX10_moveSites_0 ?_
  refine Go_ild2 dX10_moveSites_1 ?_
  refine Go_cV1 (d' := 0) (bc' := 0) (bs' := 0) rfl dX10_moveSites_2 mvX0_trail rfl lkX10_15 (by first | assumption | rfl) rfl trivial (by decide) (by decide) (by decide) (Nat.le_of_ble_eq_true rfl) ?_
  refine e_X0_trail h.1.1 (by omega) ?_
  refine Go_ast4 dX10_moveSites_5 rfl ?_
  refine Go_ild3 dX10_moveSites_7 ?_
  refine Go_iconst dX10_moveSites_8 ?_
  refine Go_iadd dX10_moveSites_9 ?_
  refine Go_ist5 dX10_moveSites_10 rfl ?_
  refine Go_upTo (n := (pth s.1 p).length - (pl + 1)) (L := fun i => [some (vr 49), some (vr 2), some (vi (p : Int)), some (vi (pl : Int)), some (vr (tA w p)), some (vi ((pl : Int) + 1 + i))]) (P := fun i v => TR v (tA w p) (mvL (pth s.1 p) pl q (pl + 1 + i)) ∧ frm w v [tA w p, tA w p + 1]) (by repeat' (first | exact Or.inl rfl | exact Or.inr rfl | exact Or.inr (lcg (by omega)) | exact trivial | constructor)) (⟨t0, frm.rfl⟩) (fun i v hi hP kn => ?_) (fun v hP => ?_)
  · try dsimp only at hP kn
    try dsimp only
    obtain ⟨t1, f1⟩ := hP
    have e := hL (pl + 1 + i) (by omega) (by omega)
    have e2 : v 50 (pl + 1 + i) = ((swI ((pth s.1 p).getD (pl + 1 + i) 0) ((pth s.1 p).getD pl 0) q).toNat : Nat) := by
      rw [f1.at (by simp; omega), e]
      have a1 := swI_in ((pth s.1 p).getD (pl + 1 + i) 0) ((pth s.1 p).getD pl 0) q
      have a2 := (whyT_s hw (by omega : pl < pl + 1 + i) (by omega)).1
      omega
    refine Go_ild5 dX10_moveSites_12 ?_
    refine Go_ald4 dX10_moveSites_14 ?_
    refine Go_cV0 (d' := 0) (bc' := 0) (bs' := 0) rfl dX10_moveSites_16 mvX9_length rfl lkX10_25 (by first | assumption | rfl) rfl trivial (by decide) (by decide) (by decide) (Nat.le_of_ble_eq_true rfl) ?_
    refine e_X9_length t1 ?_
    rw [mvL_len]
    refine Go_icmp_ge (tgt := 42) dX10_moveSites_19 (by decide) (by constructor <;> omega) (by constructor <;> omega) (fun h19 => by omega) (fun h19 => ?_)
    refine Go_ald4 dX10_moveSites_22 ?_
    refine Go_ild5 dX10_moveSites_24 ?_
    refine Go_ald0 dX10_moveSites_26 ?_
    refine gf9_0 dX10_moveSites_27 flX10_9 ?_
    refine Go_ild5 dX10_moveSites_30 ?_
    refine Go_iald dX10_moveSites_32 (by first | assumption | rfl) trivial (by omega) (by omega) (by decide) ?_
    rw [show ((pl : Int) + 1 + (i : Int)).toNat = pl + 1 + i by omega, e2, show (pl : Int) + 1 + (i : Int) = ((pl + 1 + i : Nat) : Int) by omega]
    refine Go_cVv2 (d' := 1) (bc' := 0) (bs' := 0) rfl dX10_moveSites_33 mvX9_put rfl lkX10_57 (by first | assumption | rfl) rfl trivial (by decide) (by decide) (by decide) (Nat.le_of_ble_eq_true rfl) ?_
    refine e_X9_put t1 (by rw [mvL_len]; omega) (fun w2 t2 f2 => ?_)
    refine Go_inc5 dX10_moveSites_36 rfl ?_
    refine Go_goto (tgt := 12) dX10_moveSites_39 (by decide) ?_
    rw [mvL_succ (by omega) (by omega)] at t2
    refine Go_forget (ls' := _) ?_ (kn _ ⟨t2, f1.trans f2 (fun _ h => h)⟩)
    exact (by repeat' (first | exact Or.inl rfl | exact Or.inr rfl | exact Or.inr (lcg (by omega)) | exact trivial | constructor))
  · try dsimp only at hP
    try dsimp only
    obtain ⟨t1, f1⟩ := hP
    rw [show pl + 1 + ((pth s.1 p).length - (pl + 1)) = (pth s.1 p).length by omega] at t1
    have b1 := BT_put h.1.1 hp rfl f1 t1
    refine Go_ild5 dX10_moveSites_12 ?_
    refine Go_ald4 dX10_moveSites_14 ?_
    refine Go_cV0 (d' := 0) (bc' := 0) (bs' := 0) rfl dX10_moveSites_16 mvX9_length rfl lkX10_25 (by first | assumption | rfl) rfl trivial (by decide) (by decide) (by decide) (Nat.le_of_ble_eq_true rfl) ?_
    refine e_X9_length t1 ?_
    rw [mvL_len]
    refine Go_icmp_ge (tgt := 42) dX10_moveSites_19 (by decide) (by constructor <;> omega) (by constructor <;> omega) (fun h19 => ?_) (fun h19 => by omega)
    refine Go_ald1 dX10_moveSites_42 ?_
    refine Go_cVv0 (d' := 2) (bc' := 0) (bs' := 0) rfl dX10_moveSites_43 mvX0_markSites rfl lkX10_61 (by first | assumption | rfl) rfl trivial (by decide) (by decide) (by decide) (Nat.le_of_ble_eq_true rfl) ?_
    refine e_X0_markSites b1 oT.2.2.1 oT.2.2.2 (fun w2 d2 f2 g2 => ?_)
    refine Go_return dX10_moveSites_46 rfl ?_
    have r := BS_mk h f1 (bcs_t h3.1) (fun j _ => f1.at (by simp; omega) j) d2 f2 g2
    exact k _ r.1 r.2
end Turn2
