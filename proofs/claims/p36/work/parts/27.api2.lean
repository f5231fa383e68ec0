section Api2
variable {G : Gm} {w : Wd} {K : Kt} {X : Xt} {s : Sta} {sv : List Sta} {g : Nat → Option Sta} {tx : List Nat} {z z1 z2 z3 : Int}
theorem sqD_nbr {a b : Nat} (ha : a < 100) (hb : b < 100) : sqD a b = 1 ↔ nbr a b := by
  rw [nbr_iff ha hb]
  have e : sqD (a : Int) (b : Int) = ((a : Int) % 10 - (b : Int) % 10) * ((a : Int) % 10 - (b : Int) % 10) + ((a : Int) / 10 - (b : Int) / 10) * ((a : Int) / 10 - (b : Int) / 10) := rfl
  rw [e]
  have h1 : -9 ≤ (a : Int) % 10 - (b : Int) % 10 ∧ (a : Int) % 10 - (b : Int) % 10 ≤ 9 := by omega
  have h2 : -9 ≤ (a : Int) / 10 - (b : Int) / 10 ∧ (a : Int) / 10 - (b : Int) / 10 ≤ 9 := by omega
  have key : ∀ c : Nat, c < 19 → ∀ r : Nat, r < 19 → (((c : Int) - 9) * ((c : Int) - 9) + ((r : Int) - 9) * ((r : Int) - 9) = 1 ↔ ((c = 9 ∧ (r = 10 ∨ r = 8)) ∨ (r = 9 ∧ (c = 10 ∨ c = 8)))) := by decide +kernel
  have := key ((a : Int) % 10 - (b : Int) % 10 + 9).toNat (by omega) ((a : Int) / 10 - (b : Int) / 10 + 9).toNat (by omega)
  rw [show ((((a : Int) % 10 - (b : Int) % 10 + 9).toNat : Nat) : Int) - 9 = (a : Int) % 10 - (b : Int) % 10 by omega, show ((((a : Int) / 10 - (b : Int) / 10 + 9).toNat : Nat) : Int) - 9 = (a : Int) / 10 - (b : Int) / 10 by omega] at this
  rw [this]
  omega
theorem e_X11_join (h : CI w s sv g tx) (h1 : inR z1) (h2 : inR z2)
    (k : ∀ w' (p o : Nat), z1 = p → p < s.1.length → z2 = o → o < s.1.length → p ≠ o → nbr (hdL (pth s.1 p)) (hdL (pth s.1 o)) → (pth s.1 p).length + (pth s.1 o).length ≤ 60 → CI w' (weldP s.1 p o, s.2.1, s.2.2.1, s.2.2.2) (pushS sv s) g tx → frm w w' ccs → K (vi (((pth s.1 p).length : Int) + (pth s.1 o).length)) none w')
    (x1 : ¬ (0 ≤ z1 ∧ z1 < s.1.length ∧ 0 ≤ z2 ∧ z2 < s.1.length) → X 1 none w) (x3 : 0 ≤ z1 → z1 < s.1.length → z1 = z2 → X 3 none w)
    (x2 : ∀ p o : Nat, z1 = p → p < s.1.length → z2 = o → o < s.1.length → p ≠ o → ¬ (nbr (hdL (pth s.1 p)) (hdL (pth s.1 o)) ∧ (pth s.1 p).length + (pth s.1 o).length ≤ 60) → X 2 none w) : Ev G yX11_join cX11_join 5 mX11_join none 8 4 24 [vr 1, vi z1, vi z2] w K X := by
  have h5 : s.1.length ≤ 5 := h.2.1.1
  refine Ev_intro mvX11_join.1 rfl (fun h => by cases h) (allc1 rfl) (Nat.le_of_ble_eq_true rfl) (Or.inl rfl) ?_
  show Go G cX11_join mX11_join none 8 4 24 0 [some (vr 1), some (vi z1), some (vi z2), none, none] [] w K X
  refine Go_ald0 dX11_join_0 ?_
  refine Go_ild1 dX11_join_1 ?_
  refine Go_ild2 dX11_join_2 ?_
  refine Go_cVv2 (d' := 7) (bc' := 3) (bs' := 18) rfl dX11_join_3 mvX11_checkTwoPaths rfl lkX11_153 (by first | assumption | rfl) rfl trivial (by decide) (by decide) (by decide) (Nat.le_of_ble_eq_true rfl) ?_
  refine e_X11_checkTwoPaths h.1.1.1 h1 h2 (fun p o e hp e2 ho hpo => ?_) x1 x3
  subst e e2
  have h3 := h.1.1.1.2.2.1 p (by omega)
  have h4 := h.1.1.1.2.2.1 o (by omega)
  have hts1 := (bts_sh h3.1).1
  have hts2 := (bts_sh h4.1).1
  have l1 := h.2.1.len hp
  have l2 := h.2.1.len ho
  have g1 : hdL (pth s.1 p) < 100 := (h.2.1.lt p).at _
  have g2 : hdL (pth s.1 o) < 100 := (h.2.1.lt o).at _
  have sq := sqD_nbr g1 g2
  refine Go_ald0 dX11_join_6 ?_
  refine gf10_0 dX11_join_7 flX11_12 ?_
  refine Go_ild1 dX11_join_10 ?_
  refine Go_cV1 (d' := 0) (bc' := 0) (bs' := 0) rfl dX11_join_11 mvX0_trail rfl lkX11_115 (by first | assumption | rfl) rfl trivial (by decide) (by decide) (by decide) (Nat.le_of_ble_eq_true rfl) ?_
  refine e_X0_trail h.1.1.1 (by omega) ?_
  refine Go_ast3 dX11_join_14 rfl ?_
  refine Go_ald0 dX11_join_15 ?_
  refine gf10_0 dX11_join_16 flX11_12 ?_
  refine Go_ild2 dX11_join_19 ?_
  refine Go_cV1 (d' := 0) (bc' := 0) (bs' := 0) rfl dX11_join_20 mvX0_trail rfl lkX11_115 (by first | assumption | rfl) rfl trivial (by decide) (by decide) (by decide) (Nat.le_of_ble_eq_true rfl) ?_
  refine e_X0_trail h.1.1.1 (by omega) ?_
  refine Go_ast4 dX11_join_23 rfl ?_
  refine Go_ald3 dX11_join_25 ?_
  refine Go_cV0 (d' := 2) (bc' := 0) (bs' := 0) rfl dX11_join_26 mvX9_head rfl lkX11_156 (by first | assumption | rfl) rfl trivial (by decide) (by decide) (by decide) (Nat.le_of_ble_eq_true rfl) ?_
  refine e_X9_headN (h.1.1.1.2.2.2.2 p hp) (by omega) ?_
  refine Go_ald4 dX11_join_29 ?_
  refine Go_cV0 (d' := 2) (bc' := 0) (bs' := 0) rfl dX11_join_31 mvX9_head rfl lkX11_156 (by first | assumption | rfl) rfl trivial (by decide) (by decide) (by decide) (Nat.le_of_ble_eq_true rfl) ?_
  refine e_X9_headN (h.1.1.1.2.2.2.2 o ho) (by omega) ?_
  refine Go_cS2 (d' := 2) (bc' := 0) (bs' := 0) rfl dX11_join_34 msX2_areNeighbours rfl lkX11_159 (by decide) (by decide) (by decide) (Nat.le_of_ble_eq_true rfl) ?_
  refine e_X2_areNeighbours (by omega) (by omega) (by omega) (by omega) ?_
  refine Go_ifb_eq (tgt := 55) dX11_join_37 (by decide)  (fun h37 => ?_) (fun h37 => ?_)
  · refine Go_throw (k := 2) ⟨by decide, by decide⟩ (List.mem_of_getElem? (i := 2) rfl) rfl rfl (by decide) (by decide) (by decide) dX11_join_55 dX11_join_58 dX11_join_59 dX11_join_61 dX11_join_64 (Nat.le_of_ble_eq_true rfl) ?_
    first | exact x2 p o rfl hp rfl ho hpo (fun q => h37 (sq.mpr q.1)) | exact x2 p o rfl hp rfl ho hpo (fun q => by omega)
  · refine Go_ald3 dX11_join_40 ?_
    refine Go_cV0 (d' := 0) (bc' := 0) (bs' := 0) rfl dX11_join_41 mvX9_length rfl lkX11_119 (by first | assumption | rfl) rfl trivial (by decide) (by decide) (by decide) (Nat.le_of_ble_eq_true rfl) ?_
    refine e_X9_length (h.1.1.1.2.2.2.2 p hp) ?_
    refine Go_ald4 dX11_join_44 ?_
    refine Go_cV0 (d' := 0) (bc' := 0) (bs' := 0) rfl dX11_join_46 mvX9_length rfl lkX11_119 (by first | assumption | rfl) rfl trivial (by decide) (by decide) (by decide) (Nat.le_of_ble_eq_true rfl) ?_
    refine e_X9_length (h.1.1.1.2.2.2.2 o ho) ?_
    refine Go_iadd dX11_join_49 ?_
    refine Go_bipush dX11_join_50 (by decide +kernel) ?_
    refine Go_icmp_le (tgt := 65) dX11_join_52 (by decide) (by constructor <;> omega) (by constructor <;> omega) (fun h52 => ?_) (fun h52 => ?_)
    · refine Go_ald0 dX11_join_65 ?_
      refine gf10_1 dX11_join_66 flX11_19 ?_
      refine Go_ald0 dX11_join_69 ?_
      refine gf10_0 dX11_join_70 flX11_12 ?_
      refine Go_cVv1 (d' := 3) (bc' := 0) (bs' := 0) rfl dX11_join_73 mvX1_save rfl lkX11_94 (by first | assumption | rfl) rfl trivial (by decide) (by decide) (by decide) (Nat.le_of_ble_eq_true rfl) ?_
      refine e_X1_save h.1 h.2.1 h.2.2.1 (fun w1 v1 f1 => ?_)
      have oW : OKp (weldP s.1 p o) := h.2.1.weld hp ho hpo (sq.mp h37) (by omega)
      refine Go_ald0 dX11_join_76 ?_
      refine gf10_0 dX11_join_77 flX11_12 ?_
      refine Go_ild1 dX11_join_80 ?_
      refine Go_ild2 dX11_join_81 ?_
      refine Go_cV2 (d' := 4) (bc' := 0) (bs' := 0) rfl dX11_join_82 mvX0_weld rfl lkX11_167 (by first | assumption | rfl) rfl trivial (by decide) (by decide) (by decide) (Nat.le_of_ble_eq_true rfl) ?_
      refine e_X0_weld (h.1.frm f1 hcs_16) h.2.1 hp ho hpo (by omega) oW (fun w2 b2 f2 => ?_)
      refine Go_ireturn dX11_join_85 rfl (by first | rfl | decide | exact nar_b | simp [narrow]) ?_
      have r := CI_op h v1 f1 b2 oW f2 bcs_ok
      exact k _ p o rfl hp rfl ho hpo (sq.mp h37) (by omega) r.1 r.2
    · refine Go_throw (k := 2) ⟨by decide, by decide⟩ (List.mem_of_getElem? (i := 2) rfl) rfl rfl (by decide) (by decide) (by decide) dX11_join_55 dX11_join_58 dX11_join_59 dX11_join_61 dX11_join_64 (Nat.le_of_ble_eq_true rfl) ?_
      first | exact x2 p o rfl hp rfl ho hpo (fun q => h37 (sq.mpr q.1)) | exact x2 p o rfl hp rfl ho hpo (fun q => by omega)
theorem e_X11_split (h : CI w s sv g tx) (h1 : inR z1) (h2 : inR z2)
    (k : ∀ w' (p j : Nat), z1 = p → p < s.1.length → z2 = j → j + 1 < (pth s.1 p).length → s.1.length < 5 → CI w' (s.1.set p ((pth s.1 p).take (j + 1)) ++ [(pth s.1 p).drop (j + 1)], s.2.1, s.2.2.1, s.2.2.2) (pushS sv s) g tx → frm w w' ccs → K (vi s.1.length) none w')
    (x1 : (∀ p j : Nat, z1 = p → p < s.1.length → z2 = j → ¬ j + 1 < (pth s.1 p).length) → X 1 none w) (x2 : ∀ p j : Nat, z1 = p → p < s.1.length → z2 = j → j + 1 < (pth s.1 p).length → s.1.length = 5 → X 2 none w) : Ev G yX11_split cX11_split 3 mX11_split none 8 3 18 [vr 1, vi z1, vi z2] w K X := by
  have h5 : s.1.length ≤ 5 := h.2.1.1
  refine Ev_intro mvX11_split.1 rfl (fun h => by cases h) (allc1 rfl) (Nat.le_of_ble_eq_true rfl) (Or.inl rfl) ?_
  show Go G cX11_split mX11_split none 8 3 18 0 [some (vr 1), some (vi z1), some (vi z2)] [] w K X
  refine Go_ald0 dX11_split_0 ?_
  refine Go_ild1 dX11_split_1 ?_
  refine Go_ild2 dX11_split_2 ?_
  refine Go_cVv2 (d' := 7) (bc' := 2) (bs' := 12) rfl dX11_split_3 mvX11_checkPlace rfl lkX11_132 (by first | assumption | rfl) rfl trivial (by decide) (by decide) (by decide) (Nat.le_of_ble_eq_true rfl) ?_
  refine e_X11_checkPlace h.1.1.1 h1 h2 (fun p j e hp e2 hj => ?_) (fun q => x1 (fun p j e hp e2 hj => q p j e hp e2 (by omega)))
  subst e e2
  have h3 := h.1.1.1.2.2.1 p (by omega)
  have hts1 := (bts_sh h3.1).1
  have l1 := h.2.1.len hp
  refine Go_ild2 dX11_split_6 ?_
  refine Go_ald0 dX11_split_7 ?_
  refine gf10_0 dX11_split_8 flX11_12 ?_
  refine Go_ild1 dX11_split_11 ?_
  refine Go_cV1 (d' := 0) (bc' := 0) (bs' := 0) rfl dX11_split_12 mvX0_trail rfl lkX11_115 (by first | assumption | rfl) rfl trivial (by decide) (by decide) (by decide) (Nat.le_of_ble_eq_true rfl) ?_
  refine e_X0_trail h.1.1.1 (by omega) ?_
  refine Go_cV0 (d' := 0) (bc' := 0) (bs' := 0) rfl dX11_split_15 mvX9_length rfl lkX11_119 (by first | assumption | rfl) rfl trivial (by decide) (by decide) (by decide) (Nat.le_of_ble_eq_true rfl) ?_
  refine e_X9_length (h.1.1.1.2.2.2.2 p hp) ?_
  refine Go_iconst dX11_split_18 ?_
  refine Go_isub dX11_split_19 ?_
  refine Go_icmp_ne (tgt := 33) dX11_split_20 (by decide) (by constructor <;> omega) (by constructor <;> omega) (fun h20 => ?_) (fun h20 => ?_)
  · refine Go_ald0 dX11_split_33 ?_
    refine gf10_0 dX11_split_34 flX11_12 ?_
    refine Go_cV0 (d' := 0) (bc' := 0) (bs' := 0) rfl dX11_split_37 mvX0_isFull rfl lkX11_83 (by first | assumption | rfl) rfl trivial (by decide) (by decide) (by decide) (Nat.le_of_ble_eq_true rfl) ?_
    refine e_X0_isFull h.1.1.1 ?_
    refine Go_ifb_eq (tgt := 53) dX11_split_40 (by decide)  (fun h40 => ?_) (fun h40 => ?_)
    · refine Go_ald0 dX11_split_53 ?_
      refine gf10_1 dX11_split_54 flX11_19 ?_
      refine Go_ald0 dX11_split_57 ?_
      refine gf10_0 dX11_split_58 flX11_12 ?_
      refine Go_cVv1 (d' := 3) (bc' := 0) (bs' := 0) rfl dX11_split_61 mvX1_save rfl lkX11_94 (by first | assumption | rfl) rfl trivial (by decide) (by decide) (by decide) (Nat.le_of_ble_eq_true rfl) ?_
      refine e_X1_save h.1 h.2.1 h.2.2.1 (fun w1 v1 f1 => ?_)
      refine Go_ald0 dX11_split_64 ?_
      refine gf10_0 dX11_split_65 flX11_12 ?_
      refine Go_ild1 dX11_split_68 ?_
      refine Go_ild2 dX11_split_69 ?_
      refine Go_cV2 (d' := 3) (bc' := 0) (bs' := 0) rfl dX11_split_70 mvX0_cut rfl lkX11_177 (by first | assumption | rfl) rfl trivial (by decide) (by decide) (by decide) (Nat.le_of_ble_eq_true rfl) ?_
      refine e_X0_cut (h.1.frm f1 hcs_16) h.2.1 hp (by omega) (by omega) (fun w2 b2 f2 => ?_)
      refine Go_ireturn dX11_split_73 rfl (by first | rfl | decide | exact nar_b | simp [narrow]) ?_
      have r := CI_op h v1 f1 b2 (h.2.1.split (by omega) hp (by omega)) f2 bcs_ok
      exact k _ p j rfl hp rfl (by omega) (by omega) r.1 r.2
    · refine Go_throw (k := 2) ⟨by decide, by decide⟩ (List.mem_of_getElem? (i := 4) rfl) rfl rfl (by decide) (by decide) (by decide) dX11_split_43 dX11_split_46 dX11_split_47 dX11_split_49 dX11_split_52 (Nat.le_of_ble_eq_true rfl) ?_
      exact x2 p j rfl hp rfl (by omega) h40
  · refine Go_throw (k := 1) ⟨by decide, by decide⟩ (List.mem_of_getElem? (i := 3) rfl) rfl rfl (by decide) (by decide) (by decide) dX11_split_23 dX11_split_26 dX11_split_27 dX11_split_29 dX11_split_32 (Nat.le_of_ble_eq_true rfl) ?_
    refine x1 (fun p' j' e hp' e2 hj' => ?_)
    have e3 : p = p' := by omega
    subst e3
    omega
theorem e_X11_remove (h : CI w s sv g tx) (h1 : inR z1)
    (k : ∀ w' (p : Nat), z1 = p → p < s.1.length → CI w' (s.1.eraseIdx p, s.2.1, s.2.2.1, s.2.2.2) (pushS sv s) g tx → frm w w' ccs → K (vi ((s.1.eraseIdx p).length)) none w')
    (x1 : ¬ (0 ≤ z1 ∧ z1 < s.1.length) → X 1 none w) : Ev G yX11_remove cX11_remove 2 mX11_remove none 7 1 6 [vr 1, vi z1] w K X := by
  refine Ev_intro mvX11_remove.1 rfl (fun h => by cases h) (allc1 rfl) (Nat.le_of_ble_eq_true rfl) (Or.inl rfl) ?_
  show Go G cX11_remove mX11_remove none 7 1 6 0 [some (vr 1), some (vi z1)] [] w K X
  refine Go_ald0 dX11_remove_0 ?_
  refine Go_ild1 dX11_remove_1 ?_
  refine Go_cVv1 (d' := 6) (bc' := 1) (bs' := 6) rfl dX11_remove_2 mvX11_checkPath rfl lkX11_106 (by first | assumption | rfl) rfl trivial (by decide) (by decide) (by decide) (Nat.le_of_ble_eq_true rfl) ?_
  refine e_X11_checkPath h.1.1.1 h1 (fun p e hp => ?_) x1
  subst e
  refine Go_ald0 dX11_remove_5 ?_
  refine gf10_1 dX11_remove_6 flX11_19 ?_
  refine Go_ald0 dX11_remove_9 ?_
  refine gf10_0 dX11_remove_10 flX11_12 ?_
  refine Go_cVv1 (d' := 3) (bc' := 0) (bs' := 0) rfl dX11_remove_13 mvX1_save rfl lkX11_94 (by first | assumption | rfl) rfl trivial (by decide) (by decide) (by decide) (Nat.le_of_ble_eq_true rfl) ?_
  refine e_X1_save h.1 h.2.1 h.2.2.1 (fun w1 v1 f1 => ?_)
  have b1 := h.1.frm f1 hcs_16
  have oE := h.2.1.erase hp
  refine Go_ald0 dX11_remove_16 ?_
  refine gf10_0 dX11_remove_17 flX11_12 ?_
  refine Go_ild1 dX11_remove_20 ?_
  refine Go_cVv1 (d' := 3) (bc' := 0) (bs' := 0) rfl dX11_remove_21 mvX0_drop rfl lkX11_180 (by first | assumption | rfl) rfl trivial (by decide) (by decide) (by decide) (Nat.le_of_ble_eq_true rfl) ?_
  refine e_X0_drop b1.1.1 hp oE.2.2.1 oE.2.2.2 (fun w2 d2 f2 g2 => ?_)
  have b2 : BS w2 (s.1.eraseIdx p, s.2.1, s.2.2.1, s.2.2.2) := ⟨d2, by rw [g2 2 (by decide) (by decide)]; exact b1.2.1, by rw [g2 3 (by decide) (by decide)]; exact b1.2.2.1, by rw [g2 4 (by decide) (by decide)]; exact b1.2.2.2⟩
  refine Go_ald0 dX11_remove_24 ?_
  refine gf10_0 dX11_remove_25 flX11_12 ?_
  refine Go_cV0 (d' := 0) (bc' := 0) (bs' := 0) rfl dX11_remove_28 mvX0_pathCount rfl lkX11_183 (by first | assumption | rfl) rfl trivial (by decide) (by decide) (by decide) (Nat.le_of_ble_eq_true rfl) ?_
  refine e_X0_pathCount d2.1 ?_
  refine Go_ireturn dX11_remove_31 rfl (by first | rfl | decide | exact nar_b | simp [narrow]) ?_
  have r := CI_op h v1 f1 b2 oE f2 (by decide +kernel)
  exact k _ p rfl hp r.1 r.2
theorem CI_tx {w w' : Wd} {tx' : List Nat} (h : CI w s sv g tx) (t : TX w' tx') (f : frm w w' [45, 46]) : CI w' s sv g tx' ∧ frm w w' ccs :=
  ⟨⟨h.1.frm f (by decide), h.2.1, h.2.2.1.frm f (by decide), h.2.2.2.1.frm f (by decide), t⟩, f.mono (by decide +kernel)⟩
theorem e_X11_undo (h : CI w s sv g tx)
    (k : ∀ w', 0 < sv.length → CI w' (sv.getD (sv.length - 1) s00) (sv.take (sv.length - 1)) g tx → frm w w' ccs → K (vi ((sv.length : Int) - 1)) none w')
    (x2 : sv.length = 0 → X 2 none w) : Ev G yX11_undo cX11_undo 1 mX11_undo none 6 1 6 [vr 1] w K X := by
  have hh := h.2.2.1
  have hl6 : sv.length ≤ 6 := by obtain ⟨o, h1, h2, h3, h4, h5⟩ := hh; exact h4
  refine Ev_intro mvX11_undo.1 rfl (fun h => by cases h) (allc1 rfl) (Nat.le_of_ble_eq_true rfl) (Or.inl rfl) ?_
  show Go G cX11_undo mX11_undo none 6 1 6 0 [some (vr 1)] [] w K X
  refine Go_ald0 dX11_undo_0 ?_
  refine gf10_1 dX11_undo_1 flX11_19 ?_
  refine Go_cV0 (d' := 0) (bc' := 0) (bs' := 0) rfl dX11_undo_4 mvX1_size rfl lkX11_221 (by first | assumption | rfl) rfl trivial (by decide) (by decide) (by decide) (Nat.le_of_ble_eq_true rfl) ?_
  refine e_X1_size h.2.2.1 ?_
  refine Go_if_ne (tgt := 20) dX11_undo_7 (by decide) (by constructor <;> omega) (fun h7 => ?_) (fun h7 => ?_)
  · refine Go_ald0 dX11_undo_20 ?_
    refine gf10_1 dX11_undo_21 flX11_19 ?_
    refine Go_ald0 dX11_undo_24 ?_
    refine gf10_0 dX11_undo_25 flX11_12 ?_
    have oL : OKp (sv.getD (sv.length - 1) s00).1 := by obtain ⟨o, h1, h2, h3, h4, h5⟩ := hh; exact (h5 (sv.length - 1) (by omega)).1
    refine Go_cVv1 (d' := 4) (bc' := 0) (bs' := 0) rfl dX11_undo_28 mvX1_restoreLast rfl lkX11_226 (by first | assumption | rfl) rfl trivial (by decide) (by decide) (by decide) (Nat.le_of_ble_eq_true rfl) ?_
    refine e_X1_restoreLast h.1.1.1 h.2.2.1 (by omega) (fun w1 b1 v1 f1 => ?_)
    refine Go_ald0 dX11_undo_31 ?_
    refine gf10_1 dX11_undo_32 flX11_19 ?_
    refine Go_cV0 (d' := 0) (bc' := 0) (bs' := 0) rfl dX11_undo_35 mvX1_size rfl lkX11_221 (by first | assumption | rfl) rfl trivial (by decide) (by decide) (by decide) (Nat.le_of_ble_eq_true rfl) ?_
    refine e_X1_size v1 ?_
    refine Go_ireturn dX11_undo_38 rfl (by first | rfl | decide | exact nar_b | simp [narrow]) ?_
    rw [List.length_take, show ((min (sv.length - 1) sv.length : Nat) : Int) = (sv.length : Int) - 1 by omega]
    exact k _ (by omega) ⟨b1, oL, v1, h.2.2.2.1.frm f1 (by decide), h.2.2.2.2.frm f1 (by decide) (by decide)⟩ (f1.mono (by decide +kernel))
  · refine Go_throw (k := 2) ⟨by decide, by decide⟩ (List.mem_of_getElem? (i := 5) rfl) rfl rfl (by decide) (by decide) (by decide) dX11_undo_10 dX11_undo_13 dX11_undo_14 dX11_undo_16 dX11_undo_19 (Nat.le_of_ble_eq_true rfl) ?_
    exact x2 (by omega)
end Api2
