section Api2
variable {G : Gm} {w : Wd} {K : Kt} {X : Xt} {s : Sta} {sv : List Sta} {g : Nat → Option Sta} {tx : List Nat} {z z1 z2 z3 : Int}
theorem sqD_nbr {a b : Nat} (ha : a < 100) (hb : b < 100) : sqD a b = 1 ↔ nbr a b := by
  rw [nbr_iff ha hb]
  have e : sqD (a : Int) (b : Int) = ((a : Int) % 10 - (b : Int) % 10) * ((a : Int) % 10 - (b : Int) % 10) + ((a : Int) / 10 - (b : Int) / 10) * ((a : Int) / 10 - (b : Int) / 10) := rfl
  rw [e]
  have h1 : -9 ≤ (a : Int) % 10 - (b : Int) % 10 ∧ (a : Int) % 10 - (b : Int) % 10 ≤ 9 := by omega
  have h2 : -9 ≤ (a : Int) / 10 - (b : Int) / 10 ∧ (a : Int) / 10 - (b : Int) / 10 ≤ 9 := by omega
  have key : ∀ c : Nat, c < 19 → ∀ r : Nat, r < 19 → (((c : Int) - 9) * ((c : Int) - 9) + ((r : Int) - 9) * ((r : Int) - 9) = 1 ↔ ((c = 9 ∧ (r = 10 ∨ r = 8)) ∨ (r = 9 ∧ (c = 10 ∨ c = 8)))) := by decide +kernel
  have := key ((a : Int) % 10 - (b : Int) % 10 + 9).toNat (by omega) ((a : Int) / 10 - (b : Int) / 10 + 9).toNat (by omega)
  rw [show ((((a : Int) % 10 - (b : Int) % 10 + 9).toNat : Nat) : Int) - 9 = (a : Int) % 10 - (b : Int) % 10 by omega, show ((((a : Int) / 10 - (b : Int) / 10 + 9).toNat : Nat) : Int) - 9 = (a : Int) / 10 - (b : Int) / 10 by omega] at this
  rw [this]
  omega
theorem e_X11_join (h : CI w s sv g tx) (h1 : inR z1) (h2 : inR z2)
    (k : ∀ w' (p o : Nat), z1 = p → p < s.1.length → z2 = o → o < s.1.length → p ≠ o → nbr (hdL (pth s.1 p)) (hdL (pth s.1 o)) → (pth s.1 p).length + (pth s.1 o).length ≤ 60 → CI w' (weldP s.1 p o, s.2.1, s.2.2.1, s.2.2.2) (pushS sv s) g tx → frm w w' ccs → K (vi (((pth s.1 p).length : Int) + (pth s.1 o).length)) none w')
    (x1 : ¬ (0 ≤ z1 ∧ z1 < s.1.length ∧ 0 ≤ z2 ∧ z2 < s.1.length) → X 1 none w) (x3 : 0 ≤ z1 → z1 < s.1.length → z1 = z2 → X 3 none w)
    (x2 : ∀ p o : Nat, z1 = p → p < s.1.length → z2 = o → o < s.1.length → p ≠ o → ¬ (nbr (hdL (pth s.1 p)) (hdL (pth s.1 o)) ∧ (pth s.1 p).length + (pth s.1 o).length ≤ 60) → X 2 none w) : Ev G yX11_join cX11_join 5 mX11_join none 8 4 24 [vr 1, vi z1, vi z2] w K X := by
  have h5 : s.1.length ≤ 5 := h.2.1.1
  refine Ev_intro mvX11_join.1 rfl (fun h => by cases h) (allc1 rfl) (Nat.le_of_ble_eq_true rfl) (Or.inl rfl) ?_
  show Go G cX11_join mX11_join none 8 4 24 0 [some (vr 1), some (vi z1), some (vi z2), none, none] [] w K X
  refine Go_ald0 dX11_join_0 ?_
  refine Go_ild1 dX11_join_1 ?_
  refine Go_ild2 dX11_join_2 ?_
  refine Go_cVv2 (d' := 7) (bc' := 3) (bs' := 18) rfl dX11_join_3 mvX11_checkTwoPaths rfl lkX11_153 (by first | assumption | rfl) rfl trivial (by decide) (by decide) (by decide) (Nat.le_of_ble_eq_true rfl) ?_
  refine e_X11_checkTwoPaths h.1.1.1 h1 h2 (fun p o e hp e2 ho hpo => ?_) x1 x3
  subst e e2
  have h3 := h.1.1.1.2.2.1 p (by omega)
  have h4 := h.1.1.1.2.2.1 o (by omega)
  have hts1 := (bts_sh h3.1).1
  have hts2 := (bts_sh h4.1).1
  have l1 := h.2.1.len hp
  have l2 := h.2.1.len ho
  have g1 : hdL (pth s.1 p) < 100 := (h.2.1.lt p).at _
  have g2 : hdL (pth s.1 o) < 100 := (h.2.1.lt o).at _
  have sq := sqD_nbr g1 g2
  refine Go_ald0 dX11_join_6 ?_
  refine gf10_0 dX11_join_7 flX11_12 ?_
  refine Go_ild1 dX11_join_10 ?_
  refine Go_cV1 (d' := 0) (bc' := 0) (bs' := 0) rfl dX11_join_11 mvX0_trail rfl lkX11_115 (by first | assumption | rfl) rfl trivial (by decide) (by decide) (by decide) (Nat.le_of_ble_eq_true rfl) ?_
  refine e_X0_trail h.1.1.1 (by omega) ?_
  refine Go_ast3 dX11_join_14 rfl ?_
  refine Go_ald0 dX11_join_15 ?_
  refine gf10_0 dX11_join_16 flX11_12 ?_
  refine Go_ild2 dX11_join_19 ?_
  refine Go_cV1 (d' := 0) (bc' := 0) (bs' := 0) rfl dX11_join_20 mvX0_trail rfl lkX11_115 (by first | assumption | rfl) rfl trivial (by decide) (by decide) (by decide) (Nat.le_of_ble_eq_true rfl) ?_
  refine e_X0_trail h.1.1.1 (by omega) ?_
  refine Go_ast4 dX11_join_23 rfl ?_
  refine Go_ald3 dX11_join_25 ?_
  refine Go_cV0 (d' := 2) (bc' := 0) (bs' := 0) rfl dX11_join_26 mvX9_head rfl lkX11_156 (by first | assumption | rfl) rfl trivial (by decide) (by decide) (by decide) (Nat.le_of_ble_eq_true rfl) ?_
  refine e_X9_headN (h.1.1.1.2.2.2.2 p hp) (by omega) ?_
  refine Go_ald4 dX11_join_29 ?_
  refine Go_cV0 (d' := 2) (bc' := 0) (bs' := 0) rfl dX11_join_31 mvX9_head rfl lkX11_156 (by first | assumption | rfl) rfl trivial (by decide) (by decide) (by decide) (Nat.le_of_ble_eq_true rfl) ?_
  refine e_X9_headN (h.1.1.1.2.2.2.2 o ho) (by omega) ?_
  refine Go_cS2 (d' := 2) (bc' := 0) (bs' := 0) rfl dX11_join_34 msX2_areNeighbours rfl lkX11_159 (by decide) (by decide) (by decide) (Nat.le_of_ble_eq_true rfl) ?_
  refine e_X2_areNeighbours (by omega) (by omega) (by omega) (by omega) ?_
  refine Go_ifb_eq (tgt := 55) dX11_join_37 (by decide)  (fun h37 => ?_) (fun h37 => ?_)
  · refine Go_throw (k := 2) ⟨by decide, by decide⟩ (List.mem_of_getElem? (i := 2) rfl) rfl rfl (by decide) (by decide) (by decide) dX11_join_55 dX11_join_58 dX11_join_59 dX11_join_61 dX11_join_64 (Nat.le_of_ble_eq_true rfl) ?_
    first | exact x2 p o rfl hp rfl ho hpo (fun q => h37 (sq.mpr q.1)) | exact x2 p o rfl hp rfl ho hpo (fun q => by omega)
  · refine Go_ald3 dX11_join_40 ?_
    refine Go_cV0 (d' := 0) (bc' := 0) (bs' := 0) rfl dX11_join_41 mvX9_length rfl lkX11_119 (by first | assumption | rfl) rfl trivial (by decide) (by decide) (by decide) (Nat.le_of_ble_eq_true rfl) ?_
    refine e_X9_length (h.1.1.1.2.2.2.2 p hp) ?_
    refine Go_ald4 dX11_join_44 ?_
    refine Go_cV0 (d' := 0) (bc' := 0) (bs' := 0) rfl dX11_join_46 mvX9_length rfl lkX11_119 (by first | assumption | rfl) rfl trivial (by decide) (by decide) (by decide) (Nat.le_of_ble_eq_true rfl) ?_
    refine e_X9_length (h.1.1.1.2.2.2.2 o ho) ?_
    refine Go_iadd dX11_join_49 ?_
    refine Go_bipush dX11_join_50 (by decide +kernel) ?_
    refine Go_icmp_le (tgt := 65) dX11_join_52 (by decide) (by constructor <;> omega) (by constructor <;> omega) (fun h52 => ?_) (fun h52 => ?_)
    · refine Go_ald0 dX11_join_65 ?_
      refine gf10_1 dX11_join_66 flX11_19 ?_
      refine Go_ald0 dX11_join_69 ?_
      refine gf10_0 dX11_join_70 flX11_12 ?_
      refine Go_cVv1 (d' := 3) (bc' := 0) (bs' := 0) rfl dX11_join_73 mvX1_save rfl lkX11_94 (by first | assumption | rfl) rfl trivial (by decide) (by decide) (by decide) (Nat.le_of_ble_eq_true rfl) ?_
      refine e_X1_save h.1 h.2.1 h.2.2.1 (fun w1 v1 f1 => ?_)
      have oW : OKp (weldP s.1 p o) := h.2.1.weld hp ho hpo (sq.mp h37) (by omega)
      refine Go_ald0 dX11_join_76 ?_
      refine gf10_0 dX11_join_77 flX11_12 ?_
      refine Go_ild1 dX11_join_80 ?_
      refine Go_ild2 dX11_join_81 ?_
      refine Go_cV2 (d' := 4) (bc' := 0) (bs' := 0) rfl dX11_join_82 mvX0_weld rfl lkX11_167 (by first | assumption | rfl) rfl trivial (by decide) (by decide) (by decide) (Nat.le_of_ble_eq_true rfl) ?_
      refine e_X0_weld (h.1.frm f1 hcs_16) h.2.1 hp ho hpo (by omega) oW (fun w2 b2 f2 => ?_)
      refine Go_ireturn dX11_join_85 rfl (by first | rfl | decide | simp [narrow]) ?_
      have r := CI_op h v1 f1 b2 oW f2 bcs_ok
      exact k _ p o rfl hp rfl ho hpo (sq.mp h37) (by omega) r.1 r.2
    · refine Go_throw (k := 2) ⟨by decide, by decide⟩ (List.mem_of_getElem? (i := 2) rfl) rfl rfl (by decide) (by decide) (by decide) dX11_join_55 dX11_join_58 dX11_join_59 dX11_join_61 dX11_join_64 (Nat.le_of_ble_eq_true rfl) ?_
      first | exact x2 p o rfl hp rfl ho hpo (fun q => h37 (sq.mpr q.1)) | exact x2 p o rfl hp rfl ho hpo (fun q => by omega)
theorem e_X11_split (h : CI w s sv g tx) (h1 : inR z1) (h2 : inR z2)
    (k : ∀ w' (p j : Nat), z1 = p → p < s.1.length → z2 = j → j + 1 < (pth s.1 p).length → s.1.length < 5 → CI w' (s.1.set p ((pth s.1 p).take (j + 1)) ++ [(pth s.1 p).drop (j + 1)], s.2.1, s.2.2.1, s.2.2.2) (pushS sv s) g tx → frm w w' ccs → K (vi s.1.length) none w')
    (x1 : (∀ p j : Nat, z1 = p → p < s.1.length → z2 = j → ¬ j + 1 < (pth s.1 p).length) → X 1 none w) (x2 : ∀ p j : Nat, z1 = p → p < s.1.length → z2 = j → j + 1 < (pth s.1 p).length → s.1.length = 5 → X 2 none w) : Ev G yX11_split cX11_split 3 mX11_split none 8 3 18 [vr 1, vi z1, vi z2] w K X := by
  have h5 : s.1.length ≤ 5 := h.2.1.1
  refine Ev_intro mvX11_split.1 rfl (fun h => by cases h) (allc1 rfl) (Nat.le_of_ble_eq_true rfl) (Or.inl rfl) ?_
  show Go G cX11_split mX11_split none 8 3 18 0 [some (vr 1), some (vi z1), some (vi z2)] [] w K X
  refine Go_ald0 dX11_split_0 ?_
  refine Go_ild1 dX11_split_1 ?_
  refine Go_ild2 dX11_split_2 ?_
  refine Go_cVv2 (d' := 7) (bc' := 2) (bs' := 12) rfl dX11_split_3 mvX11_checkPlace rfl lkX11_132 (by first | assumption | rfl) rfl trivial (by decide) (by decide) (by decide) (Nat.le_of_ble_eq_true rfl) ?_
  refine e_X11_checkPlace h.1.1.1 h1 h2 (fun p j e hp e2 hj => ?_) (fun q => x1 (fun p j e hp e2 hj => q p j e hp e2 (by omega)))
  subst e e2
  have h3 := h.1.1.1.2.2.1 p (by omega)
  have hts1 := (bts_sh h3.1).1
  have l1 := h.2.1.len hp
  refine Go_ild2 dX11_split_6 ?_
  refine Go_ald0 dX11_split_7 ?_
  refine gf10_0 dX11_split_8 flX11_12 ?_
  refine Go_ild1 dX11_split_11 ?_
  refine Go_cV1 (d' := 0) (bc' := 0) (bs' := 0) rfl dX11_split_12 mvX0_trail rfl lkX11_115 (by first | assumption | rfl) rfl trivial (by decide) (by decide) (by decide) (Nat.le_of_ble_eq_true rfl) ?_
  refine e_X0_trail h.1.1.1 (by omega) ?_
  refine Go_cV0 (d' := 0) (bc' := 0) (bs' := 0) rfl dX11_split_15 mvX9_length rfl lkX11_119 (by first | assumption | rfl) rfl trivial (by decide) (by decide) (by decide) (Nat.le_of_ble_eq_true rfl) ?_
  refine e_X9_length (h.1.1.1.2.2.2.2 p hp) ?_
  refine Go_iconst dX11_split_18 ?_
  refine Go_isub dX11_split_19 ?_
  refine Go_icmp_ne (tgt := 33) dX11_split_20 (by decide) (by constructor <;> omega) (by constructor <;> omega) (fun h20 => ?_) (fun h20 => ?_)
  · refine Go_ald0 dX11_split_33 ?_
    refine gf10_0 dX11_split_34 flX11_12 ?_
    refine Go_cV0 (d' := 0) (bc' := 0) (bs' := 0) rfl dX11_split_37 mvX0_isFull rfl lkX11_83 (by first | assumption | rfl) rfl trivial (by decide) (by decide) (by decide) (Nat.le_of_ble_eq_true rfl) ?_
    refine e_X0_isFull h.1.1.1 ?_
    refine Go_ifb_eq (tgt := 53) dX11_split_40 (by decide)  (fun h40 => ?_) (fun h40 => ?_)
    · refine Go_ald0 dX11_split_53 ?_
      refine gf10_1 dX11_split_54 flX11_19 ?_
      refine Go_ald0 dX11_split_57 ?_
      refine gf10_0 dX11_split_58 flX11_12 ?_
      refine Go_cVv1 (d' := 3) (bc' := 0) (bs' := 0) rfl dX11_split_61 mvX1_save rfl lkX11_94 (by first | assumption | rfl) rfl trivial (by decide) (by decide) (by decide) (Nat.le_of_ble_eq_true rfl) ?_
      refine e_X1_save h.1 h.2.1 h.2.2.1 (fun w1 v1 f1 => ?_)
      refine Go_ald0 dX11_split_64 ?_
      refine gf10_0 dX11_split_65 flX11_12 ?_
      refine Go_ild1 dX11_split_68 ?_
      refine Go_ild2 dX11_split_69 ?_
      refine Go_cV2 (d' := 3) (bc' := 0) (bs' := 0) rfl dX11_split_70 mvX0_cut rfl lkX11_177 (by first | assumption | rfl) rfl trivial (by decide) (by decide) (by decide) (Nat.le_of_ble_eq_true rfl) ?_
      refine e_X0_cut (h.1.frm f1 hcs_16) h.2.1 hp (by omega) (by omega) (fun w2 b2 f2 => ?_)
      refine Go_ireturn dX11_split_73 rfl (by first | rfl | decide | simp [narrow]) ?_
      have r := CI_op h v1 f1 b2 (h.2.1.split (by omega) hp (by omega)) f2 bcs_ok
      exact k _ p j rfl hp rfl (by omega) (by omega) r.1 r.2
    · refine Go_throw (k := 2) ⟨by decide, by decide⟩ (List.mem_of_getElem? (i := 4) rfl) rfl rfl (by decide) (by decide) (by decide) dX11_split_43 dX11_split_46 dX11_split_47 dX11_split_49 dX11_split_52 (Nat.le_of_ble_eq_true rfl) ?_
      exact x2 p j rfl hp rfl (by omega) h40
  · refine Go_throw (k := 1) ⟨by decide, by decide⟩ (List.mem_of_getElem? (i := 3) rfl) rfl rfl (by decide) (by decide) (by decide) dX11_split_23 dX11_split_26 dX11_split_27 dX11_split_29 dX11_split_32 (Nat.le_of_ble_eq_true rfl) ?_
    refine x1 (fun p' j' e hp' e2 hj' => ?_)
    have e3 : p = p' := by omega
    subst e3
    omega
theorem e_X11_remove (h : CI w s sv g tx) (h1 : inR z1)
    (k : ∀ w' (p : Nat), z1 = p → p < s.1.length → CI w' (s.1.eraseIdx p, s.2.1, s.2.2.1, s.2.2.2) (pushS sv s) g tx → frm w w' ccs → K (vi ((s.1.eraseIdx p).length)) none w')
    (x1 : ¬ (0 ≤ z1 ∧ z1 < s.1.length) → X 1 none w) : Ev G yX11_remove cX11_remove 2 mX11_remove none 7 1 6 [vr 1, vi z1] w K X := by
  refine Ev_intro mvX11_remove.1 rfl (fun h => by cases h) (allc1 rfl) (Nat.le_of_ble_eq_true rfl) (Or.inl rfl) ?_
  show Go G cX11_remove mX11_remove none 7 1 6 0 [some (vr 1), some (vi z1)] [] w K X
  refine Go_ald0 dX11_remove_0 ?_
  refine Go_ild1 dX11_remove_1 ?_
  refine Go_cVv1 (d' := 6) (bc' := 1) (bs' := 6) rfl dX11_remove_2 mvX11_checkPath rfl lkX11_106 (by first | assumption | rfl) rfl trivial (by decide) (by decide) (by decide) (Nat.le_of_ble_eq_true rfl) ?_
  refine e_X11_checkPath h.1.1.1 h1 (fun p e hp => ?_) x1
  subst e
  refine Go_ald0 dX11_remove_5 ?_
  refine gf10_1 dX11_remove_6 flX11_19 ?_
  refine Go_ald0 dX11_remove_9 ?_
  refine gf10_0 dX11_remove_10 flX11_12 ?_
  refine Go_cVv1 (d' := 3) (bc' := 0) (bs' := 0) rfl dX11_remove_13 mvX1_save rfl lkX11_94 (by first | assumption | rfl) rfl trivial (by decide) (by decide) (by decide) (Nat.le_of_ble_eq_true rfl) ?_
  refine e_X1_save h.1 h.2.1 h.2.2.1 (fun w1 v1 f1 => ?_)
  have b1 := h.1.frm f1 hcs_16
  have oE := h.2.1.erase hp
  refine Go_ald0 dX11_remove_16 ?_
  refine gf10_0 dX11_remove_17 flX11_12 ?_
  refine Go_ild1 dX11_remove_20 ?_
  refine Go_cVv1 (d' := 3) (bc' := 0) (bs' := 0) rfl dX11_remove_21 mvX0_drop rfl lkX11_180 (by first | assumption | rfl) rfl trivial (by decide) (by decide) (by decide) (Nat.le_of_ble_eq_true rfl) ?_
  refine e_X0_drop b1.1.1 hp oE.2.2.1 oE.2.2.2 (fun w2 d2 f2 g2 => ?_)
  have b2 : BS w2 (s.1.eraseIdx p, s.2.1, s.2.2.1, s.2.2.2) := ⟨d2, by rw [g2 2 (by decide) (by decide)]; exact b1.2.1, by rw [g2 3 (by decide) (by decide)]; exact b1.2.2.1, by rw [g2 4 (by decide) (by decide)]; exact b1.2.2.2⟩
  refine Go_ald0 dX11_remove_24 ?_
  refine gf10_0 dX11_remove_25 flX11_12 ?_
  refine Go_cV0 (d' := 0) (bc' := 0) (bs' := 0) rfl dX11_remove_28 mvX0_pathCount rfl lkX11_183 (by first | assumption | rfl) rfl trivial (by decide) (by decide) (by decide) (Nat.le_of_ble_eq_true rfl) ?_
  refine e_X0_pathCount d2.1 ?_
  refine Go_ireturn dX11_remove_31 rfl (by first | rfl | decide | simp [narrow]) ?_
  have r := CI_op h v1 f1 b2 oE f2 (by decide +kernel)
  exact k _ p rfl hp r.1 r.2
theorem CI_tx {w w' : Wd} {tx' : List Nat} (h : CI w s sv g tx) (t : TX w' tx') (f : frm w w' [45, 46]) : CI w' s sv g tx' ∧ frm w w' ccs :=
  ⟨⟨h.1.frm f (by decide), h.2.1, h.2.2.1.frm f (by decide), h.2.2.2.1.frm f (by decide), t⟩, f.mono (by decide +kernel)⟩
theorem e_X11_append (h : CI w s sv g tx) (h1 : inR z1)
    (k : ∀ w' (c : Nat), z1 = c → 33 ≤ c → c ≤ 126 → tx.length < 70 → CI w' s sv g (tx ++ [c]) → frm w w' ccs → K (vi (tx.length + 1)) none w')
    (x3 : ¬ (33 ≤ z1 ∧ z1 ≤ 126) → X 3 none w) (x2 : 33 ≤ z1 → z1 ≤ 126 → tx.length = 70 → X 2 none w) : Ev G yX11_append cX11_append 2 mX11_append none 7 2 12 [vr 1, vi z1] w K X := by
  have ht := h.2.2.2.2
  have hl := ht.2.1
  refine Ev_intro mvX11_append.1 rfl (fun h => by cases h) (allc1 rfl) (Nat.le_of_ble_eq_true rfl) (Or.inl rfl) ?_
  show Go G cX11_append mX11_append none 7 2 12 0 [some (vr 1), some (vi z1)] [] w K X
  refine Go_ild1 dX11_append_0 ?_
  refine Go_bipush dX11_append_1 (by decide +kernel) ?_
  refine Go_bipush dX11_append_3 (by decide +kernel) ?_
  refine Go_cSv3 (d' := 6) (bc' := 1) (bs' := 6) rfl dX11_append_5 msX11_checkRange rfl lkX11_186 (by decide) (by decide) (by decide) (Nat.le_of_ble_eq_true rfl) ?_
  refine e_X11_checkRange h1 (by constructor <;> omega) (by constructor <;> omega) (fun q1 q2 => ?_) x3
  refine Go_ald0 dX11_append_8 ?_
  refine gf10_3 dX11_append_9 flX11_33 ?_
  refine Go_cV0 (d' := 0) (bc' := 0) (bs' := 0) rfl dX11_append_12 mvX3_isFull rfl lkX11_190 (by first | assumption | rfl) rfl trivial (by decide) (by decide) (by decide) (Nat.le_of_ble_eq_true rfl) ?_
  refine e_X3_isFull ht ?_
  refine Go_ifb_eq (tgt := 28) dX11_append_15 (by decide)  (fun h15 => ?_) (fun h15 => ?_)
  · refine Go_ald0 dX11_append_28 ?_
    refine gf10_3 dX11_append_29 flX11_33 ?_
    refine Go_ild1 dX11_append_32 ?_
    refine Go_i2c dX11_append_33 (by omega) (by omega) ?_
    rw [show z1 = ((z1.toNat : Nat) : Int) by omega]
    refine Go_cVv1 (d' := 1) (bc' := 0) (bs' := 0) rfl dX11_append_34 mvX3_add rfl lkX11_193 (by first | assumption | rfl) rfl trivial (by decide) (by decide) (by decide) (Nat.le_of_ble_eq_true rfl) ?_
    refine e_X3_add ht (by omega) (by omega) (fun w1 t1 f1 => ?_)
    refine Go_ald0 dX11_append_37 ?_
    refine gf10_3 dX11_append_38 flX11_33 ?_
    refine Go_cV0 (d' := 0) (bc' := 0) (bs' := 0) rfl dX11_append_41 mvX3_length rfl lkX11_196 (by first | assumption | rfl) rfl trivial (by decide) (by decide) (by decide) (Nat.le_of_ble_eq_true rfl) ?_
    refine e_X3_length t1 ?_
    rw [List.length_append, List.length_cons, List.length_nil]
    refine Go_ireturn dX11_append_44 rfl (by first | rfl | decide | simp [narrow]) ?_
    have r := CI_tx h t1 f1
    exact kI (by omega) (k _ z1.toNat (by omega) (by omega) (by omega) (by omega) r.1 r.2)
  · refine Go_throw (k := 2) ⟨by decide, by decide⟩ (List.mem_of_getElem? (i := 5) rfl) rfl rfl (by decide) (by decide) (by decide) dX11_append_18 dX11_append_21 dX11_append_22 dX11_append_24 dX11_append_27 (Nat.le_of_ble_eq_true rfl) ?_
    exact x2 q1 q2 h15
theorem e_X11_clearBuffer (h : CI w s sv g tx) (k : ∀ w', CI w' s sv g [] → frm w w' ccs → K (vi tx.length) none w') : Ev G yX11_clearBuffer cX11_clearBuffer 2 mX11_clearBuffer none 1 0 0 [vr 1] w K X := by
  refine Ev_intro mvX11_clearBuffer.1 rfl (fun h => by cases h) (allc1 rfl) (Nat.le_of_ble_eq_true rfl) (Or.inl rfl) ?_
  show Go G cX11_clearBuffer mX11_clearBuffer none 1 0 0 0 [some (vr 1), none] [] w K X
  refine Go_ald0 dX11_clearBuffer_0 ?_
  refine gf10_3 dX11_clearBuffer_1 flX11_33 ?_
  refine Go_cV0 (d' := 0) (bc' := 0) (bs' := 0) rfl dX11_clearBuffer_4 mvX3_length rfl lkX11_196 (by first | assumption | rfl) rfl trivial (by decide) (by decide) (by decide) (Nat.le_of_ble_eq_true rfl) ?_
  refine e_X3_length h.2.2.2.2 ?_
  refine Go_ist1 dX11_clearBuffer_7 rfl ?_
  refine Go_ald0 dX11_clearBuffer_8 ?_
  refine gf10_3 dX11_clearBuffer_9 flX11_33 ?_
  refine Go_cVv0 (d' := 0) (bc' := 0) (bs' := 0) rfl dX11_clearBuffer_12 mvX3_clear rfl lkX11_197 (by first | assumption | rfl) rfl trivial (by decide) (by decide) (by decide) (Nat.le_of_ble_eq_true rfl) ?_
  refine e_X3_clear (fun w1 t1 f1 => ?_)
  refine Go_ild1 dX11_clearBuffer_15 ?_
  refine Go_ireturn dX11_clearBuffer_16 rfl (by first | rfl | decide | simp [narrow]) ?_
  have r := CI_tx h t1 f1
  exact k _ r.1 r.2
theorem e_X11_firstError (h : CI w s sv g tx) (k : K (vi (errN tx)) none w) : Ev G yX11_firstError cX11_firstError 1 mX11_firstError none 6 0 0 [vr 1] w K X := by
  refine Ev_intro mvX11_firstError.1 rfl (fun h => by cases h) (allc1 rfl) (Nat.le_of_ble_eq_true rfl) (Or.inl rfl) ?_
  show Go G cX11_firstError mX11_firstError none 6 0 0 0 [some (vr 1)] [] w K X
  refine Go_ald0 dX11_firstError_0 ?_
  refine gf10_3 dX11_firstError_1 flX11_33 ?_
  refine Go_cV0 (d' := 5) (bc' := 0) (bs' := 0) rfl dX11_firstError_4 mvX3_errorIndex rfl lkX11_200 (by first | assumption | rfl) rfl trivial (by decide) (by decide) (by decide) (Nat.le_of_ble_eq_true rfl) ?_
  refine e_X3_errorIndex h.2.2.2.2 ?_
  refine Go_ireturn dX11_firstError_7 rfl (by first | rfl | decide | simp [narrow]) ?_
  exact k
/-- what a text tells is a path -/
theorem wk_path {ps : List (List Nat)} {n : Nat} (h : OKp ps) (h5 : ps.length < 5) (hn : 1 ≤ n) (hw : wkA ps tx n = true) (hg : ∀ j, j + 1 < n → 0 ≤ ixI (tx.getD (j + 4) 0 : Int)) : OKp (ps ++ [wkL tx n]) := by
  have hall : ∀ j, j < n → 0 ≤ wkS tx j ∧ ow ps (wkS tx j).toNat = -1 ∧ (wkS tx j).toNat ∉ wkL tx j ∧ j < 60 := fun j hj => by
    have := List.all_eq_true.mp hw j (List.mem_range.mpr hj)
    unfold wkOK at this
    rw [decide_eq_true_eq] at this
    exact this
  have hD : ∀ j, j < n → (wkL tx n).getD j 0 = (wkS tx j).toNat := fun j hj => rgD hj
  refine h.app h5 (by rw [wkL_len]; exact hn) (by rw [wkL_len]; have := (hall (n - 1) (by omega)).2.2.2; omega) (fun j hj => ?_) (wkL_LT _ _) (ndD (fun i j hij hj e => ?_)) (fun x hx q hq => ?_)
  · rw [wkL_len] at hj
    rw [hD j (by omega), hD (j + 1) hj]
    have a := hall j (by omega)
    have b := hall (j + 1) hj
    have c := hg j hj
    have d := ixI_in (tx.getD (j + 4) 0 : Int)
    refine ⟨(ixI (tx.getD (j + 4) 0 : Int)).toNat, by omega, ?_⟩
    rw [Int.toNat_of_nonneg a.1, Int.toNat_of_nonneg c, Int.toNat_of_nonneg b.1]
    rfl
  · rw [wkL_len] at hj
    rw [hD i (by omega), hD j hj] at e
    refine (hall j hj).2.2.1 ?_
    rw [← e]
    unfold wkL
    exact List.mem_map.mpr ⟨i, List.mem_range.mpr hij, rfl⟩
  · obtain ⟨j, hj, e⟩ := mem_getD hx
    rw [wkL_len] at hj
    rw [hD j hj] at e
    have a := (hall j hj).2.1
    have b := (ow_of h.nd hq).1
    rw [e] at a
    omega
theorem gx_of {j : Nat} {c : Int} (h : goodC (j + 4) c = true) : 0 ≤ ixI c := by
  unfold goodC at h
  rw [if_neg (by omega), if_neg (by omega), if_neg (by omega), decide_eq_true_eq] at h
  exact h
theorem e_X11_draw (h : CI w s sv g tx)
    (k : ∀ w', 4 ≤ tx.length → errN tx = tx.length → s.1.length < 5 → wkA s.1 tx (tx.length - 3) = true → CI w' (s.1 ++ [wkL tx (tx.length - 3)], s.2.1, s.2.2.1, s.2.2.2) (pushS sv s) g [] → frm w w' ccs → K (vi s.1.length) none w')
    (x3 : ¬ (4 ≤ tx.length ∧ errN tx = tx.length) → X 3 none w) (x2 : ∀ w', 4 ≤ tx.length → errN tx = tx.length → ¬ (s.1.length < 5 ∧ wkA s.1 tx (tx.length - 3) = true) → CI w' s sv g tx → frm w w' ccs → X 2 none w') : Ev G yX11_draw cX11_draw 1 mX11_draw none 7 1 6 [vr 1] w K X := by
  have h5 : s.1.length ≤ 5 := h.2.1.1
  have ht := h.2.2.2.2
  refine Ev_intro mvX11_draw.1 rfl (fun h => by cases h) (allc1 rfl) (Nat.le_of_ble_eq_true rfl) (Or.inl rfl) ?_
  show Go G cX11_draw mX11_draw none 7 1 6 0 [some (vr 1)] [] w K X
  by_cases q4 : 4 ≤ tx.length ∧ errN tx = tx.length
  case neg =>
    refine Go_ald0 dX11_draw_0 ?_
    refine gf10_3 dX11_draw_1 flX11_33 ?_
    refine Go_cV0 (d' := 6) (bc' := 0) (bs' := 0) rfl dX11_draw_4 mvX3_isComplete rfl lkX11_203 (by first | assumption | rfl) rfl trivial (by decide) (by decide) (by decide) (Nat.le_of_ble_eq_true rfl) ?_
    refine e_X3_isComplete ht ?_
    refine Go_ifb_ne (tgt := 20) dX11_draw_7 (by decide)  (fun h7 => by exact absurd h7 q4) (fun h7 => ?_)
    refine Go_throw (k := 3) ⟨by decide, by decide⟩ (List.mem_of_getElem? (i := 6) rfl) rfl rfl (by decide) (by decide) (by decide) dX11_draw_10 dX11_draw_13 dX11_draw_14 dX11_draw_16 dX11_draw_19 (Nat.le_of_ble_eq_true rfl) ?_
    exact x3 q4
  by_cases q5 : s.1.length = 5
  · skip
    refine Go_ald0 dX11_draw_0 ?_
    refine gf10_3 dX11_draw_1 flX11_33 ?_
    refine Go_cV0 (d' := 6) (bc' := 0) (bs' := 0) rfl dX11_draw_4 mvX3_isComplete rfl lkX11_203 (by first | assumption | rfl) rfl trivial (by decide) (by decide) (by decide) (Nat.le_of_ble_eq_true rfl) ?_
    refine e_X3_isComplete ht ?_
    refine Go_ifb_ne (tgt := 20) dX11_draw_7 (by decide)  (fun h7 => ?_) (fun h7 => by exact absurd q4 h7)
    refine Go_ald0 dX11_draw_20 ?_
    refine gf10_0 dX11_draw_21 flX11_12 ?_
    refine Go_cV0 (d' := 0) (bc' := 0) (bs' := 0) rfl dX11_draw_24 mvX0_isFull rfl lkX11_83 (by first | assumption | rfl) rfl trivial (by decide) (by decide) (by decide) (Nat.le_of_ble_eq_true rfl) ?_
    refine e_X0_isFull h.1.1.1 ?_
    refine Go_ifb_ne (tgt := 48) dX11_draw_27 (by decide)  (fun h27 => ?_) (fun h27 => by exact absurd q5 h27)
    refine Go_throw (k := 2) ⟨by decide, by decide⟩ (List.mem_of_getElem? (i := 7) rfl) rfl rfl (by decide) (by decide) (by decide) dX11_draw_48 dX11_draw_51 dX11_draw_52 dX11_draw_54 dX11_draw_57 (Nat.le_of_ble_eq_true rfl) ?_
    exact x2 _ q4.1 q4.2 (fun q => by omega) h frm.rfl
  · skip
    refine Go_ald0 dX11_draw_0 ?_
    refine gf10_3 dX11_draw_1 flX11_33 ?_
    refine Go_cV0 (d' := 6) (bc' := 0) (bs' := 0) rfl dX11_draw_4 mvX3_isComplete rfl lkX11_203 (by first | assumption | rfl) rfl trivial (by decide) (by decide) (by decide) (Nat.le_of_ble_eq_true rfl) ?_
    refine e_X3_isComplete ht ?_
    refine Go_ifb_ne (tgt := 20) dX11_draw_7 (by decide)  (fun h7 => ?_) (fun h7 => by exact absurd q4 h7)
    refine Go_ald0 dX11_draw_20 ?_
    refine gf10_0 dX11_draw_21 flX11_12 ?_
    refine Go_cV0 (d' := 0) (bc' := 0) (bs' := 0) rfl dX11_draw_24 mvX0_isFull rfl lkX11_83 (by first | assumption | rfl) rfl trivial (by decide) (by decide) (by decide) (Nat.le_of_ble_eq_true rfl) ?_
    refine e_X0_isFull h.1.1.1 ?_
    refine Go_ifb_ne (tgt := 48) dX11_draw_27 (by decide)  (fun h27 => by exact absurd h27 q5) (fun h27 => ?_)
    refine Go_ald0 dX11_draw_30 ?_
    refine gf10_3 dX11_draw_31 flX11_33 ?_
    refine Go_ald0 dX11_draw_34 ?_
    refine gf10_4 dX11_draw_35 flX11_40 ?_
    refine Go_ald0 dX11_draw_38 ?_
    refine gf10_0 dX11_draw_39 flX11_12 ?_
    refine Go_cV2 (d' := 4) (bc' := 0) (bs' := 0) rfl dX11_draw_42 mvX3_layOut rfl lkX11_211 (by first | assumption | rfl) rfl trivial (by decide) (by decide) (by decide) (Nat.le_of_ble_eq_true rfl) ?_
    refine e_X3_layOut ht h.1.1.2.1 h5 q4.1 q4.2 (fun w1 a1 t1 f1 => ?_) (fun w1 a1 f1 => ?_)
    · have c1 := h.frm f1 (by decide)
      have oA : OKp (s.1 ++ [wkL tx (tx.length - 3)]) := wk_path h.2.1 (by omega) (by omega) a1 (fun j hj => gx_of (errN_all q4.2 (j + 4) (by omega)))
      refine Go_if_ne (tgt := 58) dX11_draw_45 (by decide) (by constructor <;> omega) (fun h45 => ?_) (fun h45 => by omega)
      refine Go_ald0 dX11_draw_58 ?_
      refine gf10_1 dX11_draw_59 flX11_19 ?_
      refine Go_ald0 dX11_draw_62 ?_
      refine gf10_0 dX11_draw_63 flX11_12 ?_
      refine Go_cVv1 (d' := 3) (bc' := 0) (bs' := 0) rfl dX11_draw_66 mvX1_save rfl lkX11_94 (by first | assumption | rfl) rfl trivial (by decide) (by decide) (by decide) (Nat.le_of_ble_eq_true rfl) ?_
      refine e_X1_save c1.1 c1.2.1 c1.2.2.1 (fun w2 v2 f2 => ?_)
      refine Go_ald0 dX11_draw_69 ?_
      refine gf10_3 dX11_draw_70 flX11_33 ?_
      refine Go_cVv0 (d' := 0) (bc' := 0) (bs' := 0) rfl dX11_draw_73 mvX3_clear rfl lkX11_197 (by first | assumption | rfl) rfl trivial (by decide) (by decide) (by decide) (Nat.le_of_ble_eq_true rfl) ?_
      refine e_X3_clear (fun w3 t3 f3 => ?_)
      refine Go_ald0 dX11_draw_76 ?_
      refine gf10_0 dX11_draw_77 flX11_12 ?_
      refine Go_ald0 dX11_draw_80 ?_
      refine gf10_4 dX11_draw_81 flX11_40 ?_
      refine Go_cV1 (d' := 3) (bc' := 0) (bs' := 0) rfl dX11_draw_84 mvX0_add rfl lkX11_102 (by first | assumption | rfl) rfl trivial (by decide) (by decide) (by decide) (Nat.le_of_ble_eq_true rfl) ?_
      refine e_X0_add ((c1.1.frm f2 hcs_16).frm f3 (by decide)) ((t1.frm f2 (by decide +kernel) (by decide +kernel)).frm f3 (by decide) (by decide)) (by omega) oA (fun w4 b4 f4 => ?_)
      refine Go_ireturn dX11_draw_87 rfl (by first | rfl | decide | simp [narrow]) ?_
      refine k _ q4.1 q4.2 (by omega) a1 ⟨b4, oA, (v2.frm f3 (by decide)).frm f4 (by decide), ((c1.2.2.2.1.frm f2 (by decide +kernel)).frm f3 (by decide)).frm f4 (by decide), t3.frm f4 (by decide) (by decide)⟩ (((f1.mono (by decide +kernel)).trans f2 (by decide +kernel)).trans f3 (by decide +kernel) |>.trans f4 (by decide +kernel))
    · skip
      refine Go_if_ne (tgt := 58) dX11_draw_45 (by decide) (by constructor <;> omega) (fun h45 => by omega) (fun h45 => ?_)
      refine Go_throw (k := 2) ⟨by decide, by decide⟩ (List.mem_of_getElem? (i := 7) rfl) rfl rfl (by decide) (by decide) (by decide) dX11_draw_48 dX11_draw_51 dX11_draw_52 dX11_draw_54 dX11_draw_57 (Nat.le_of_ble_eq_true rfl) ?_
      exact x2 _ q4.1 q4.2 (fun q => by rw [a1] at q; cases q.2) (h.frm f1 (by decide)) (f1.mono (by decide +kernel))
theorem e_X11_write (h : CI w s sv g tx) (h1 : inR z1)
    (k : ∀ w' (p : Nat), z1 = p → p < s.1.length → CI w' s sv g (wrT (pth s.1 p)) → frm w w' ccs → K (vi ((wrT (pth s.1 p)).length)) none w')
    (x1 : ¬ (0 ≤ z1 ∧ z1 < s.1.length) → X 1 none w) : Ev G yX11_write cX11_write 2 mX11_write none 7 1 6 [vr 1, vi z1] w K X := by
  have h5 : s.1.length ≤ 5 := h.2.1.1
  refine Ev_intro mvX11_write.1 rfl (fun h => by cases h) (allc1 rfl) (Nat.le_of_ble_eq_true rfl) (Or.inl rfl) ?_
  show Go G cX11_write mX11_write none 7 1 6 0 [some (vr 1), some (vi z1)] [] w K X
  refine Go_ald0 dX11_write_0 ?_
  refine Go_ild1 dX11_write_1 ?_
  refine Go_cVv1 (d' := 6) (bc' := 1) (bs' := 6) rfl dX11_write_2 mvX11_checkPath rfl lkX11_106 (by first | assumption | rfl) rfl trivial (by decide) (by decide) (by decide) (Nat.le_of_ble_eq_true rfl) ?_
  refine e_X11_checkPath h.1.1.1 h1 (fun p e hp => ?_) x1
  subst e
  have h3 := h.1.1.1.2.2.1 p (by omega)
  have hb := bts_sh h3.1
  have l1 := h.2.1.len hp
  refine Go_ald0 dX11_write_5 ?_
  refine gf10_3 dX11_write_6 flX11_33 ?_
  refine Go_ald0 dX11_write_9 ?_
  refine gf10_0 dX11_write_10 flX11_12 ?_
  refine Go_ild1 dX11_write_13 ?_
  refine Go_cV1 (d' := 0) (bc' := 0) (bs' := 0) rfl dX11_write_14 mvX0_trail rfl lkX11_115 (by first | assumption | rfl) rfl trivial (by decide) (by decide) (by decide) (Nat.le_of_ble_eq_true rfl) ?_
  refine e_X0_trail h.1.1.1 (by omega) ?_
  refine Go_cVv1 (d' := 4) (bc' := 0) (bs' := 0) rfl dX11_write_17 mvX3_tell rfl lkX11_217 (by first | assumption | rfl) rfl trivial (by decide) (by decide) (by decide) (Nat.le_of_ble_eq_true rfl) ?_
  refine e_X3_tell h.2.2.2.2 (h.1.1.1.2.2.2.2 p hp) (h.2.1.lt p) l1.1 (by omega) (fun w1 t1 f1 => ?_)
  refine Go_ald0 dX11_write_20 ?_
  refine gf10_3 dX11_write_21 flX11_33 ?_
  refine Go_cV0 (d' := 0) (bc' := 0) (bs' := 0) rfl dX11_write_24 mvX3_length rfl lkX11_196 (by first | assumption | rfl) rfl trivial (by decide) (by decide) (by decide) (Nat.le_of_ble_eq_true rfl) ?_
  refine e_X3_length t1 ?_
  refine Go_ireturn dX11_write_27 rfl (by first | rfl | decide | simp [narrow]) ?_
  have r := CI_tx h t1 f1
  exact k _ p rfl hp r.1 r.2
theorem e_X11_undo (h : CI w s sv g tx)
    (k : ∀ w', 0 < sv.length → CI w' (sv.getD (sv.length - 1) s00) (sv.take (sv.length - 1)) g tx → frm w w' ccs → K (vi ((sv.length : Int) - 1)) none w')
    (x2 : sv.length = 0 → X 2 none w) : Ev G yX11_undo cX11_undo 1 mX11_undo none 6 1 6 [vr 1] w K X := by
  have hh := h.2.2.1
  have hl6 : sv.length ≤ 6 := by obtain ⟨o, h1, h2, h3, h4, h5⟩ := hh; exact h4
  refine Ev_intro mvX11_undo.1 rfl (fun h => by cases h) (allc1 rfl) (Nat.le_of_ble_eq_true rfl) (Or.inl rfl) ?_
  show Go G cX11_undo mX11_undo none 6 1 6 0 [some (vr 1)] [] w K X
  refine Go_ald0 dX11_undo_0 ?_
  refine gf10_1 dX11_undo_1 flX11_19 ?_
  refine Go_cV0 (d' := 0) (bc' := 0) (bs' := 0) rfl dX11_undo_4 mvX1_size rfl lkX11_221 (by first | assumption | rfl) rfl trivial (by decide) (by decide) (by decide) (Nat.le_of_ble_eq_true rfl) ?_
  refine e_X1_size h.2.2.1 ?_
  refine Go_if_ne (tgt := 20) dX11_undo_7 (by decide) (by constructor <;> omega) (fun h7 => ?_) (fun h7 => ?_)
  · refine Go_ald0 dX11_undo_20 ?_
    refine gf10_1 dX11_undo_21 flX11_19 ?_
    refine Go_ald0 dX11_undo_24 ?_
    refine gf10_0 dX11_undo_25 flX11_12 ?_
    have oL : OKp (sv.getD (sv.length - 1) s00).1 := by obtain ⟨o, h1, h2, h3, h4, h5⟩ := hh; exact (h5 (sv.length - 1) (by omega)).1
    refine Go_cVv1 (d' := 4) (bc' := 0) (bs' := 0) rfl dX11_undo_28 mvX1_restoreLast rfl lkX11_226 (by first | assumption | rfl) rfl trivial (by decide) (by decide) (by decide) (Nat.le_of_ble_eq_true rfl) ?_
    refine e_X1_restoreLast h.1.1.1 h.2.2.1 (by omega) (fun w1 b1 v1 f1 => ?_)
    refine Go_ald0 dX11_undo_31 ?_
    refine gf10_1 dX11_undo_32 flX11_19 ?_
    refine Go_cV0 (d' := 0) (bc' := 0) (bs' := 0) rfl dX11_undo_35 mvX1_size rfl lkX11_221 (by first | assumption | rfl) rfl trivial (by decide) (by decide) (by decide) (Nat.le_of_ble_eq_true rfl) ?_
    refine e_X1_size v1 ?_
    refine Go_ireturn dX11_undo_38 rfl (by first | rfl | decide | simp [narrow]) ?_
    rw [List.length_take, show ((min (sv.length - 1) sv.length : Nat) : Int) = (sv.length : Int) - 1 by omega]
    exact k _ (by omega) ⟨b1, oL, v1, h.2.2.2.1.frm f1 (by decide), h.2.2.2.2.frm f1 (by decide) (by decide)⟩ (f1.mono (by decide +kernel))
  · refine Go_throw (k := 2) ⟨by decide, by decide⟩ (List.mem_of_getElem? (i := 8) rfl) rfl rfl (by decide) (by decide) (by decide) dX11_undo_10 dX11_undo_13 dX11_undo_14 dX11_undo_16 dX11_undo_19 (Nat.le_of_ble_eq_true rfl) ?_
    exact x2 (by omega)
theorem e_X11_keep (h : CI w s sv g tx) (h1 : inR z1)
    (k : ∀ w' (i : Nat), z1 = i → i < 2 → CI w' s sv (putN g i s) tx → frm w w' ccs → K (vi s.1.length) none w')
    (x3 : ¬ (0 ≤ z1 ∧ z1 ≤ 1) → X 3 none w) : Ev G yX11_keep cX11_keep 2 mX11_keep none 7 1 6 [vr 1, vi z1] w K X := by
  refine Ev_intro mvX11_keep.1 rfl (fun h => by cases h) (allc1 rfl) (Nat.le_of_ble_eq_true rfl) (Or.inl rfl) ?_
  show Go G cX11_keep mX11_keep none 7 1 6 0 [some (vr 1), some (vi z1)] [] w K X
  refine Go_ild1 dX11_keep_0 ?_
  refine Go_iconst dX11_keep_1 ?_
  refine Go_iconst dX11_keep_2 ?_
  refine Go_cSv3 (d' := 6) (bc' := 1) (bs' := 6) rfl dX11_keep_3 msX11_checkRange rfl lkX11_186 (by decide) (by decide) (by decide) (Nat.le_of_ble_eq_true rfl) ?_
  refine e_X11_checkRange h1 (by constructor <;> omega) (by constructor <;> omega) (fun q1 q2 => ?_) x3
  refine Go_ald0 dX11_keep_6 ?_
  refine gf10_2 dX11_keep_7 flX11_26 ?_
  refine Go_ild1 dX11_keep_10 ?_
  refine Go_ald0 dX11_keep_11 ?_
  refine gf10_0 dX11_keep_12 flX11_12 ?_
  rw [show z1 = ((z1.toNat : Nat) : Int) by omega]
  refine Go_cVv2 (d' := 3) (bc' := 0) (bs' := 0) rfl dX11_keep_15 mvX8_take rfl lkX11_229 (by first | assumption | rfl) rfl trivial (by decide) (by decide) (by decide) (Nat.le_of_ble_eq_true rfl) ?_
  refine e_X8_take h.1 h.2.1 h.2.2.2.1 (by omega) (fun w1 n1 f1 => ?_)
  have b1 : BS w1 s := h.1.frm f1 (by decide +kernel)
  refine Go_ald0 dX11_keep_18 ?_
  refine gf10_0 dX11_keep_19 flX11_12 ?_
  refine Go_cV0 (d' := 0) (bc' := 0) (bs' := 0) rfl dX11_keep_22 mvX0_pathCount rfl lkX11_183 (by first | assumption | rfl) rfl trivial (by decide) (by decide) (by decide) (Nat.le_of_ble_eq_true rfl) ?_
  refine e_X0_pathCount b1.1.1 ?_
  refine Go_ireturn dX11_keep_25 rfl (by first | rfl | decide | simp [narrow]) ?_
  exact k _ z1.toNat (by omega) (by omega) ⟨b1, h.2.1, h.2.2.1.frm f1 (by decide +kernel), n1, h.2.2.2.2.frm f1 (by decide +kernel) (by decide +kernel)⟩ (f1.mono (by decide +kernel))
theorem e_X11_goBack (h : CI w s sv g tx) (h1 : inR z1)
    (k : ∀ w' (i : Nat) (s' : Sta), z1 = i → i < 2 → g i = some s' → CI w' s' (pushS sv s) g tx → frm w w' ccs → K (vi s'.1.length) none w')
    (x3 : ¬ (0 ≤ z1 ∧ z1 ≤ 1) → X 3 none w) (x2 : ∀ i : Nat, z1 = i → i < 2 → g i = none → X 2 none w) : Ev G yX11_goBack cX11_goBack 2 mX11_goBack none 7 2 12 [vr 1, vi z1] w K X := by
  refine Ev_intro mvX11_goBack.1 rfl (fun h => by cases h) (allc1 rfl) (Nat.le_of_ble_eq_true rfl) (Or.inl rfl) ?_
  show Go G cX11_goBack mX11_goBack none 7 2 12 0 [some (vr 1), some (vi z1)] [] w K X
  refine Go_ild1 dX11_goBack_0 ?_
  refine Go_iconst dX11_goBack_1 ?_
  refine Go_iconst dX11_goBack_2 ?_
  refine Go_cSv3 (d' := 6) (bc' := 1) (bs' := 6) rfl dX11_goBack_3 msX11_checkRange rfl lkX11_186 (by decide) (by decide) (by decide) (Nat.le_of_ble_eq_true rfl) ?_
  refine e_X11_checkRange h1 (by constructor <;> omega) (by constructor <;> omega) (fun q1 q2 => ?_) x3
  obtain ⟨i, rfl⟩ := Int.eq_ofNat_of_zero_le q1
  refine Go_ald0 dX11_goBack_6 ?_
  refine gf10_2 dX11_goBack_7 flX11_26 ?_
  refine Go_ild1 dX11_goBack_10 ?_
  refine Go_cV1 (d' := 0) (bc' := 0) (bs' := 0) rfl dX11_goBack_11 mvX8_isTaken rfl lkX11_233 (by first | assumption | rfl) rfl trivial (by decide) (by decide) (by decide) (Nat.le_of_ble_eq_true rfl) ?_
  refine e_X8_isTaken h.2.2.2.1 (by omega) ?_
  rcases hg : g i with _ | s'
  · skip
    refine Go_if_ne (tgt := 27) dX11_goBack_14 (by decide) (by constructor <;> omega) (fun h14 => by exact absurd h14 (by decide)) (fun h14 => ?_)
    refine Go_throw (k := 2) ⟨by decide, by decide⟩ (List.mem_of_getElem? (i := 9) rfl) rfl rfl (by decide) (by decide) (by decide) dX11_goBack_17 dX11_goBack_20 dX11_goBack_21 dX11_goBack_23 dX11_goBack_26 (Nat.le_of_ble_eq_true rfl) ?_
    exact x2 i rfl (by omega) hg
  · skip
    refine Go_if_ne (tgt := 27) dX11_goBack_14 (by decide) (by constructor <;> omega) (fun h14 => ?_) (fun h14 => by simp at h14)
    refine Go_ald0 dX11_goBack_27 ?_
    refine gf10_1 dX11_goBack_28 flX11_19 ?_
    refine Go_ald0 dX11_goBack_31 ?_
    refine gf10_0 dX11_goBack_32 flX11_12 ?_
    refine Go_cVv1 (d' := 3) (bc' := 0) (bs' := 0) rfl dX11_goBack_35 mvX1_save rfl lkX11_94 (by first | assumption | rfl) rfl trivial (by decide) (by decide) (by decide) (Nat.le_of_ble_eq_true rfl) ?_
    refine e_X1_save h.1 h.2.1 h.2.2.1 (fun w1 v1 f1 => ?_)
    refine Go_ald0 dX11_goBack_38 ?_
    refine gf10_2 dX11_goBack_39 flX11_26 ?_
    refine Go_ald0 dX11_goBack_42 ?_
    refine gf10_0 dX11_goBack_43 flX11_12 ?_
    refine Go_ild1 dX11_goBack_46 ?_
    refine Go_cVv2 (d' := 4) (bc' := 0) (bs' := 0) rfl dX11_goBack_47 mvX8_putInto rfl lkX11_238 (by first | assumption | rfl) rfl trivial (by decide) (by decide) (by decide) (Nat.le_of_ble_eq_true rfl) ?_
    refine e_X8_putInto (h.1.frm f1 hcs_16).1.1 (h.2.2.2.1.frm f1 (by decide +kernel)) (by omega) hg (fun w2 b2 f2 => ?_)
    refine Go_ald0 dX11_goBack_50 ?_
    refine gf10_0 dX11_goBack_51 flX11_12 ?_
    refine Go_cV0 (d' := 0) (bc' := 0) (bs' := 0) rfl dX11_goBack_54 mvX0_pathCount rfl lkX11_183 (by first | assumption | rfl) rfl trivial (by decide) (by decide) (by decide) (Nat.le_of_ble_eq_true rfl) ?_
    refine e_X0_pathCount b2.1.1 ?_
    refine Go_ireturn dX11_goBack_57 rfl (by first | rfl | decide | simp [narrow]) ?_
    have hs := h.2.2.2.1 i (by omega)
    rw [hg] at hs
    have r := CI_op h v1 f1 b2 hs.2.1 f2 bcs_ok
    exact k _ i s' rfl (by omega) hg r.1 r.2
end Api2
