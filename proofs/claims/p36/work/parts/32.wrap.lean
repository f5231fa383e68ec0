section Wrap
variable {G : Gm} {w : Wd} {K : Kt} {s : Sta} {sv : List Sta} {g : Nat → Option Sta} {tx : List Nat} {z1 z2 z3 : Int}
theorem e_L_start (h : CI w s sv g tx) (h1 : inR z1) (h2 : inR z2)
    (k : ∀ w' (x : Nat), numI z1 z2 = x → ow s.1 x = -1 → s.1.length < 5 → CI w' ((s.1 ++ [[x]], s.2.1, s.2.2.1, s.2.2.2)) (pushS sv s) g tx → frm w w' ccs → K (vi s.1.length) none w')
    (x1 : numI z1 z2 = -1 → K (vi (-101)) none w)
    (x2 : ∀ x : Nat, numI z1 z2 = x → ¬ (ow s.1 x = -1 ∧ s.1.length < 5) → K (vi (-103)) none w)
    : Ev G yL_start cL_start 4 mL_start none 8 2 12 [vr 1, vi z1, vi z2] w K XF := by
  refine Ev_intro msL_start.1 rfl (fun h => by cases h) (allc1 rfl) (Nat.le_of_ble_eq_true rfl) (Or.inr (fun _ _ _ h => h)) ?_
  show Go G cL_start mL_start none 8 2 12 0 [some (vr 1), some (vi z1), some (vi z2), none] [] w K XF
  have hH : ∀ k q, (fun k => if k = 1 then some 7 else if k = 2 then some 11 else none) k = some q → kEq k ∧ hOK mL_start.2.2.2 3 k q = true ∧ (decode cL_start q = .ok (.astore 3, 2) ∧ 1 = 2 ∨ ∃ j : Fin 4, (j : Nat) = 3 ∧ decode cL_start q = .ok (.astore_n j, 1) ∧ 1 = 1) := by
    intro k q e
    by_cases c1 : k = 1
    · subst c1; have e : some 7 = some q := e; cases e; exact ⟨⟨by decide, by decide⟩, rfl, Or.inr ⟨3, rfl, dL_start_7, rfl⟩⟩
    by_cases c2 : k = 2
    · subst c2; have e : some 11 = some q := e; cases e; exact ⟨⟨by decide, by decide⟩, rfl, Or.inr ⟨3, rfl, dL_start_11, rfl⟩⟩
    simp only [if_neg c1, if_neg c2] at e
    cases e
  refine Go_ald0 dL_start_0 ?_
  refine Go_ild1 dL_start_1 ?_
  refine Go_ild2 dL_start_2 ?_
  refine Go_callVX (d' := 7) (bc' := 2) (bs' := 12) (as := [vi z1, vi z2]) (i := 3) (ix := 1) rfl dL_start_3 mvX11_start rfl lkL_10 rfl rfl rfl trivial rfl rfl (Nat.le_of_ble_eq_true rfl) (by decide) (by decide) (by decide) (Nat.le_of_ble_eq_true rfl) (fun j hj => by have e : j = 2 := (by omega); subst e; rfl) hH ?_
  refine e_X11_start h h1 h2 (fun a9 b9 c9 d9 e9 f9 g9 => ?_) (fun a9 => ⟨7, rfl, Go_hendB rfl dL_start_8 dL_start_10 (x1 a9)⟩) (fun a9 b9 c9 => ⟨11, rfl, Go_hendB rfl dL_start_12 dL_start_14 (x2 a9 b9 c9)⟩)
  · skip
    refine Go_ireturn dL_start_6 rfl (by first | rfl | decide | exact nar_b | simp [narrow]) ?_
    exact k a9 b9 c9 d9 e9 f9 g9
theorem e_L_step (h : CI w s sv g tx) (h1 : inR z1) (h2 : inR z2)
    (k : ∀ w' (p d : Nat), z1 = p → p < s.1.length → z2 = d → d < 4 → CI w' (stepS s p d) (pushS sv s) g tx → frm w w' ccs → K (vi (stepR s.1 p d)) none w')
    (x1 : ¬ (0 ≤ z1 ∧ z1 < s.1.length) → K (vi (-101)) none w)
    (x3 : 0 ≤ z1 → z1 < s.1.length → ¬ (0 ≤ z2 ∧ z2 ≤ 3) → K (vi (-102)) none w)
    : Ev G yL_step cL_step 4 mL_step none 9 2 12 [vr 1, vi z1, vi z2] w K XF := by
  refine Ev_intro msL_step.1 rfl (fun h => by cases h) (allc1 rfl) (Nat.le_of_ble_eq_true rfl) (Or.inr (fun _ _ _ h => h)) ?_
  show Go G cL_step mL_step none 9 2 12 0 [some (vr 1), some (vi z1), some (vi z2), none] [] w K XF
  have hH : ∀ k q, (fun k => if k = 1 then some 7 else if k = 3 then some 11 else none) k = some q → kEq k ∧ hOK mL_step.2.2.2 3 k q = true ∧ (decode cL_step q = .ok (.astore 3, 2) ∧ 1 = 2 ∨ ∃ j : Fin 4, (j : Nat) = 3 ∧ decode cL_step q = .ok (.astore_n j, 1) ∧ 1 = 1) := by
    intro k q e
    by_cases c1 : k = 1
    · subst c1; have e : some 7 = some q := e; cases e; exact ⟨⟨by decide, by decide⟩, rfl, Or.inr ⟨3, rfl, dL_step_7, rfl⟩⟩
    by_cases c3 : k = 3
    · subst c3; have e : some 11 = some q := e; cases e; exact ⟨⟨by decide, by decide⟩, rfl, Or.inr ⟨3, rfl, dL_step_11, rfl⟩⟩
    simp only [if_neg c1, if_neg c3] at e
    cases e
  refine Go_ald0 dL_step_0 ?_
  refine Go_ild1 dL_step_1 ?_
  refine Go_ild2 dL_step_2 ?_
  refine Go_callVX (d' := 8) (bc' := 2) (bs' := 12) (as := [vi z1, vi z2]) (i := 3) (ix := 1) rfl dL_step_3 mvX11_step rfl lkL_20 rfl rfl rfl trivial rfl rfl (Nat.le_of_ble_eq_true rfl) (by decide) (by decide) (by decide) (Nat.le_of_ble_eq_true rfl) (fun j hj => by have e : j = 2 := (by omega); subst e; rfl) hH ?_
  refine e_X11_step h h1 h2 (fun a9 b9 c9 d9 e9 f9 g9 h9 i9 => ?_) (fun a9 => ⟨7, rfl, Go_hendB rfl dL_step_8 dL_step_10 (x1 a9)⟩) (fun a9 b9 c9 => ⟨11, rfl, Go_hendB rfl dL_step_12 dL_step_14 (x3 a9 b9 c9)⟩)
  · skip
    refine Go_ireturn dL_step_6 rfl (by first | rfl | decide | exact nar_b | simp [narrow]) ?_
    exact k a9 b9 c9 d9 e9 f9 g9 h9 i9
theorem e_L_back (h : CI w s sv g tx) (h1 : inR z1)
    (k : ∀ w' (p : Nat), z1 = p → p < s.1.length → 2 ≤ (pth s.1 p).length → CI w' ((s.1.set p ((pth s.1 p).take ((pth s.1 p).length - 1)), s.2.1, s.2.2.1, s.2.2.2)) (pushS sv s) g tx → frm w w' ccs → K (vi ((pth s.1 p).length - 1)) none w')
    (x1 : ¬ (0 ≤ z1 ∧ z1 < s.1.length) → K (vi (-101)) none w)
    (x2 : ∀ p : Nat, z1 = p → p < s.1.length → (pth s.1 p).length = 1 → K (vi (-103)) none w)
    : Ev G yL_back cL_back 3 mL_back none 8 2 12 [vr 1, vi z1] w K XF := by
  refine Ev_intro msL_back.1 rfl (fun h => by cases h) (allc1 rfl) (Nat.le_of_ble_eq_true rfl) (Or.inr (fun _ _ _ h => h)) ?_
  show Go G cL_back mL_back none 8 2 12 0 [some (vr 1), some (vi z1), none] [] w K XF
  have hH : ∀ k q, (fun k => if k = 1 then some 6 else if k = 2 then some 10 else none) k = some q → kEq k ∧ hOK mL_back.2.2.2 2 k q = true ∧ (decode cL_back q = .ok (.astore 2, 2) ∧ 1 = 2 ∨ ∃ j : Fin 4, (j : Nat) = 2 ∧ decode cL_back q = .ok (.astore_n j, 1) ∧ 1 = 1) := by
    intro k q e
    by_cases c1 : k = 1
    · subst c1; have e : some 6 = some q := e; cases e; exact ⟨⟨by decide, by decide⟩, rfl, Or.inr ⟨2, rfl, dL_back_6, rfl⟩⟩
    by_cases c2 : k = 2
    · subst c2; have e : some 10 = some q := e; cases e; exact ⟨⟨by decide, by decide⟩, rfl, Or.inr ⟨2, rfl, dL_back_10, rfl⟩⟩
    simp only [if_neg c1, if_neg c2] at e
    cases e
  refine Go_ald0 dL_back_0 ?_
  refine Go_ild1 dL_back_1 ?_
  refine Go_callVX (d' := 7) (bc' := 2) (bs' := 12) (as := [vi z1]) (i := 2) (ix := 1) rfl dL_back_2 mvX11_back rfl lkL_25 rfl rfl rfl trivial rfl rfl (Nat.le_of_ble_eq_true rfl) (by decide) (by decide) (by decide) (Nat.le_of_ble_eq_true rfl) (fun j hj => by have e : j = 1 := (by omega); subst e; rfl) hH ?_
  refine e_X11_back h h1 (fun a9 b9 c9 d9 e9 f9 g9 => ?_) (fun a9 => ⟨6, rfl, Go_hendB rfl dL_back_7 dL_back_9 (x1 a9)⟩) (fun a9 b9 c9 d9 => ⟨10, rfl, Go_hendB rfl dL_back_11 dL_back_13 (x2 a9 b9 c9 d9)⟩)
  · skip
    refine Go_ireturn dL_back_5 rfl (by first | rfl | decide | exact nar_b | simp [narrow]) ?_
    exact k a9 b9 c9 d9 e9 f9 g9
theorem e_L_slither (h : CI w s sv g tx) (h1 : inR z1) (h2 : inR z2)
    (k : ∀ w' (p d : Nat), z1 = p → p < s.1.length → z2 = d → d < 4 → CI w' (slithS s p d) (pushS sv s) g tx → frm w w' ccs → K (vi (slithR s.1 p d)) none w')
    (x1 : ¬ (0 ≤ z1 ∧ z1 < s.1.length) → K (vi (-101)) none w)
    (x3 : 0 ≤ z1 → z1 < s.1.length → ¬ (0 ≤ z2 ∧ z2 ≤ 3) → K (vi (-102)) none w)
    : Ev G yL_slither cL_slither 4 mL_slither none 9 2 12 [vr 1, vi z1, vi z2] w K XF := by
  refine Ev_intro msL_slither.1 rfl (fun h => by cases h) (allc1 rfl) (Nat.le_of_ble_eq_true rfl) (Or.inr (fun _ _ _ h => h)) ?_
  show Go G cL_slither mL_slither none 9 2 12 0 [some (vr 1), some (vi z1), some (vi z2), none] [] w K XF
  have hH : ∀ k q, (fun k => if k = 1 then some 7 else if k = 3 then some 11 else none) k = some q → kEq k ∧ hOK mL_slither.2.2.2 3 k q = true ∧ (decode cL_slither q = .ok (.astore 3, 2) ∧ 1 = 2 ∨ ∃ j : Fin 4, (j : Nat) = 3 ∧ decode cL_slither q = .ok (.astore_n j, 1) ∧ 1 = 1) := by
    intro k q e
    by_cases c1 : k = 1
    · subst c1; have e : some 7 = some q := e; cases e; exact ⟨⟨by decide, by decide⟩, rfl, Or.inr ⟨3, rfl, dL_slither_7, rfl⟩⟩
    by_cases c3 : k = 3
    · subst c3; have e : some 11 = some q := e; cases e; exact ⟨⟨by decide, by decide⟩, rfl, Or.inr ⟨3, rfl, dL_slither_11, rfl⟩⟩
    simp only [if_neg c1, if_neg c3] at e
    cases e
  refine Go_ald0 dL_slither_0 ?_
  refine Go_ild1 dL_slither_1 ?_
  refine Go_ild2 dL_slither_2 ?_
  refine Go_callVX (d' := 8) (bc' := 2) (bs' := 12) (as := [vi z1, vi z2]) (i := 3) (ix := 1) rfl dL_slither_3 mvX11_slither rfl lkL_29 rfl rfl rfl trivial rfl rfl (Nat.le_of_ble_eq_true rfl) (by decide) (by decide) (by decide) (Nat.le_of_ble_eq_true rfl) (fun j hj => by have e : j = 2 := (by omega); subst e; rfl) hH ?_
  refine e_X11_slither h h1 h2 (fun a9 b9 c9 d9 e9 f9 g9 h9 i9 => ?_) (fun a9 => ⟨7, rfl, Go_hendB rfl dL_slither_8 dL_slither_10 (x1 a9)⟩) (fun a9 b9 c9 => ⟨11, rfl, Go_hendB rfl dL_slither_12 dL_slither_14 (x3 a9 b9 c9)⟩)
  · skip
    refine Go_ireturn dL_slither_6 rfl (by first | rfl | decide | exact nar_b | simp [narrow]) ?_
    exact k a9 b9 c9 d9 e9 f9 g9 h9 i9
theorem e_L_turn (h : CI w s sv g tx) (h1 : inR z1) (h2 : inR z2) (h3 : inR z3)
    (kt : ∀ w' (p j q : Nat), z1 = p → p < s.1.length → z2 = j → j < (pth s.1 p).length → z3 = q → 1 ≤ q → q ≤ 3 → whyT s.1 p j q = 0 → CI w' (turS s p j q) (pushS sv s) g tx → frm w w' ccs → K (vi 0) none w')
    (kf : ∀ w' (p j q : Nat), z1 = p → p < s.1.length → z2 = j → j < (pth s.1 p).length → z3 = q → 1 ≤ q → q ≤ 3 → whyT s.1 p j q ≠ 0 → CI w' ((s.1, s.2.1, s.2.2.1 + 1, s.2.2.2)) (pushS sv s) g tx → frm w w' ccs → K (vi (whyT s.1 p j q)) none w')
    (x1 : (∀ p j : Nat, z1 = p → p < s.1.length → z2 = j → ¬ j < (pth s.1 p).length) → K (vi (-101)) none w)
    (x3 : ∀ p j : Nat, z1 = p → p < s.1.length → z2 = j → j < (pth s.1 p).length → ¬ (1 ≤ z3 ∧ z3 ≤ 3) → K (vi (-102)) none w)
    : Ev G yL_turn cL_turn 5 mL_turn none 9 3 18 [vr 1, vi z1, vi z2, vi z3] w K XF := by
  refine Ev_intro msL_turn.1 rfl (fun h => by cases h) (allc1 rfl) (Nat.le_of_ble_eq_true rfl) (Or.inr (fun _ _ _ h => h)) ?_
  show Go G cL_turn mL_turn none 9 3 18 0 [some (vr 1), some (vi z1), some (vi z2), some (vi z3), none] [] w K XF
  have hH : ∀ k q, (fun k => if k = 1 then some 8 else if k = 3 then some 13 else none) k = some q → kEq k ∧ hOK mL_turn.2.2.2 4 k q = true ∧ (decode cL_turn q = .ok (.astore 4, 2) ∧ 2 = 2 ∨ ∃ j : Fin 4, (j : Nat) = 4 ∧ decode cL_turn q = .ok (.astore_n j, 1) ∧ 2 = 1) := by
    intro k q e
    by_cases c1 : k = 1
    · subst c1; have e : some 8 = some q := e; cases e; exact ⟨⟨by decide, by decide⟩, rfl, Or.inl ⟨dL_turn_8, rfl⟩⟩
    by_cases c3 : k = 3
    · subst c3; have e : some 13 = some q := e; cases e; exact ⟨⟨by decide, by decide⟩, rfl, Or.inl ⟨dL_turn_13, rfl⟩⟩
    simp only [if_neg c1, if_neg c3] at e
    cases e
  refine Go_ald0 dL_turn_0 ?_
  refine Go_ild1 dL_turn_1 ?_
  refine Go_ild2 dL_turn_2 ?_
  refine Go_ild3 dL_turn_3 ?_
  refine Go_callVX (d' := 8) (bc' := 3) (bs' := 18) (as := [vi z1, vi z2, vi z3]) (i := 4) (ix := 2) rfl dL_turn_4 mvX11_turn rfl lkL_32 rfl rfl rfl trivial rfl rfl (Nat.le_of_ble_eq_true rfl) (by decide) (by decide) (by decide) (Nat.le_of_ble_eq_true rfl) (fun j hj => by have e : j = 3 := (by omega); subst e; rfl) hH ?_
  refine e_X11_turn h h1 h2 h3 (fun a9 b9 c9 d9 e9 f9 g9 h9 i9 j9 k9 l9 m9 n9 => ?_) (fun a9 b9 c9 d9 e9 f9 g9 h9 i9 j9 k9 l9 m9 n9 => ?_) (fun a9 => ⟨8, rfl, Go_hendB rfl dL_turn_10 dL_turn_12 (x1 a9)⟩) (fun a9 b9 c9 d9 e9 f9 g9 => ⟨13, rfl, Go_hendB rfl dL_turn_15 dL_turn_17 (x3 a9 b9 c9 d9 e9 f9 g9)⟩)
  · skip
    refine Go_ireturn dL_turn_7 rfl (by first | rfl | decide | exact nar_b | simp [narrow]) ?_
    exact kt a9 b9 c9 d9 e9 f9 g9 h9 i9 j9 k9 l9 m9 n9
  · skip
    refine Go_ireturn dL_turn_7 rfl (by first | rfl | decide | exact nar_b | simp [narrow]) ?_
    exact kf a9 b9 c9 d9 e9 f9 g9 h9 i9 j9 k9 l9 m9 n9
theorem e_L_reverse (h : CI w s sv g tx) (h1 : inR z1)
    (k : ∀ w' (p : Nat), z1 = p → p < s.1.length → CI w' ((s.1.set p (pth s.1 p).reverse, s.2.1, s.2.2.1, s.2.2.2)) (pushS sv s) g tx → frm w w' ccs → K (vi (hdL (pth s.1 p).reverse)) none w')
    (x1 : ¬ (0 ≤ z1 ∧ z1 < s.1.length) → K (vi (-101)) none w)
    : Ev G yL_reverse cL_reverse 3 mL_reverse none 8 1 6 [vr 1, vi z1] w K XF := by
  refine Ev_intro msL_reverse.1 rfl (fun h => by cases h) (allc1 rfl) (Nat.le_of_ble_eq_true rfl) (Or.inr (fun _ _ _ h => h)) ?_
  show Go G cL_reverse mL_reverse none 8 1 6 0 [some (vr 1), some (vi z1), none] [] w K XF
  have hH : ∀ k q, (fun k => if k = 1 then some 6 else none) k = some q → kEq k ∧ hOK mL_reverse.2.2.2 2 k q = true ∧ (decode cL_reverse q = .ok (.astore 2, 2) ∧ 1 = 2 ∨ ∃ j : Fin 4, (j : Nat) = 2 ∧ decode cL_reverse q = .ok (.astore_n j, 1) ∧ 1 = 1) := by
    intro k q e
    by_cases c1 : k = 1
    · subst c1; have e : some 6 = some q := e; cases e; exact ⟨⟨by decide, by decide⟩, rfl, Or.inr ⟨2, rfl, dL_reverse_6, rfl⟩⟩
    simp only [if_neg c1] at e
    cases e
  refine Go_ald0 dL_reverse_0 ?_
  refine Go_ild1 dL_reverse_1 ?_
  refine Go_callVX (d' := 7) (bc' := 1) (bs' := 6) (as := [vi z1]) (i := 2) (ix := 1) rfl dL_reverse_2 mvX11_reverse rfl lkL_36 rfl rfl rfl trivial rfl rfl (Nat.le_of_ble_eq_true rfl) (by decide) (by decide) (by decide) (Nat.le_of_ble_eq_true rfl) (fun j hj => by have e : j = 1 := (by omega); subst e; rfl) hH ?_
  refine e_X11_reverse h h1 (fun a9 b9 c9 d9 e9 f9 => ?_) (fun a9 => ⟨6, rfl, Go_hendB rfl dL_reverse_7 dL_reverse_9 (x1 a9)⟩)
  · skip
    refine Go_ireturn dL_reverse_5 rfl (by first | rfl | decide | exact nar_b | simp [narrow]) ?_
    exact k a9 b9 c9 d9 e9 f9
theorem e_L_join (h : CI w s sv g tx) (h1 : inR z1) (h2 : inR z2)
    (k : ∀ w' (p o : Nat), z1 = p → p < s.1.length → z2 = o → o < s.1.length → p ≠ o → nbr (hdL (pth s.1 p)) (hdL (pth s.1 o)) → (pth s.1 p).length + (pth s.1 o).length ≤ 60 → CI w' (weldP s.1 p o, s.2.1, s.2.2.1, s.2.2.2) (pushS sv s) g tx → frm w w' ccs → K (vi (((pth s.1 p).length : Int) + (pth s.1 o).length)) none w')
    (x1 : ¬ (0 ≤ z1 ∧ z1 < s.1.length ∧ 0 ≤ z2 ∧ z2 < s.1.length) → K (vi (-101)) none w)
    (x3 : 0 ≤ z1 → z1 < s.1.length → z1 = z2 → K (vi (-102)) none w)
    (x2 : ∀ p o : Nat, z1 = p → p < s.1.length → z2 = o → o < s.1.length → p ≠ o → ¬ (nbr (hdL (pth s.1 p)) (hdL (pth s.1 o)) ∧ (pth s.1 p).length + (pth s.1 o).length ≤ 60) → K (vi (-103)) none w)
    : Ev G yL_join cL_join 4 mL_join none 9 4 24 [vr 1, vi z1, vi z2] w K XF := by
  refine Ev_intro msL_join.1 rfl (fun h => by cases h) (allc1 rfl) (Nat.le_of_ble_eq_true rfl) (Or.inr (fun _ _ _ h => h)) ?_
  show Go G cL_join mL_join none 9 4 24 0 [some (vr 1), some (vi z1), some (vi z2), none] [] w K XF
  have hH : ∀ k q, (fun k => if k = 1 then some 7 else if k = 2 then some 15 else if k = 3 then some 11 else none) k = some q → kEq k ∧ hOK mL_join.2.2.2 3 k q = true ∧ (decode cL_join q = .ok (.astore 3, 2) ∧ 1 = 2 ∨ ∃ j : Fin 4, (j : Nat) = 3 ∧ decode cL_join q = .ok (.astore_n j, 1) ∧ 1 = 1) := by
    intro k q e
    by_cases c1 : k = 1
    · subst c1; have e : some 7 = some q := e; cases e; exact ⟨⟨by decide, by decide⟩, rfl, Or.inr ⟨3, rfl, dL_join_7, rfl⟩⟩
    by_cases c2 : k = 2
    · subst c2; have e : some 15 = some q := e; cases e; exact ⟨⟨by decide, by decide⟩, rfl, Or.inr ⟨3, rfl, dL_join_15, rfl⟩⟩
    by_cases c3 : k = 3
    · subst c3; have e : some 11 = some q := e; cases e; exact ⟨⟨by decide, by decide⟩, rfl, Or.inr ⟨3, rfl, dL_join_11, rfl⟩⟩
    simp only [if_neg c1, if_neg c2, if_neg c3] at e
    cases e
  refine Go_ald0 dL_join_0 ?_
  refine Go_ild1 dL_join_1 ?_
  refine Go_ild2 dL_join_2 ?_
  refine Go_callVX (d' := 8) (bc' := 4) (bs' := 24) (as := [vi z1, vi z2]) (i := 3) (ix := 1) rfl dL_join_3 mvX11_join rfl lkL_39 rfl rfl rfl trivial rfl rfl (Nat.le_of_ble_eq_true rfl) (by decide) (by decide) (by decide) (Nat.le_of_ble_eq_true rfl) (fun j hj => by have e : j = 2 := (by omega); subst e; rfl) hH ?_
  refine e_X11_join h h1 h2 (fun a9 b9 c9 d9 e9 f9 g9 h9 i9 j9 k9 l9 => ?_) (fun a9 => ⟨7, rfl, Go_hendB rfl dL_join_8 dL_join_10 (x1 a9)⟩) (fun a9 b9 c9 => ⟨11, rfl, Go_hendB rfl dL_join_12 dL_join_14 (x3 a9 b9 c9)⟩) (fun a9 b9 c9 d9 e9 f9 g9 h9 => ⟨15, rfl, Go_hendB rfl dL_join_16 dL_join_18 (x2 a9 b9 c9 d9 e9 f9 g9 h9)⟩)
  · skip
    refine Go_ireturn dL_join_6 rfl (by first | rfl | decide | exact nar_b | simp [narrow]) ?_
    exact k a9 b9 c9 d9 e9 f9 g9 h9 i9 j9 k9 l9
theorem e_L_split (h : CI w s sv g tx) (h1 : inR z1) (h2 : inR z2)
    (k : ∀ w' (p j : Nat), z1 = p → p < s.1.length → z2 = j → j + 1 < (pth s.1 p).length → s.1.length < 5 → CI w' (s.1.set p ((pth s.1 p).take (j + 1)) ++ [(pth s.1 p).drop (j + 1)], s.2.1, s.2.2.1, s.2.2.2) (pushS sv s) g tx → frm w w' ccs → K (vi s.1.length) none w')
    (x1 : (∀ p j : Nat, z1 = p → p < s.1.length → z2 = j → ¬ j + 1 < (pth s.1 p).length) → K (vi (-101)) none w)
    (x2 : ∀ p j : Nat, z1 = p → p < s.1.length → z2 = j → j + 1 < (pth s.1 p).length → s.1.length = 5 → K (vi (-103)) none w)
    : Ev G yL_split cL_split 4 mL_split none 9 3 18 [vr 1, vi z1, vi z2] w K XF := by
  refine Ev_intro msL_split.1 rfl (fun h => by cases h) (allc1 rfl) (Nat.le_of_ble_eq_true rfl) (Or.inr (fun _ _ _ h => h)) ?_
  show Go G cL_split mL_split none 9 3 18 0 [some (vr 1), some (vi z1), some (vi z2), none] [] w K XF
  have hH : ∀ k q, (fun k => if k = 1 then some 7 else if k = 2 then some 11 else none) k = some q → kEq k ∧ hOK mL_split.2.2.2 3 k q = true ∧ (decode cL_split q = .ok (.astore 3, 2) ∧ 1 = 2 ∨ ∃ j : Fin 4, (j : Nat) = 3 ∧ decode cL_split q = .ok (.astore_n j, 1) ∧ 1 = 1) := by
    intro k q e
    by_cases c1 : k = 1
    · subst c1; have e : some 7 = some q := e; cases e; exact ⟨⟨by decide, by decide⟩, rfl, Or.inr ⟨3, rfl, dL_split_7, rfl⟩⟩
    by_cases c2 : k = 2
    · subst c2; have e : some 11 = some q := e; cases e; exact ⟨⟨by decide, by decide⟩, rfl, Or.inr ⟨3, rfl, dL_split_11, rfl⟩⟩
    simp only [if_neg c1, if_neg c2] at e
    cases e
  refine Go_ald0 dL_split_0 ?_
  refine Go_ild1 dL_split_1 ?_
  refine Go_ild2 dL_split_2 ?_
  refine Go_callVX (d' := 8) (bc' := 3) (bs' := 18) (as := [vi z1, vi z2]) (i := 3) (ix := 1) rfl dL_split_3 mvX11_split rfl lkL_42 rfl rfl rfl trivial rfl rfl (Nat.le_of_ble_eq_true rfl) (by decide) (by decide) (by decide) (Nat.le_of_ble_eq_true rfl) (fun j hj => by have e : j = 2 := (by omega); subst e; rfl) hH ?_
  refine e_X11_split h h1 h2 (fun a9 b9 c9 d9 e9 f9 g9 h9 i9 j9 => ?_) (fun a9 => ⟨7, rfl, Go_hendB rfl dL_split_8 dL_split_10 (x1 a9)⟩) (fun a9 b9 c9 d9 e9 f9 g9 => ⟨11, rfl, Go_hendB rfl dL_split_12 dL_split_14 (x2 a9 b9 c9 d9 e9 f9 g9)⟩)
  · skip
    refine Go_ireturn dL_split_6 rfl (by first | rfl | decide | exact nar_b | simp [narrow]) ?_
    exact k a9 b9 c9 d9 e9 f9 g9 h9 i9 j9
theorem e_L_remove (h : CI w s sv g tx) (h1 : inR z1)
    (k : ∀ w' (p : Nat), z1 = p → p < s.1.length → CI w' (s.1.eraseIdx p, s.2.1, s.2.2.1, s.2.2.2) (pushS sv s) g tx → frm w w' ccs → K (vi ((s.1.eraseIdx p).length)) none w')
    (x1 : ¬ (0 ≤ z1 ∧ z1 < s.1.length) → K (vi (-101)) none w)
    : Ev G yL_remove cL_remove 3 mL_remove none 8 1 6 [vr 1, vi z1] w K XF := by
  refine Ev_intro msL_remove.1 rfl (fun h => by cases h) (allc1 rfl) (Nat.le_of_ble_eq_true rfl) (Or.inr (fun _ _ _ h => h)) ?_
  show Go G cL_remove mL_remove none 8 1 6 0 [some (vr 1), some (vi z1), none] [] w K XF
  have hH : ∀ k q, (fun k => if k = 1 then some 6 else none) k = some q → kEq k ∧ hOK mL_remove.2.2.2 2 k q = true ∧ (decode cL_remove q = .ok (.astore 2, 2) ∧ 1 = 2 ∨ ∃ j : Fin 4, (j : Nat) = 2 ∧ decode cL_remove q = .ok (.astore_n j, 1) ∧ 1 = 1) := by
    intro k q e
    by_cases c1 : k = 1
    · subst c1; have e : some 6 = some q := e; cases e; exact ⟨⟨by decide, by decide⟩, rfl, Or.inr ⟨2, rfl, dL_remove_6, rfl⟩⟩
    simp only [if_neg c1] at e
    cases e
  refine Go_ald0 dL_remove_0 ?_
  refine Go_ild1 dL_remove_1 ?_
  refine Go_callVX (d' := 7) (bc' := 1) (bs' := 6) (as := [vi z1]) (i := 2) (ix := 1) rfl dL_remove_2 mvX11_remove rfl lkL_45 rfl rfl rfl trivial rfl rfl (Nat.le_of_ble_eq_true rfl) (by decide) (by decide) (by decide) (Nat.le_of_ble_eq_true rfl) (fun j hj => by have e : j = 1 := (by omega); subst e; rfl) hH ?_
  refine e_X11_remove h h1 (fun a9 b9 c9 d9 e9 f9 => ?_) (fun a9 => ⟨6, rfl, Go_hendB rfl dL_remove_7 dL_remove_9 (x1 a9)⟩)
  · skip
    refine Go_ireturn dL_remove_5 rfl (by first | rfl | decide | exact nar_b | simp [narrow]) ?_
    exact k a9 b9 c9 d9 e9 f9
theorem e_L_undo (h : CI w s sv g tx)
    (k : ∀ w', 0 < sv.length → CI w' (sv.getD (sv.length - 1) s00) (sv.take (sv.length - 1)) g tx → frm w w' ccs → K (vi ((sv.length : Int) - 1)) none w')
    (x2 : sv.length = 0 → K (vi (-103)) none w)
    : Ev G yL_undo cL_undo 2 mL_undo none 7 1 6 [vr 1] w K XF := by
  refine Ev_intro msL_undo.1 rfl (fun h => by cases h) (allc1 rfl) (Nat.le_of_ble_eq_true rfl) (Or.inr (fun _ _ _ h => h)) ?_
  show Go G cL_undo mL_undo none 7 1 6 0 [some (vr 1), none] [] w K XF
  have hH : ∀ k q, (fun k => if k = 2 then some 5 else none) k = some q → kEq k ∧ hOK mL_undo.2.2.2 1 k q = true ∧ (decode cL_undo q = .ok (.astore 1, 2) ∧ 1 = 2 ∨ ∃ j : Fin 4, (j : Nat) = 1 ∧ decode cL_undo q = .ok (.astore_n j, 1) ∧ 1 = 1) := by
    intro k q e
    by_cases c2 : k = 2
    · subst c2; have e : some 5 = some q := e; cases e; exact ⟨⟨by decide, by decide⟩, rfl, Or.inr ⟨1, rfl, dL_undo_5, rfl⟩⟩
    simp only [if_neg c2] at e
    cases e
  refine Go_ald0 dL_undo_0 ?_
  refine Go_callVX (d' := 6) (bc' := 1) (bs' := 6) (as := []) (i := 1) (ix := 1) rfl dL_undo_1 mvX11_undo rfl lkL_48 rfl rfl rfl trivial rfl rfl (Nat.le_of_ble_eq_true rfl) (by decide) (by decide) (by decide) (Nat.le_of_ble_eq_true rfl) (fun j hj => by have e : j = 0 := (by omega); subst e; rfl) hH ?_
  refine e_X11_undo h (fun a9 b9 c9 d9 => ?_) (fun a9 => ⟨5, rfl, Go_hendB rfl dL_undo_6 dL_undo_8 (x2 a9)⟩)
  · skip
    refine Go_ireturn dL_undo_4 rfl (by first | rfl | decide | exact nar_b | simp [narrow]) ?_
    exact k a9 b9 c9 d9
theorem e_L_site (h : CI w s sv g tx) (h1 : inR z1) (h2 : inR z2) (h3 : inR z3)
    (k : ∀ x : Nat, numI z1 z2 = x → x < 100 → 0 ≤ z3 → z3 ≤ 2 → K (vi (if z3 = 0 then ow s.1 x else if z3 = 1 then plc s.1 x else (frD s.1 x : Int))) none w)
    (x1 : numI z1 z2 = -1 → K (vi (-101)) none w)
    (x3 : numI z1 z2 ≠ -1 → ¬ (0 ≤ z3 ∧ z3 ≤ 2) → K (vi (-102)) none w)
    : Ev G yL_site cL_site 5 mL_site none 8 2 12 [vr 1, vi z1, vi z2, vi z3] w K XF := by
  refine Ev_intro msL_site.1 rfl (fun h => by cases h) (allc1 rfl) (Nat.le_of_ble_eq_true rfl) (Or.inr (fun _ _ _ h => h)) ?_
  show Go G cL_site mL_site none 8 2 12 0 [some (vr 1), some (vi z1), some (vi z2), some (vi z3), none] [] w K XF
  have hH : ∀ k q, (fun k => if k = 1 then some 8 else if k = 3 then some 13 else none) k = some q → kEq k ∧ hOK mL_site.2.2.2 4 k q = true ∧ (decode cL_site q = .ok (.astore 4, 2) ∧ 2 = 2 ∨ ∃ j : Fin 4, (j : Nat) = 4 ∧ decode cL_site q = .ok (.astore_n j, 1) ∧ 2 = 1) := by
    intro k q e
    by_cases c1 : k = 1
    · subst c1; have e : some 8 = some q := e; cases e; exact ⟨⟨by decide, by decide⟩, rfl, Or.inl ⟨dL_site_8, rfl⟩⟩
    by_cases c3 : k = 3
    · subst c3; have e : some 13 = some q := e; cases e; exact ⟨⟨by decide, by decide⟩, rfl, Or.inl ⟨dL_site_13, rfl⟩⟩
    simp only [if_neg c1, if_neg c3] at e
    cases e
  refine Go_ald0 dL_site_0 ?_
  refine Go_ild1 dL_site_1 ?_
  refine Go_ild2 dL_site_2 ?_
  refine Go_ild3 dL_site_3 ?_
  refine Go_callVX (d' := 7) (bc' := 2) (bs' := 12) (as := [vi z1, vi z2, vi z3]) (i := 4) (ix := 2) rfl dL_site_4 mvX11_site rfl lkL_52 rfl rfl rfl trivial rfl rfl (Nat.le_of_ble_eq_true rfl) (by decide) (by decide) (by decide) (Nat.le_of_ble_eq_true rfl) (fun j hj => by have e : j = 3 := (by omega); subst e; rfl) hH ?_
  refine e_X11_site h h1 h2 h3 (fun a9 b9 c9 d9 e9 => ?_) (fun a9 => ⟨8, rfl, Go_hendB rfl dL_site_10 dL_site_12 (x1 a9)⟩) (fun a9 b9 => ⟨13, rfl, Go_hendB rfl dL_site_15 dL_site_17 (x3 a9 b9)⟩)
  · skip
    refine Go_ireturn dL_site_7 rfl (by first | rfl | decide | exact nar_b | simp [narrow]) ?_
    exact k a9 b9 c9 d9 e9
theorem e_L_place (h : CI w s sv g tx) (h1 : inR z1) (h2 : inR z2)
    (k : ∀ p : Nat, z1 = p → p < s.1.length → K (vi (atI (pth s.1 p) z2)) none w)
    (x1 : ¬ (0 ≤ z1 ∧ z1 < s.1.length) → K (vi (-101)) none w)
    : Ev G yL_place cL_place 4 mL_place none 8 1 6 [vr 1, vi z1, vi z2] w K XF := by
  refine Ev_intro msL_place.1 rfl (fun h => by cases h) (allc1 rfl) (Nat.le_of_ble_eq_true rfl) (Or.inr (fun _ _ _ h => h)) ?_
  show Go G cL_place mL_place none 8 1 6 0 [some (vr 1), some (vi z1), some (vi z2), none] [] w K XF
  have hH : ∀ k q, (fun k => if k = 1 then some 7 else none) k = some q → kEq k ∧ hOK mL_place.2.2.2 3 k q = true ∧ (decode cL_place q = .ok (.astore 3, 2) ∧ 1 = 2 ∨ ∃ j : Fin 4, (j : Nat) = 3 ∧ decode cL_place q = .ok (.astore_n j, 1) ∧ 1 = 1) := by
    intro k q e
    by_cases c1 : k = 1
    · subst c1; have e : some 7 = some q := e; cases e; exact ⟨⟨by decide, by decide⟩, rfl, Or.inr ⟨3, rfl, dL_place_7, rfl⟩⟩
    simp only [if_neg c1] at e
    cases e
  refine Go_ald0 dL_place_0 ?_
  refine Go_ild1 dL_place_1 ?_
  refine Go_ild2 dL_place_2 ?_
  refine Go_callVX (d' := 7) (bc' := 1) (bs' := 6) (as := [vi z1, vi z2]) (i := 3) (ix := 1) rfl dL_place_3 mvX11_place rfl lkL_55 rfl rfl rfl trivial rfl rfl (Nat.le_of_ble_eq_true rfl) (by decide) (by decide) (by decide) (Nat.le_of_ble_eq_true rfl) (fun j hj => by have e : j = 2 := (by omega); subst e; rfl) hH ?_
  refine e_X11_place h h1 h2 (fun a9 b9 c9 => ?_) (fun a9 => ⟨7, rfl, Go_hendB rfl dL_place_8 dL_place_10 (x1 a9)⟩)
  · skip
    refine Go_ireturn dL_place_6 rfl (by first | rfl | decide | exact nar_b | simp [narrow]) ?_
    exact k a9 b9 c9
theorem e_L_path (h : CI w s sv g tx) (h1 : inR z1) (h2 : inR z2)
    (k : ∀ p : Nat, z1 = p → p < s.1.length → 0 ≤ z2 → z2 ≤ 8 → K (vi (pthA s.1 p z2)) none w)
    (x1 : ¬ (0 ≤ z1 ∧ z1 < s.1.length) → K (vi (-101)) none w)
    (x3 : 0 ≤ z1 → z1 < s.1.length → ¬ (0 ≤ z2 ∧ z2 ≤ 8) → K (vi (-102)) none w)
    : Ev G yL_path cL_path 4 mL_path none 8 2 12 [vr 1, vi z1, vi z2] w K XF := by
  refine Ev_intro msL_path.1 rfl (fun h => by cases h) (allc1 rfl) (Nat.le_of_ble_eq_true rfl) (Or.inr (fun _ _ _ h => h)) ?_
  show Go G cL_path mL_path none 8 2 12 0 [some (vr 1), some (vi z1), some (vi z2), none] [] w K XF
  have hH : ∀ k q, (fun k => if k = 1 then some 7 else if k = 3 then some 11 else none) k = some q → kEq k ∧ hOK mL_path.2.2.2 3 k q = true ∧ (decode cL_path q = .ok (.astore 3, 2) ∧ 1 = 2 ∨ ∃ j : Fin 4, (j : Nat) = 3 ∧ decode cL_path q = .ok (.astore_n j, 1) ∧ 1 = 1) := by
    intro k q e
    by_cases c1 : k = 1
    · subst c1; have e : some 7 = some q := e; cases e; exact ⟨⟨by decide, by decide⟩, rfl, Or.inr ⟨3, rfl, dL_path_7, rfl⟩⟩
    by_cases c3 : k = 3
    · subst c3; have e : some 11 = some q := e; cases e; exact ⟨⟨by decide, by decide⟩, rfl, Or.inr ⟨3, rfl, dL_path_11, rfl⟩⟩
    simp only [if_neg c1, if_neg c3] at e
    cases e
  refine Go_ald0 dL_path_0 ?_
  refine Go_ild1 dL_path_1 ?_
  refine Go_ild2 dL_path_2 ?_
  refine Go_callVX (d' := 7) (bc' := 2) (bs' := 12) (as := [vi z1, vi z2]) (i := 3) (ix := 1) rfl dL_path_3 mvX11_path rfl lkL_58 rfl rfl rfl trivial rfl rfl (Nat.le_of_ble_eq_true rfl) (by decide) (by decide) (by decide) (Nat.le_of_ble_eq_true rfl) (fun j hj => by have e : j = 2 := (by omega); subst e; rfl) hH ?_
  refine e_X11_path h h1 h2 (fun a9 b9 c9 d9 e9 => ?_) (fun a9 => ⟨7, rfl, Go_hendB rfl dL_path_8 dL_path_10 (x1 a9)⟩) (fun a9 b9 c9 => ⟨11, rfl, Go_hendB rfl dL_path_12 dL_path_14 (x3 a9 b9 c9)⟩)
  · skip
    refine Go_ireturn dL_path_6 rfl (by first | rfl | decide | exact nar_b | simp [narrow]) ?_
    exact k a9 b9 c9 d9 e9
theorem e_L_touching (h : CI w s sv g tx) (h1 : inR z1) (h2 : inR z2)
    (k : ∀ p o : Nat, z1 = p → p < s.1.length → z2 = o → o < s.1.length → p ≠ o → K (vi (toC s.1 p o)) none w)
    (x1 : ¬ (0 ≤ z1 ∧ z1 < s.1.length ∧ 0 ≤ z2 ∧ z2 < s.1.length) → K (vi (-101)) none w)
    (x3 : 0 ≤ z1 → z1 < s.1.length → z1 = z2 → K (vi (-102)) none w)
    : Ev G yL_touching cL_touching 4 mL_touching none 9 3 18 [vr 1, vi z1, vi z2] w K XF := by
  refine Ev_intro msL_touching.1 rfl (fun h => by cases h) (allc1 rfl) (Nat.le_of_ble_eq_true rfl) (Or.inr (fun _ _ _ h => h)) ?_
  show Go G cL_touching mL_touching none 9 3 18 0 [some (vr 1), some (vi z1), some (vi z2), none] [] w K XF
  have hH : ∀ k q, (fun k => if k = 1 then some 7 else if k = 3 then some 11 else none) k = some q → kEq k ∧ hOK mL_touching.2.2.2 3 k q = true ∧ (decode cL_touching q = .ok (.astore 3, 2) ∧ 1 = 2 ∨ ∃ j : Fin 4, (j : Nat) = 3 ∧ decode cL_touching q = .ok (.astore_n j, 1) ∧ 1 = 1) := by
    intro k q e
    by_cases c1 : k = 1
    · subst c1; have e : some 7 = some q := e; cases e; exact ⟨⟨by decide, by decide⟩, rfl, Or.inr ⟨3, rfl, dL_touching_7, rfl⟩⟩
    by_cases c3 : k = 3
    · subst c3; have e : some 11 = some q := e; cases e; exact ⟨⟨by decide, by decide⟩, rfl, Or.inr ⟨3, rfl, dL_touching_11, rfl⟩⟩
    simp only [if_neg c1, if_neg c3] at e
    cases e
  refine Go_ald0 dL_touching_0 ?_
  refine Go_ild1 dL_touching_1 ?_
  refine Go_ild2 dL_touching_2 ?_
  refine Go_callVX (d' := 8) (bc' := 3) (bs' := 18) (as := [vi z1, vi z2]) (i := 3) (ix := 1) rfl dL_touching_3 mvX11_touching rfl lkL_61 rfl rfl rfl trivial rfl rfl (Nat.le_of_ble_eq_true rfl) (by decide) (by decide) (by decide) (Nat.le_of_ble_eq_true rfl) (fun j hj => by have e : j = 2 := (by omega); subst e; rfl) hH ?_
  refine e_X11_touching h h1 h2 (fun a9 b9 c9 d9 e9 f9 g9 => ?_) (fun a9 => ⟨7, rfl, Go_hendB rfl dL_touching_8 dL_touching_10 (x1 a9)⟩) (fun a9 b9 c9 => ⟨11, rfl, Go_hendB rfl dL_touching_12 dL_touching_14 (x3 a9 b9 c9)⟩)
  · skip
    refine Go_ireturn dL_touching_6 rfl (by first | rfl | decide | exact nar_b | simp [narrow]) ?_
    exact k a9 b9 c9 d9 e9 f9 g9
theorem e_L_count (h : CI w s sv g tx) (h1 : inR z1)
    (k : 0 ≤ z1 → z1 ≤ 6 → K (vi (cntA s sv tx z1)) none w)
    (x3 : ¬ (0 ≤ z1 ∧ z1 ≤ 6) → K (vi (-102)) none w)
    : Ev G yL_count cL_count 3 mL_count none 8 1 6 [vr 1, vi z1] w K XF := by
  refine Ev_intro msL_count.1 rfl (fun h => by cases h) (allc1 rfl) (Nat.le_of_ble_eq_true rfl) (Or.inr (fun _ _ _ h => h)) ?_
  show Go G cL_count mL_count none 8 1 6 0 [some (vr 1), some (vi z1), none] [] w K XF
  have hH : ∀ k q, (fun k => if k = 3 then some 6 else none) k = some q → kEq k ∧ hOK mL_count.2.2.2 2 k q = true ∧ (decode cL_count q = .ok (.astore 2, 2) ∧ 1 = 2 ∨ ∃ j : Fin 4, (j : Nat) = 2 ∧ decode cL_count q = .ok (.astore_n j, 1) ∧ 1 = 1) := by
    intro k q e
    by_cases c3 : k = 3
    · subst c3; have e : some 6 = some q := e; cases e; exact ⟨⟨by decide, by decide⟩, rfl, Or.inr ⟨2, rfl, dL_count_6, rfl⟩⟩
    simp only [if_neg c3] at e
    cases e
  refine Go_ald0 dL_count_0 ?_
  refine Go_ild1 dL_count_1 ?_
  refine Go_callVX (d' := 7) (bc' := 1) (bs' := 6) (as := [vi z1]) (i := 2) (ix := 1) rfl dL_count_2 mvX11_count rfl lkL_64 rfl rfl rfl trivial rfl rfl (Nat.le_of_ble_eq_true rfl) (by decide) (by decide) (by decide) (Nat.le_of_ble_eq_true rfl) (fun j hj => by have e : j = 1 := (by omega); subst e; rfl) hH ?_
  refine e_X11_count h h1 (fun a9 b9 => ?_) (fun a9 => ⟨6, rfl, Go_hendB rfl dL_count_7 dL_count_9 (x3 a9)⟩)
  · skip
    refine Go_ireturn dL_count_5 rfl (by first | rfl | decide | exact nar_b | simp [narrow]) ?_
    exact k a9 b9
theorem e_L_ifTurned (h : CI w s sv g tx) (h1 : inR z1) (h2 : inR z2) (h3 : inR z3)
    (k : ∀ w' (p j q : Nat), z1 = p → p < s.1.length → z2 = j → j < (pth s.1 p).length → z3 = q → 1 ≤ q → q ≤ 3 → CI w' s sv g tx → frm w w' ccs → K (vi (whyT s.1 p j q)) none w')
    (x1 : (∀ p j : Nat, z1 = p → p < s.1.length → z2 = j → ¬ j < (pth s.1 p).length) → K (vi (-101)) none w)
    (x3 : ∀ p j : Nat, z1 = p → p < s.1.length → z2 = j → j < (pth s.1 p).length → ¬ (1 ≤ z3 ∧ z3 ≤ 3) → K (vi (-102)) none w)
    : Ev G yL_ifTurned cL_ifTurned 5 mL_ifTurned none 9 3 18 [vr 1, vi z1, vi z2, vi z3] w K XF := by
  refine Ev_intro msL_ifTurned.1 rfl (fun h => by cases h) (allc1 rfl) (Nat.le_of_ble_eq_true rfl) (Or.inr (fun _ _ _ h => h)) ?_
  show Go G cL_ifTurned mL_ifTurned none 9 3 18 0 [some (vr 1), some (vi z1), some (vi z2), some (vi z3), none] [] w K XF
  have hH : ∀ k q, (fun k => if k = 1 then some 8 else if k = 3 then some 13 else none) k = some q → kEq k ∧ hOK mL_ifTurned.2.2.2 4 k q = true ∧ (decode cL_ifTurned q = .ok (.astore 4, 2) ∧ 2 = 2 ∨ ∃ j : Fin 4, (j : Nat) = 4 ∧ decode cL_ifTurned q = .ok (.astore_n j, 1) ∧ 2 = 1) := by
    intro k q e
    by_cases c1 : k = 1
    · subst c1; have e : some 8 = some q := e; cases e; exact ⟨⟨by decide, by decide⟩, rfl, Or.inl ⟨dL_ifTurned_8, rfl⟩⟩
    by_cases c3 : k = 3
    · subst c3; have e : some 13 = some q := e; cases e; exact ⟨⟨by decide, by decide⟩, rfl, Or.inl ⟨dL_ifTurned_13, rfl⟩⟩
    simp only [if_neg c1, if_neg c3] at e
    cases e
  refine Go_ald0 dL_ifTurned_0 ?_
  refine Go_ild1 dL_ifTurned_1 ?_
  refine Go_ild2 dL_ifTurned_2 ?_
  refine Go_ild3 dL_ifTurned_3 ?_
  refine Go_callVX (d' := 8) (bc' := 3) (bs' := 18) (as := [vi z1, vi z2, vi z3]) (i := 4) (ix := 2) rfl dL_ifTurned_4 mvX11_ifTurned rfl lkL_67 rfl rfl rfl trivial rfl rfl (Nat.le_of_ble_eq_true rfl) (by decide) (by decide) (by decide) (Nat.le_of_ble_eq_true rfl) (fun j hj => by have e : j = 3 := (by omega); subst e; rfl) hH ?_
  refine e_X11_ifTurned h h1 h2 h3 (fun a9 b9 c9 d9 e9 f9 g9 h9 i9 j9 k9 l9 m9 => ?_) (fun a9 => ⟨8, rfl, Go_hendB rfl dL_ifTurned_10 dL_ifTurned_12 (x1 a9)⟩) (fun a9 b9 c9 d9 e9 f9 g9 => ⟨13, rfl, Go_hendB rfl dL_ifTurned_15 dL_ifTurned_17 (x3 a9 b9 c9 d9 e9 f9 g9)⟩)
  · skip
    refine Go_ireturn dL_ifTurned_7 rfl (by first | rfl | decide | exact nar_b | simp [narrow]) ?_
    exact k a9 b9 c9 d9 e9 f9 g9 h9 i9 j9 k9 l9 m9
end Wrap
