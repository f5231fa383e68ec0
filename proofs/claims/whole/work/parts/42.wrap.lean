section Wrap
variable {G : Gm} {w : Wd} {K : Kt} {s : Sta} {sv : List Sta} {g : Nat → Option Sta} {tx : List Nat} {z1 z2 z3 : Int}
theorem e_L_start (h : CI w s sv g tx) (h1 : inR z1) (h2 : inR z2)
    (k : ∀ w' (x : Nat), numI z1 z2 = x → ow s.1 x = -1 → s.1.length < 5 → CI w' ((s.1 ++ [[x]], s.2.1, s.2.2.1, s.2.2.2)) (pushS sv s) g tx → frm w w' ccs → K (vi 0) none (up w' 84 0 (nz s.1.length)))
    (x1 : numI z1 z2 = -1 → K (vi 1) none w)
    (x2 : ∀ x : Nat, numI z1 z2 = x → ¬ (ow s.1 x = -1 ∧ s.1.length < 5) → K (vi 2) none w)
    : Ev G yL_start cL_start 5 mL_start none 8 2 12 [vr 1, vi z1, vi z2, vr 84] w K XF := by
  refine Ev_intro msL_start.1 rfl (fun h => by cases h) (allc1 rfl) (Nat.le_of_ble_eq_true rfl) (Or.inr (fun _ _ _ h => h)) ?_
  show Go G cL_start mL_start none 8 2 12 0 [some (vr 1), some (vi z1), some (vi z2), some (vr 84), none] [] w K XF
  have hH : ∀ k q, (fun k => if k = 1 then some 13 else if k = 2 then some 17 else none) k = some q → kEq k ∧ hOK mL_start.2.2.2 5 k q = true ∧ (decode cL_start q = .ok (.astore 4, 2) ∧ 2 = 2 ∨ ∃ j : Fin 4, (j : Nat) = 4 ∧ decode cL_start q = .ok (.astore_n j, 1) ∧ 2 = 1) := by
    intro k q e
    by_cases c1 : k = 1
    · subst c1; have e : some 13 = some q := e; cases e; exact ⟨⟨by decide, by decide⟩, rfl, Or.inl ⟨dL_start_13, rfl⟩⟩
    by_cases c2 : k = 2
    · subst c2; have e : some 17 = some q := e; cases e; exact ⟨⟨by decide, by decide⟩, rfl, Or.inl ⟨dL_start_17, rfl⟩⟩
    simp only [if_neg c1, if_neg c2] at e
    cases e
  refine Go_ald3 dL_start_0 ?_
  refine Go_iconst dL_start_1 ?_
  refine Go_ald0 dL_start_2 ?_
  refine Go_ild1 dL_start_3 ?_
  refine Go_ild2 dL_start_4 ?_
  refine Go_callVX (d' := 7) (bc' := 2) (bs' := 12) (as := [vi z1, vi z2]) (i := 4) (ix := 2) rfl dL_start_5 mvX11_start rfl lkL_7 rfl rfl rfl trivial rfl rfl (Nat.le_of_ble_eq_true rfl) (by decide) (by decide) (by decide) (Nat.le_of_ble_eq_true rfl) (fun j hj => by have e : j = 3 := (by omega); subst e; rfl) hH ?_
  refine e_X11_start h h1 h2 (fun a9 b9 c9 d9 e9 f9 g9 => ?_) (fun a9 => ⟨13, rfl, Go_hend rfl dL_start_15 dL_start_16 (x1 a9)⟩) (fun a9 b9 c9 => ⟨17, rfl, Go_hend rfl dL_start_19 dL_start_20 (x2 a9 b9 c9)⟩)
  · skip
    refine Go_i2lN dL_start_8 ?_
    refine Go_last dL_start_9 (by first | assumption | rfl) trivial (by omega) (by omega) (by decide) ?_
    refine Go_goto (tgt := 21) dL_start_10 (by decide) ?_
    refine Go_iconst dL_start_21 ?_
    refine Go_ireturn dL_start_22 rfl (by first | rfl | decide | exact nar_b | simp [narrow]) ?_
    rw [show (0 : Int).toNat = 0 from rfl]
    exact k a9 b9 c9 d9 e9 f9 g9
theorem e_L_step (h : CI w s sv g tx) (h1 : inR z1) (h2 : inR z2)
    (k : ∀ w' (p d : Nat), z1 = p → p < s.1.length → z2 = d → d < 4 → CI w' (stepS s p d) (pushS sv s) g tx → frm w w' ccs → K (vi 0) none (up w' 84 0 (nz (stepR s.1 p d))))
    (x1 : ¬ (0 ≤ z1 ∧ z1 < s.1.length) → K (vi 1) none w)
    (x3 : 0 ≤ z1 → z1 < s.1.length → ¬ (0 ≤ z2 ∧ z2 ≤ 3) → K (vi 2) none w)
    : Ev G yL_step cL_step 5 mL_step none 9 2 12 [vr 1, vi z1, vi z2, vr 84] w K XF := by
  refine Ev_intro msL_step.1 rfl (fun h => by cases h) (allc1 rfl) (Nat.le_of_ble_eq_true rfl) (Or.inr (fun _ _ _ h => h)) ?_
  show Go G cL_step mL_step none 9 2 12 0 [some (vr 1), some (vi z1), some (vi z2), some (vr 84), none] [] w K XF
  have hH : ∀ k q, (fun k => if k = 1 then some 13 else if k = 3 then some 17 else none) k = some q → kEq k ∧ hOK mL_step.2.2.2 5 k q = true ∧ (decode cL_step q = .ok (.astore 4, 2) ∧ 2 = 2 ∨ ∃ j : Fin 4, (j : Nat) = 4 ∧ decode cL_step q = .ok (.astore_n j, 1) ∧ 2 = 1) := by
    intro k q e
    by_cases c1 : k = 1
    · subst c1; have e : some 13 = some q := e; cases e; exact ⟨⟨by decide, by decide⟩, rfl, Or.inl ⟨dL_step_13, rfl⟩⟩
    by_cases c3 : k = 3
    · subst c3; have e : some 17 = some q := e; cases e; exact ⟨⟨by decide, by decide⟩, rfl, Or.inl ⟨dL_step_17, rfl⟩⟩
    simp only [if_neg c1, if_neg c3] at e
    cases e
  refine Go_ald3 dL_step_0 ?_
  refine Go_iconst dL_step_1 ?_
  refine Go_ald0 dL_step_2 ?_
  refine Go_ild1 dL_step_3 ?_
  refine Go_ild2 dL_step_4 ?_
  refine Go_callVX (d' := 8) (bc' := 2) (bs' := 12) (as := [vi z1, vi z2]) (i := 4) (ix := 2) rfl dL_step_5 mvX11_step rfl lkL_17 rfl rfl rfl trivial rfl rfl (Nat.le_of_ble_eq_true rfl) (by decide) (by decide) (by decide) (Nat.le_of_ble_eq_true rfl) (fun j hj => by have e : j = 3 := (by omega); subst e; rfl) hH ?_
  refine e_X11_step h h1 h2 (fun a9 b9 c9 d9 e9 f9 g9 h9 i9 => ?_) (fun a9 => ⟨13, rfl, Go_hend rfl dL_step_15 dL_step_16 (x1 a9)⟩) (fun a9 b9 c9 => ⟨17, rfl, Go_hend rfl dL_step_19 dL_step_20 (x3 a9 b9 c9)⟩)
  · skip
    refine Go_i2lN dL_step_8 ?_
    refine Go_last dL_step_9 (by first | assumption | rfl) trivial (by omega) (by omega) (by decide) ?_
    refine Go_goto (tgt := 21) dL_step_10 (by decide) ?_
    refine Go_iconst dL_step_21 ?_
    refine Go_ireturn dL_step_22 rfl (by first | rfl | decide | exact nar_b | simp [narrow]) ?_
    rw [show (0 : Int).toNat = 0 from rfl]
    exact k a9 b9 c9 d9 e9 f9 g9 h9 i9
theorem e_L_back (h : CI w s sv g tx) (h1 : inR z1)
    (k : ∀ w' (p : Nat), z1 = p → p < s.1.length → 2 ≤ (pth s.1 p).length → CI w' ((s.1.set p ((pth s.1 p).take ((pth s.1 p).length - 1)), s.2.1, s.2.2.1, s.2.2.2)) (pushS sv s) g tx → frm w w' ccs → K (vi 0) none (up w' 84 0 (nz ((pth s.1 p).length - 1))))
    (x1 : ¬ (0 ≤ z1 ∧ z1 < s.1.length) → K (vi 1) none w)
    (x2 : ∀ p : Nat, z1 = p → p < s.1.length → (pth s.1 p).length = 1 → K (vi 2) none w)
    : Ev G yL_back cL_back 4 mL_back none 8 2 12 [vr 1, vi z1, vr 84] w K XF := by
  refine Ev_intro msL_back.1 rfl (fun h => by cases h) (allc1 rfl) (Nat.le_of_ble_eq_true rfl) (Or.inr (fun _ _ _ h => h)) ?_
  show Go G cL_back mL_back none 8 2 12 0 [some (vr 1), some (vi z1), some (vr 84), none] [] w K XF
  have hH : ∀ k q, (fun k => if k = 1 then some 12 else if k = 2 then some 15 else none) k = some q → kEq k ∧ hOK mL_back.2.2.2 4 k q = true ∧ (decode cL_back q = .ok (.astore 3, 2) ∧ 1 = 2 ∨ ∃ j : Fin 4, (j : Nat) = 3 ∧ decode cL_back q = .ok (.astore_n j, 1) ∧ 1 = 1) := by
    intro k q e
    by_cases c1 : k = 1
    · subst c1; have e : some 12 = some q := e; cases e; exact ⟨⟨by decide, by decide⟩, rfl, Or.inr ⟨3, rfl, dL_back_12, rfl⟩⟩
    by_cases c2 : k = 2
    · subst c2; have e : some 15 = some q := e; cases e; exact ⟨⟨by decide, by decide⟩, rfl, Or.inr ⟨3, rfl, dL_back_15, rfl⟩⟩
    simp only [if_neg c1, if_neg c2] at e
    cases e
  refine Go_ald2 dL_back_0 ?_
  refine Go_iconst dL_back_1 ?_
  refine Go_ald0 dL_back_2 ?_
  refine Go_ild1 dL_back_3 ?_
  refine Go_callVX (d' := 7) (bc' := 2) (bs' := 12) (as := [vi z1]) (i := 3) (ix := 1) rfl dL_back_4 mvX11_back rfl lkL_22 rfl rfl rfl trivial rfl rfl (Nat.le_of_ble_eq_true rfl) (by decide) (by decide) (by decide) (Nat.le_of_ble_eq_true rfl) (fun j hj => by have e : j = 2 := (by omega); subst e; rfl) hH ?_
  refine e_X11_back h h1 (fun a9 b9 c9 d9 e9 f9 g9 => ?_) (fun a9 => ⟨12, rfl, Go_hend rfl dL_back_13 dL_back_14 (x1 a9)⟩) (fun a9 b9 c9 d9 => ⟨15, rfl, Go_hend rfl dL_back_16 dL_back_17 (x2 a9 b9 c9 d9)⟩)
  · skip
    refine Go_i2lN dL_back_7 ?_
    refine Go_last dL_back_8 (by first | assumption | rfl) trivial (by omega) (by omega) (by decide) ?_
    refine Go_goto (tgt := 18) dL_back_9 (by decide) ?_
    refine Go_iconst dL_back_18 ?_
    refine Go_ireturn dL_back_19 rfl (by first | rfl | decide | exact nar_b | simp [narrow]) ?_
    rw [show (0 : Int).toNat = 0 from rfl]
    exact k a9 b9 c9 d9 e9 f9 g9
theorem e_L_slither (h : CI w s sv g tx) (h1 : inR z1) (h2 : inR z2)
    (k : ∀ w' (p d : Nat), z1 = p → p < s.1.length → z2 = d → d < 4 → CI w' (slithS s p d) (pushS sv s) g tx → frm w w' ccs → K (vi 0) none (up w' 84 0 (nz (slithR s.1 p d))))
    (x1 : ¬ (0 ≤ z1 ∧ z1 < s.1.length) → K (vi 1) none w)
    (x3 : 0 ≤ z1 → z1 < s.1.length → ¬ (0 ≤ z2 ∧ z2 ≤ 3) → K (vi 2) none w)
    : Ev G yL_slither cL_slither 5 mL_slither none 9 2 12 [vr 1, vi z1, vi z2, vr 84] w K XF := by
  refine Ev_intro msL_slither.1 rfl (fun h => by cases h) (allc1 rfl) (Nat.le_of_ble_eq_true rfl) (Or.inr (fun _ _ _ h => h)) ?_
  show Go G cL_slither mL_slither none 9 2 12 0 [some (vr 1), some (vi z1), some (vi z2), some (vr 84), none] [] w K XF
  have hH : ∀ k q, (fun k => if k = 1 then some 13 else if k = 3 then some 17 else none) k = some q → kEq k ∧ hOK mL_slither.2.2.2 5 k q = true ∧ (decode cL_slither q = .ok (.astore 4, 2) ∧ 2 = 2 ∨ ∃ j : Fin 4, (j : Nat) = 4 ∧ decode cL_slither q = .ok (.astore_n j, 1) ∧ 2 = 1) := by
    intro k q e
    by_cases c1 : k = 1
    · subst c1; have e : some 13 = some q := e; cases e; exact ⟨⟨by decide, by decide⟩, rfl, Or.inl ⟨dL_slither_13, rfl⟩⟩
    by_cases c3 : k = 3
    · subst c3; have e : some 17 = some q := e; cases e; exact ⟨⟨by decide, by decide⟩, rfl, Or.inl ⟨dL_slither_17, rfl⟩⟩
    simp only [if_neg c1, if_neg c3] at e
    cases e
  refine Go_ald3 dL_slither_0 ?_
  refine Go_iconst dL_slither_1 ?_
  refine Go_ald0 dL_slither_2 ?_
  refine Go_ild1 dL_slither_3 ?_
  refine Go_ild2 dL_slither_4 ?_
  refine Go_callVX (d' := 8) (bc' := 2) (bs' := 12) (as := [vi z1, vi z2]) (i := 4) (ix := 2) rfl dL_slither_5 mvX11_slither rfl lkL_26 rfl rfl rfl trivial rfl rfl (Nat.le_of_ble_eq_true rfl) (by decide) (by decide) (by decide) (Nat.le_of_ble_eq_true rfl) (fun j hj => by have e : j = 3 := (by omega); subst e; rfl) hH ?_
  refine e_X11_slither h h1 h2 (fun a9 b9 c9 d9 e9 f9 g9 h9 i9 => ?_) (fun a9 => ⟨13, rfl, Go_hend rfl dL_slither_15 dL_slither_16 (x1 a9)⟩) (fun a9 b9 c9 => ⟨17, rfl, Go_hend rfl dL_slither_19 dL_slither_20 (x3 a9 b9 c9)⟩)
  · skip
    refine Go_i2lN dL_slither_8 ?_
    refine Go_last dL_slither_9 (by first | assumption | rfl) trivial (by omega) (by omega) (by decide) ?_
    refine Go_goto (tgt := 21) dL_slither_10 (by decide) ?_
    refine Go_iconst dL_slither_21 ?_
    refine Go_ireturn dL_slither_22 rfl (by first | rfl | decide | exact nar_b | simp [narrow]) ?_
    rw [show (0 : Int).toNat = 0 from rfl]
    exact k a9 b9 c9 d9 e9 f9 g9 h9 i9
theorem e_L_turn (h : CI w s sv g tx) (h1 : inR z1) (h2 : inR z2) (h3 : inR z3)
    (kt : ∀ w' (p j q : Nat), z1 = p → p < s.1.length → z2 = j → j < (pth s.1 p).length → z3 = q → 1 ≤ q → q ≤ 3 → whyT s.1 p j q = 0 → CI w' (turS s p j q) (pushS sv s) g tx → frm w w' ccs → K (vi 0) none (up w' 84 0 (nz 0)))
    (kf : ∀ w' (p j q : Nat), z1 = p → p < s.1.length → z2 = j → j < (pth s.1 p).length → z3 = q → 1 ≤ q → q ≤ 3 → whyT s.1 p j q ≠ 0 → CI w' ((s.1, s.2.1, s.2.2.1 + 1, s.2.2.2)) (pushS sv s) g tx → frm w w' ccs → K (vi 0) none (up w' 84 0 (nz (whyT s.1 p j q))))
    (x1 : (∀ p j : Nat, z1 = p → p < s.1.length → z2 = j → ¬ j < (pth s.1 p).length) → K (vi 1) none w)
    (x3 : ∀ p j : Nat, z1 = p → p < s.1.length → z2 = j → j < (pth s.1 p).length → ¬ (1 ≤ z3 ∧ z3 ≤ 3) → K (vi 2) none w)
    : Ev G yL_turn cL_turn 6 mL_turn none 9 3 18 [vr 1, vi z1, vi z2, vi z3, vr 84] w K XF := by
  refine Ev_intro msL_turn.1 rfl (fun h => by cases h) (allc1 rfl) (Nat.le_of_ble_eq_true rfl) (Or.inr (fun _ _ _ h => h)) ?_
  show Go G cL_turn mL_turn none 9 3 18 0 [some (vr 1), some (vi z1), some (vi z2), some (vi z3), some (vr 84), none] [] w K XF
  have hH : ∀ k q, (fun k => if k = 1 then some 15 else if k = 3 then some 19 else none) k = some q → kEq k ∧ hOK mL_turn.2.2.2 7 k q = true ∧ (decode cL_turn q = .ok (.astore 5, 2) ∧ 2 = 2 ∨ ∃ j : Fin 4, (j : Nat) = 5 ∧ decode cL_turn q = .ok (.astore_n j, 1) ∧ 2 = 1) := by
    intro k q e
    by_cases c1 : k = 1
    · subst c1; have e : some 15 = some q := e; cases e; exact ⟨⟨by decide, by decide⟩, rfl, Or.inl ⟨dL_turn_15, rfl⟩⟩
    by_cases c3 : k = 3
    · subst c3; have e : some 19 = some q := e; cases e; exact ⟨⟨by decide, by decide⟩, rfl, Or.inl ⟨dL_turn_19, rfl⟩⟩
    simp only [if_neg c1, if_neg c3] at e
    cases e
  refine Go_ald4 dL_turn_0 ?_
  refine Go_iconst dL_turn_2 ?_
  refine Go_ald0 dL_turn_3 ?_
  refine Go_ild1 dL_turn_4 ?_
  refine Go_ild2 dL_turn_5 ?_
  refine Go_ild3 dL_turn_6 ?_
  refine Go_callVX (d' := 8) (bc' := 3) (bs' := 18) (as := [vi z1, vi z2, vi z3]) (i := 5) (ix := 2) rfl dL_turn_7 mvX11_turn rfl lkL_29 rfl rfl rfl trivial rfl rfl (Nat.le_of_ble_eq_true rfl) (by decide) (by decide) (by decide) (Nat.le_of_ble_eq_true rfl) (fun j hj => by have e : j = 4 := (by omega); subst e; rfl) hH ?_
  refine e_X11_turn h h1 h2 h3 (fun a9 b9 c9 d9 e9 f9 g9 h9 i9 j9 k9 l9 m9 n9 => ?_) (fun a9 b9 c9 d9 e9 f9 g9 h9 i9 j9 k9 l9 m9 n9 => ?_) (fun a9 => ⟨15, rfl, Go_hend rfl dL_turn_17 dL_turn_18 (x1 a9)⟩) (fun a9 b9 c9 d9 e9 f9 g9 => ⟨19, rfl, Go_hend rfl dL_turn_21 dL_turn_22 (x3 a9 b9 c9 d9 e9 f9 g9)⟩)
  · skip
    refine Go_i2lN dL_turn_10 ?_
    refine Go_last dL_turn_11 (by first | assumption | rfl) trivial (by omega) (by omega) (by decide) ?_
    refine Go_goto (tgt := 23) dL_turn_12 (by decide) ?_
    refine Go_iconst dL_turn_23 ?_
    refine Go_ireturn dL_turn_24 rfl (by first | rfl | decide | exact nar_b | simp [narrow]) ?_
    rw [show (0 : Int).toNat = 0 from rfl]
    exact kt a9 b9 c9 d9 e9 f9 g9 h9 i9 j9 k9 l9 m9 n9
  · skip
    refine Go_i2lN dL_turn_10 ?_
    refine Go_last dL_turn_11 (by first | assumption | rfl) trivial (by omega) (by omega) (by decide) ?_
    refine Go_goto (tgt := 23) dL_turn_12 (by decide) ?_
    refine Go_iconst dL_turn_23 ?_
    refine Go_ireturn dL_turn_24 rfl (by first | rfl | decide | exact nar_b | simp [narrow]) ?_
    rw [show (0 : Int).toNat = 0 from rfl]
    exact kf a9 b9 c9 d9 e9 f9 g9 h9 i9 j9 k9 l9 m9 n9
theorem e_L_reverse (h : CI w s sv g tx) (h1 : inR z1)
    (k : ∀ w' (p : Nat), z1 = p → p < s.1.length → CI w' ((s.1.set p (pth s.1 p).reverse, s.2.1, s.2.2.1, s.2.2.2)) (pushS sv s) g tx → frm w w' ccs → K (vi 0) none (up w' 84 0 (nz (hdL (pth s.1 p).reverse))))
    (x1 : ¬ (0 ≤ z1 ∧ z1 < s.1.length) → K (vi 1) none w)
    : Ev G yL_reverse cL_reverse 4 mL_reverse none 8 1 6 [vr 1, vi z1, vr 84] w K XF := by
  refine Ev_intro msL_reverse.1 rfl (fun h => by cases h) (allc1 rfl) (Nat.le_of_ble_eq_true rfl) (Or.inr (fun _ _ _ h => h)) ?_
  show Go G cL_reverse mL_reverse none 8 1 6 0 [some (vr 1), some (vi z1), some (vr 84), none] [] w K XF
  have hH : ∀ k q, (fun k => if k = 1 then some 12 else none) k = some q → kEq k ∧ hOK mL_reverse.2.2.2 4 k q = true ∧ (decode cL_reverse q = .ok (.astore 3, 2) ∧ 1 = 2 ∨ ∃ j : Fin 4, (j : Nat) = 3 ∧ decode cL_reverse q = .ok (.astore_n j, 1) ∧ 1 = 1) := by
    intro k q e
    by_cases c1 : k = 1
    · subst c1; have e : some 12 = some q := e; cases e; exact ⟨⟨by decide, by decide⟩, rfl, Or.inr ⟨3, rfl, dL_reverse_12, rfl⟩⟩
    simp only [if_neg c1] at e
    cases e
  refine Go_ald2 dL_reverse_0 ?_
  refine Go_iconst dL_reverse_1 ?_
  refine Go_ald0 dL_reverse_2 ?_
  refine Go_ild1 dL_reverse_3 ?_
  refine Go_callVX (d' := 7) (bc' := 1) (bs' := 6) (as := [vi z1]) (i := 3) (ix := 1) rfl dL_reverse_4 mvX11_reverse rfl lkL_33 rfl rfl rfl trivial rfl rfl (Nat.le_of_ble_eq_true rfl) (by decide) (by decide) (by decide) (Nat.le_of_ble_eq_true rfl) (fun j hj => by have e : j = 2 := (by omega); subst e; rfl) hH ?_
  refine e_X11_reverse h h1 (fun a9 b9 c9 d9 e9 f9 => ?_) (fun a9 => ⟨12, rfl, Go_hend rfl dL_reverse_13 dL_reverse_14 (x1 a9)⟩)
  · skip
    refine Go_i2lN dL_reverse_7 ?_
    refine Go_last dL_reverse_8 (by first | assumption | rfl) trivial (by omega) (by omega) (by decide) ?_
    refine Go_goto (tgt := 15) dL_reverse_9 (by decide) ?_
    refine Go_iconst dL_reverse_15 ?_
    refine Go_ireturn dL_reverse_16 rfl (by first | rfl | decide | exact nar_b | simp [narrow]) ?_
    rw [show (0 : Int).toNat = 0 from rfl]
    exact k a9 b9 c9 d9 e9 f9
theorem e_L_join (h : CI w s sv g tx) (h1 : inR z1) (h2 : inR z2)
    (k : ∀ w' (p o : Nat), z1 = p → p < s.1.length → z2 = o → o < s.1.length → p ≠ o → nbr (hdL (pth s.1 p)) (hdL (pth s.1 o)) → (pth s.1 p).length + (pth s.1 o).length ≤ 60 → CI w' (weldP s.1 p o, s.2.1, s.2.2.1, s.2.2.2) (pushS sv s) g tx → frm w w' ccs → K (vi 0) none (up w' 84 0 (nz (((pth s.1 p).length : Int) + (pth s.1 o).length))))
    (x1 : ¬ (0 ≤ z1 ∧ z1 < s.1.length ∧ 0 ≤ z2 ∧ z2 < s.1.length) → K (vi 1) none w)
    (x3 : 0 ≤ z1 → z1 < s.1.length → z1 = z2 → K (vi 2) none w)
    (x2 : ∀ p o : Nat, z1 = p → p < s.1.length → z2 = o → o < s.1.length → p ≠ o → ¬ (nbr (hdL (pth s.1 p)) (hdL (pth s.1 o)) ∧ (pth s.1 p).length + (pth s.1 o).length ≤ 60) → K (vi 3) none w)
    : Ev G yL_join cL_join 5 mL_join none 9 4 24 [vr 1, vi z1, vi z2, vr 84] w K XF := by
  refine Ev_intro msL_join.1 rfl (fun h => by cases h) (allc1 rfl) (Nat.le_of_ble_eq_true rfl) (Or.inr (fun _ _ _ h => h)) ?_
  show Go G cL_join mL_join none 9 4 24 0 [some (vr 1), some (vi z1), some (vi z2), some (vr 84), none] [] w K XF
  have hH : ∀ k q, (fun k => if k = 1 then some 13 else if k = 2 then some 21 else if k = 3 then some 17 else none) k = some q → kEq k ∧ hOK mL_join.2.2.2 5 k q = true ∧ (decode cL_join q = .ok (.astore 4, 2) ∧ 2 = 2 ∨ ∃ j : Fin 4, (j : Nat) = 4 ∧ decode cL_join q = .ok (.astore_n j, 1) ∧ 2 = 1) := by
    intro k q e
    by_cases c1 : k = 1
    · subst c1; have e : some 13 = some q := e; cases e; exact ⟨⟨by decide, by decide⟩, rfl, Or.inl ⟨dL_join_13, rfl⟩⟩
    by_cases c2 : k = 2
    · subst c2; have e : some 21 = some q := e; cases e; exact ⟨⟨by decide, by decide⟩, rfl, Or.inl ⟨dL_join_21, rfl⟩⟩
    by_cases c3 : k = 3
    · subst c3; have e : some 17 = some q := e; cases e; exact ⟨⟨by decide, by decide⟩, rfl, Or.inl ⟨dL_join_17, rfl⟩⟩
    simp only [if_neg c1, if_neg c2, if_neg c3] at e
    cases e
  refine Go_ald3 dL_join_0 ?_
  refine Go_iconst dL_join_1 ?_
  refine Go_ald0 dL_join_2 ?_
  refine Go_ild1 dL_join_3 ?_
  refine Go_ild2 dL_join_4 ?_
  refine Go_callVX (d' := 8) (bc' := 4) (bs' := 24) (as := [vi z1, vi z2]) (i := 4) (ix := 2) rfl dL_join_5 mvX11_join rfl lkL_36 rfl rfl rfl trivial rfl rfl (Nat.le_of_ble_eq_true rfl) (by decide) (by decide) (by decide) (Nat.le_of_ble_eq_true rfl) (fun j hj => by have e : j = 3 := (by omega); subst e; rfl) hH ?_
  refine e_X11_join h h1 h2 (fun a9 b9 c9 d9 e9 f9 g9 h9 i9 j9 k9 l9 => ?_) (fun a9 => ⟨13, rfl, Go_hend rfl dL_join_15 dL_join_16 (x1 a9)⟩) (fun a9 b9 c9 => ⟨17, rfl, Go_hend rfl dL_join_19 dL_join_20 (x3 a9 b9 c9)⟩) (fun a9 b9 c9 d9 e9 f9 g9 h9 => ⟨21, rfl, Go_hend rfl dL_join_23 dL_join_24 (x2 a9 b9 c9 d9 e9 f9 g9 h9)⟩)
  · skip
    refine Go_i2lN dL_join_8 ?_
    refine Go_last dL_join_9 (by first | assumption | rfl) trivial (by omega) (by omega) (by decide) ?_
    refine Go_goto (tgt := 25) dL_join_10 (by decide) ?_
    refine Go_iconst dL_join_25 ?_
    refine Go_ireturn dL_join_26 rfl (by first | rfl | decide | exact nar_b | simp [narrow]) ?_
    rw [show (0 : Int).toNat = 0 from rfl]
    exact k a9 b9 c9 d9 e9 f9 g9 h9 i9 j9 k9 l9
theorem e_L_split (h : CI w s sv g tx) (h1 : inR z1) (h2 : inR z2)
    (k : ∀ w' (p j : Nat), z1 = p → p < s.1.length → z2 = j → j + 1 < (pth s.1 p).length → s.1.length < 5 → CI w' (s.1.set p ((pth s.1 p).take (j + 1)) ++ [(pth s.1 p).drop (j + 1)], s.2.1, s.2.2.1, s.2.2.2) (pushS sv s) g tx → frm w w' ccs → K (vi 0) none (up w' 84 0 (nz s.1.length)))
    (x1 : (∀ p j : Nat, z1 = p → p < s.1.length → z2 = j → ¬ j + 1 < (pth s.1 p).length) → K (vi 1) none w)
    (x2 : ∀ p j : Nat, z1 = p → p < s.1.length → z2 = j → j + 1 < (pth s.1 p).length → s.1.length = 5 → K (vi 2) none w)
    : Ev G yL_split cL_split 5 mL_split none 9 3 18 [vr 1, vi z1, vi z2, vr 84] w K XF := by
  refine Ev_intro msL_split.1 rfl (fun h => by cases h) (allc1 rfl) (Nat.le_of_ble_eq_true rfl) (Or.inr (fun _ _ _ h => h)) ?_
  show Go G cL_split mL_split none 9 3 18 0 [some (vr 1), some (vi z1), some (vi z2), some (vr 84), none] [] w K XF
  have hH : ∀ k q, (fun k => if k = 1 then some 13 else if k = 2 then some 17 else none) k = some q → kEq k ∧ hOK mL_split.2.2.2 5 k q = true ∧ (decode cL_split q = .ok (.astore 4, 2) ∧ 2 = 2 ∨ ∃ j : Fin 4, (j : Nat) = 4 ∧ decode cL_split q = .ok (.astore_n j, 1) ∧ 2 = 1) := by
    intro k q e
    by_cases c1 : k = 1
    · subst c1; have e : some 13 = some q := e; cases e; exact ⟨⟨by decide, by decide⟩, rfl, Or.inl ⟨dL_split_13, rfl⟩⟩
    by_cases c2 : k = 2
    · subst c2; have e : some 17 = some q := e; cases e; exact ⟨⟨by decide, by decide⟩, rfl, Or.inl ⟨dL_split_17, rfl⟩⟩
    simp only [if_neg c1, if_neg c2] at e
    cases e
  refine Go_ald3 dL_split_0 ?_
  refine Go_iconst dL_split_1 ?_
  refine Go_ald0 dL_split_2 ?_
  refine Go_ild1 dL_split_3 ?_
  refine Go_ild2 dL_split_4 ?_
  refine Go_callVX (d' := 8) (bc' := 3) (bs' := 18) (as := [vi z1, vi z2]) (i := 4) (ix := 2) rfl dL_split_5 mvX11_split rfl lkL_39 rfl rfl rfl trivial rfl rfl (Nat.le_of_ble_eq_true rfl) (by decide) (by decide) (by decide) (Nat.le_of_ble_eq_true rfl) (fun j hj => by have e : j = 3 := (by omega); subst e; rfl) hH ?_
  refine e_X11_split h h1 h2 (fun a9 b9 c9 d9 e9 f9 g9 h9 i9 j9 => ?_) (fun a9 => ⟨13, rfl, Go_hend rfl dL_split_15 dL_split_16 (x1 a9)⟩) (fun a9 b9 c9 d9 e9 f9 g9 => ⟨17, rfl, Go_hend rfl dL_split_19 dL_split_20 (x2 a9 b9 c9 d9 e9 f9 g9)⟩)
  · skip
    refine Go_i2lN dL_split_8 ?_
    refine Go_last dL_split_9 (by first | assumption | rfl) trivial (by omega) (by omega) (by decide) ?_
    refine Go_goto (tgt := 21) dL_split_10 (by decide) ?_
    refine Go_iconst dL_split_21 ?_
    refine Go_ireturn dL_split_22 rfl (by first | rfl | decide | exact nar_b | simp [narrow]) ?_
    rw [show (0 : Int).toNat = 0 from rfl]
    exact k a9 b9 c9 d9 e9 f9 g9 h9 i9 j9
theorem e_L_remove (h : CI w s sv g tx) (h1 : inR z1)
    (k : ∀ w' (p : Nat), z1 = p → p < s.1.length → CI w' (s.1.eraseIdx p, s.2.1, s.2.2.1, s.2.2.2) (pushS sv s) g tx → frm w w' ccs → K (vi 0) none (up w' 84 0 (nz ((s.1.eraseIdx p).length))))
    (x1 : ¬ (0 ≤ z1 ∧ z1 < s.1.length) → K (vi 1) none w)
    : Ev G yL_remove cL_remove 4 mL_remove none 8 1 6 [vr 1, vi z1, vr 84] w K XF := by
  refine Ev_intro msL_remove.1 rfl (fun h => by cases h) (allc1 rfl) (Nat.le_of_ble_eq_true rfl) (Or.inr (fun _ _ _ h => h)) ?_
  show Go G cL_remove mL_remove none 8 1 6 0 [some (vr 1), some (vi z1), some (vr 84), none] [] w K XF
  have hH : ∀ k q, (fun k => if k = 1 then some 12 else none) k = some q → kEq k ∧ hOK mL_remove.2.2.2 4 k q = true ∧ (decode cL_remove q = .ok (.astore 3, 2) ∧ 1 = 2 ∨ ∃ j : Fin 4, (j : Nat) = 3 ∧ decode cL_remove q = .ok (.astore_n j, 1) ∧ 1 = 1) := by
    intro k q e
    by_cases c1 : k = 1
    · subst c1; have e : some 12 = some q := e; cases e; exact ⟨⟨by decide, by decide⟩, rfl, Or.inr ⟨3, rfl, dL_remove_12, rfl⟩⟩
    simp only [if_neg c1] at e
    cases e
  refine Go_ald2 dL_remove_0 ?_
  refine Go_iconst dL_remove_1 ?_
  refine Go_ald0 dL_remove_2 ?_
  refine Go_ild1 dL_remove_3 ?_
  refine Go_callVX (d' := 7) (bc' := 1) (bs' := 6) (as := [vi z1]) (i := 3) (ix := 1) rfl dL_remove_4 mvX11_remove rfl lkL_42 rfl rfl rfl trivial rfl rfl (Nat.le_of_ble_eq_true rfl) (by decide) (by decide) (by decide) (Nat.le_of_ble_eq_true rfl) (fun j hj => by have e : j = 2 := (by omega); subst e; rfl) hH ?_
  refine e_X11_remove h h1 (fun a9 b9 c9 d9 e9 f9 => ?_) (fun a9 => ⟨12, rfl, Go_hend rfl dL_remove_13 dL_remove_14 (x1 a9)⟩)
  · skip
    refine Go_i2lN dL_remove_7 ?_
    refine Go_last dL_remove_8 (by first | assumption | rfl) trivial (by omega) (by omega) (by decide) ?_
    refine Go_goto (tgt := 15) dL_remove_9 (by decide) ?_
    refine Go_iconst dL_remove_15 ?_
    refine Go_ireturn dL_remove_16 rfl (by first | rfl | decide | exact nar_b | simp [narrow]) ?_
    rw [show (0 : Int).toNat = 0 from rfl]
    exact k a9 b9 c9 d9 e9 f9
theorem e_L_append (h : CI w s sv g tx) (h1 : inR z1)
    (k : ∀ w' (c : Nat), z1 = c → 33 ≤ c → c ≤ 126 → tx.length < 70 → CI w' s sv g (tx ++ [c]) → frm w w' ccs → K (vi 0) none (up w' 84 0 (nz (tx.length + 1))))
    (x3 : ¬ (33 ≤ z1 ∧ z1 ≤ 126) → K (vi 1) none w)
    (x2 : 33 ≤ z1 → z1 ≤ 126 → tx.length = 70 → K (vi 2) none w)
    : Ev G yL_append cL_append 4 mL_append none 8 2 12 [vr 1, vi z1, vr 84] w K XF := by
  refine Ev_intro msL_append.1 rfl (fun h => by cases h) (allc1 rfl) (Nat.le_of_ble_eq_true rfl) (Or.inr (fun _ _ _ h => h)) ?_
  show Go G cL_append mL_append none 8 2 12 0 [some (vr 1), some (vi z1), some (vr 84), none] [] w K XF
  have hH : ∀ k q, (fun k => if k = 2 then some 15 else if k = 3 then some 12 else none) k = some q → kEq k ∧ hOK mL_append.2.2.2 4 k q = true ∧ (decode cL_append q = .ok (.astore 3, 2) ∧ 1 = 2 ∨ ∃ j : Fin 4, (j : Nat) = 3 ∧ decode cL_append q = .ok (.astore_n j, 1) ∧ 1 = 1) := by
    intro k q e
    by_cases c2 : k = 2
    · subst c2; have e : some 15 = some q := e; cases e; exact ⟨⟨by decide, by decide⟩, rfl, Or.inr ⟨3, rfl, dL_append_15, rfl⟩⟩
    by_cases c3 : k = 3
    · subst c3; have e : some 12 = some q := e; cases e; exact ⟨⟨by decide, by decide⟩, rfl, Or.inr ⟨3, rfl, dL_append_12, rfl⟩⟩
    simp only [if_neg c2, if_neg c3] at e
    cases e
  refine Go_ald2 dL_append_0 ?_
  refine Go_iconst dL_append_1 ?_
  refine Go_ald0 dL_append_2 ?_
  refine Go_ild1 dL_append_3 ?_
  refine Go_callVX (d' := 7) (bc' := 2) (bs' := 12) (as := [vi z1]) (i := 3) (ix := 1) rfl dL_append_4 mvX11_append rfl lkL_45 rfl rfl rfl trivial rfl rfl (Nat.le_of_ble_eq_true rfl) (by decide) (by decide) (by decide) (Nat.le_of_ble_eq_true rfl) (fun j hj => by have e : j = 2 := (by omega); subst e; rfl) hH ?_
  refine e_X11_append h h1 (fun a9 b9 c9 d9 e9 f9 g9 h9 => ?_) (fun a9 => ⟨12, rfl, Go_hend rfl dL_append_13 dL_append_14 (x3 a9)⟩) (fun a9 b9 c9 => ⟨15, rfl, Go_hend rfl dL_append_16 dL_append_17 (x2 a9 b9 c9)⟩)
  · skip
    refine Go_i2lN dL_append_7 ?_
    refine Go_last dL_append_8 (by first | assumption | rfl) trivial (by omega) (by omega) (by decide) ?_
    refine Go_goto (tgt := 18) dL_append_9 (by decide) ?_
    refine Go_iconst dL_append_18 ?_
    refine Go_ireturn dL_append_19 rfl (by first | rfl | decide | exact nar_b | simp [narrow]) ?_
    rw [show (0 : Int).toNat = 0 from rfl]
    exact k a9 b9 c9 d9 e9 f9 g9 h9
theorem e_L_draw (h : CI w s sv g tx)
    (k : ∀ w', 4 ≤ tx.length → errN tx = tx.length → s.1.length < 5 → wkA s.1 tx (tx.length - 3) = true → CI w' (s.1 ++ [wkL tx (tx.length - 3)], s.2.1, s.2.2.1, s.2.2.2) (pushS sv s) g [] → frm w w' ccs → K (vi 0) none (up w' 84 0 (nz s.1.length)))
    (x3 : ¬ (4 ≤ tx.length ∧ errN tx = tx.length) → K (vi 1) none w)
    (x2 : ∀ w', 4 ≤ tx.length → errN tx = tx.length → ¬ (s.1.length < 5 ∧ wkA s.1 tx (tx.length - 3) = true) → CI w' s sv g tx → frm w w' ccs → K (vi 2) none w')
    : Ev G yL_draw cL_draw 3 mL_draw none 8 1 6 [vr 1, vr 84] w K XF := by
  refine Ev_intro msL_draw.1 rfl (fun h => by cases h) (allc1 rfl) (Nat.le_of_ble_eq_true rfl) (Or.inr (fun _ _ _ h => h)) ?_
  show Go G cL_draw mL_draw none 8 1 6 0 [some (vr 1), some (vr 84), none] [] w K XF
  have hH : ∀ k q, (fun k => if k = 2 then some 14 else if k = 3 then some 11 else none) k = some q → kEq k ∧ hOK mL_draw.2.2.2 3 k q = true ∧ (decode cL_draw q = .ok (.astore 2, 2) ∧ 1 = 2 ∨ ∃ j : Fin 4, (j : Nat) = 2 ∧ decode cL_draw q = .ok (.astore_n j, 1) ∧ 1 = 1) := by
    intro k q e
    by_cases c2 : k = 2
    · subst c2; have e : some 14 = some q := e; cases e; exact ⟨⟨by decide, by decide⟩, rfl, Or.inr ⟨2, rfl, dL_draw_14, rfl⟩⟩
    by_cases c3 : k = 3
    · subst c3; have e : some 11 = some q := e; cases e; exact ⟨⟨by decide, by decide⟩, rfl, Or.inr ⟨2, rfl, dL_draw_11, rfl⟩⟩
    simp only [if_neg c2, if_neg c3] at e
    cases e
  refine Go_ald1 dL_draw_0 ?_
  refine Go_iconst dL_draw_1 ?_
  refine Go_ald0 dL_draw_2 ?_
  refine Go_callVX (d' := 7) (bc' := 1) (bs' := 6) (as := []) (i := 2) (ix := 1) rfl dL_draw_3 mvX11_draw rfl lkL_48 rfl rfl rfl trivial rfl rfl (Nat.le_of_ble_eq_true rfl) (by decide) (by decide) (by decide) (Nat.le_of_ble_eq_true rfl) (fun j hj => by have e : j = 1 := (by omega); subst e; rfl) hH ?_
  refine e_X11_draw h (fun a9 b9 c9 d9 e9 f9 g9 => ?_) (fun a9 => ⟨11, rfl, Go_hend rfl dL_draw_12 dL_draw_13 (x3 a9)⟩) (fun a9 b9 c9 d9 e9 f9 => ⟨14, rfl, Go_hend rfl dL_draw_15 dL_draw_16 (x2 a9 b9 c9 d9 e9 f9)⟩)
  · skip
    refine Go_i2lN dL_draw_6 ?_
    refine Go_last dL_draw_7 (by first | assumption | rfl) trivial (by omega) (by omega) (by decide) ?_
    refine Go_goto (tgt := 17) dL_draw_8 (by decide) ?_
    refine Go_iconst dL_draw_17 ?_
    refine Go_ireturn dL_draw_18 rfl (by first | rfl | decide | exact nar_b | simp [narrow]) ?_
    rw [show (0 : Int).toNat = 0 from rfl]
    exact k a9 b9 c9 d9 e9 f9 g9
theorem e_L_write (h : CI w s sv g tx) (h1 : inR z1)
    (k : ∀ w' (p : Nat), z1 = p → p < s.1.length → CI w' s sv g (wrT (pth s.1 p)) → frm w w' ccs → K (vi 0) none (up w' 84 0 (nz ((wrT (pth s.1 p)).length))))
    (x1 : ¬ (0 ≤ z1 ∧ z1 < s.1.length) → K (vi 1) none w)
    : Ev G yL_write cL_write 4 mL_write none 8 1 6 [vr 1, vi z1, vr 84] w K XF := by
  refine Ev_intro msL_write.1 rfl (fun h => by cases h) (allc1 rfl) (Nat.le_of_ble_eq_true rfl) (Or.inr (fun _ _ _ h => h)) ?_
  show Go G cL_write mL_write none 8 1 6 0 [some (vr 1), some (vi z1), some (vr 84), none] [] w K XF
  have hH : ∀ k q, (fun k => if k = 1 then some 12 else none) k = some q → kEq k ∧ hOK mL_write.2.2.2 4 k q = true ∧ (decode cL_write q = .ok (.astore 3, 2) ∧ 1 = 2 ∨ ∃ j : Fin 4, (j : Nat) = 3 ∧ decode cL_write q = .ok (.astore_n j, 1) ∧ 1 = 1) := by
    intro k q e
    by_cases c1 : k = 1
    · subst c1; have e : some 12 = some q := e; cases e; exact ⟨⟨by decide, by decide⟩, rfl, Or.inr ⟨3, rfl, dL_write_12, rfl⟩⟩
    simp only [if_neg c1] at e
    cases e
  refine Go_ald2 dL_write_0 ?_
  refine Go_iconst dL_write_1 ?_
  refine Go_ald0 dL_write_2 ?_
  refine Go_ild1 dL_write_3 ?_
  refine Go_callVX (d' := 7) (bc' := 1) (bs' := 6) (as := [vi z1]) (i := 3) (ix := 1) rfl dL_write_4 mvX11_write rfl lkL_52 rfl rfl rfl trivial rfl rfl (Nat.le_of_ble_eq_true rfl) (by decide) (by decide) (by decide) (Nat.le_of_ble_eq_true rfl) (fun j hj => by have e : j = 2 := (by omega); subst e; rfl) hH ?_
  refine e_X11_write h h1 (fun a9 b9 c9 d9 e9 f9 => ?_) (fun a9 => ⟨12, rfl, Go_hend rfl dL_write_13 dL_write_14 (x1 a9)⟩)
  · skip
    refine Go_i2lN dL_write_7 ?_
    refine Go_last dL_write_8 (by first | assumption | rfl) trivial (by omega) (by omega) (by decide) ?_
    refine Go_goto (tgt := 15) dL_write_9 (by decide) ?_
    refine Go_iconst dL_write_15 ?_
    refine Go_ireturn dL_write_16 rfl (by first | rfl | decide | exact nar_b | simp [narrow]) ?_
    rw [show (0 : Int).toNat = 0 from rfl]
    exact k a9 b9 c9 d9 e9 f9
theorem e_L_undo (h : CI w s sv g tx)
    (k : ∀ w', 0 < sv.length → CI w' (sv.getD (sv.length - 1) s00) (sv.take (sv.length - 1)) g tx → frm w w' ccs → K (vi 0) none (up w' 84 0 (nz ((sv.length : Int) - 1))))
    (x2 : sv.length = 0 → K (vi 1) none w)
    : Ev G yL_undo cL_undo 3 mL_undo none 7 1 6 [vr 1, vr 84] w K XF := by
  refine Ev_intro msL_undo.1 rfl (fun h => by cases h) (allc1 rfl) (Nat.le_of_ble_eq_true rfl) (Or.inr (fun _ _ _ h => h)) ?_
  show Go G cL_undo mL_undo none 7 1 6 0 [some (vr 1), some (vr 84), none] [] w K XF
  have hH : ∀ k q, (fun k => if k = 2 then some 11 else none) k = some q → kEq k ∧ hOK mL_undo.2.2.2 3 k q = true ∧ (decode cL_undo q = .ok (.astore 2, 2) ∧ 1 = 2 ∨ ∃ j : Fin 4, (j : Nat) = 2 ∧ decode cL_undo q = .ok (.astore_n j, 1) ∧ 1 = 1) := by
    intro k q e
    by_cases c2 : k = 2
    · subst c2; have e : some 11 = some q := e; cases e; exact ⟨⟨by decide, by decide⟩, rfl, Or.inr ⟨2, rfl, dL_undo_11, rfl⟩⟩
    simp only [if_neg c2] at e
    cases e
  refine Go_ald1 dL_undo_0 ?_
  refine Go_iconst dL_undo_1 ?_
  refine Go_ald0 dL_undo_2 ?_
  refine Go_callVX (d' := 6) (bc' := 1) (bs' := 6) (as := []) (i := 2) (ix := 1) rfl dL_undo_3 mvX11_undo rfl lkL_55 rfl rfl rfl trivial rfl rfl (Nat.le_of_ble_eq_true rfl) (by decide) (by decide) (by decide) (Nat.le_of_ble_eq_true rfl) (fun j hj => by have e : j = 1 := (by omega); subst e; rfl) hH ?_
  refine e_X11_undo h (fun a9 b9 c9 d9 => ?_) (fun a9 => ⟨11, rfl, Go_hend rfl dL_undo_12 dL_undo_13 (x2 a9)⟩)
  · skip
    refine Go_i2lN dL_undo_6 ?_
    refine Go_last dL_undo_7 (by first | assumption | rfl) trivial (by omega) (by omega) (by decide) ?_
    refine Go_goto (tgt := 14) dL_undo_8 (by decide) ?_
    refine Go_iconst dL_undo_14 ?_
    refine Go_ireturn dL_undo_15 rfl (by first | rfl | decide | exact nar_b | simp [narrow]) ?_
    rw [show (0 : Int).toNat = 0 from rfl]
    exact k a9 b9 c9 d9
theorem e_L_keep (h : CI w s sv g tx) (h1 : inR z1)
    (k : ∀ w' (i : Nat), z1 = i → i < 2 → CI w' s sv (putN g i s) tx → frm w w' ccs → K (vi 0) none (up w' 84 0 (nz s.1.length)))
    (x3 : ¬ (0 ≤ z1 ∧ z1 ≤ 1) → K (vi 1) none w)
    : Ev G yL_keep cL_keep 4 mL_keep none 8 1 6 [vr 1, vi z1, vr 84] w K XF := by
  refine Ev_intro msL_keep.1 rfl (fun h => by cases h) (allc1 rfl) (Nat.le_of_ble_eq_true rfl) (Or.inr (fun _ _ _ h => h)) ?_
  show Go G cL_keep mL_keep none 8 1 6 0 [some (vr 1), some (vi z1), some (vr 84), none] [] w K XF
  have hH : ∀ k q, (fun k => if k = 3 then some 12 else none) k = some q → kEq k ∧ hOK mL_keep.2.2.2 4 k q = true ∧ (decode cL_keep q = .ok (.astore 3, 2) ∧ 1 = 2 ∨ ∃ j : Fin 4, (j : Nat) = 3 ∧ decode cL_keep q = .ok (.astore_n j, 1) ∧ 1 = 1) := by
    intro k q e
    by_cases c3 : k = 3
    · subst c3; have e : some 12 = some q := e; cases e; exact ⟨⟨by decide, by decide⟩, rfl, Or.inr ⟨3, rfl, dL_keep_12, rfl⟩⟩
    simp only [if_neg c3] at e
    cases e
  refine Go_ald2 dL_keep_0 ?_
  refine Go_iconst dL_keep_1 ?_
  refine Go_ald0 dL_keep_2 ?_
  refine Go_ild1 dL_keep_3 ?_
  refine Go_callVX (d' := 7) (bc' := 1) (bs' := 6) (as := [vi z1]) (i := 3) (ix := 1) rfl dL_keep_4 mvX11_keep rfl lkL_58 rfl rfl rfl trivial rfl rfl (Nat.le_of_ble_eq_true rfl) (by decide) (by decide) (by decide) (Nat.le_of_ble_eq_true rfl) (fun j hj => by have e : j = 2 := (by omega); subst e; rfl) hH ?_
  refine e_X11_keep h h1 (fun a9 b9 c9 d9 e9 f9 => ?_) (fun a9 => ⟨12, rfl, Go_hend rfl dL_keep_13 dL_keep_14 (x3 a9)⟩)
  · skip
    refine Go_i2lN dL_keep_7 ?_
    refine Go_last dL_keep_8 (by first | assumption | rfl) trivial (by omega) (by omega) (by decide) ?_
    refine Go_goto (tgt := 15) dL_keep_9 (by decide) ?_
    refine Go_iconst dL_keep_15 ?_
    refine Go_ireturn dL_keep_16 rfl (by first | rfl | decide | exact nar_b | simp [narrow]) ?_
    rw [show (0 : Int).toNat = 0 from rfl]
    exact k a9 b9 c9 d9 e9 f9
theorem e_L_goBack (h : CI w s sv g tx) (h1 : inR z1)
    (k : ∀ w' (i : Nat) (s' : Sta), z1 = i → i < 2 → g i = some s' → CI w' s' (pushS sv s) g tx → frm w w' ccs → K (vi 0) none (up w' 84 0 (nz (s'.1.length))))
    (x3 : ¬ (0 ≤ z1 ∧ z1 ≤ 1) → K (vi 1) none w)
    (x2 : ∀ i : Nat, z1 = i → i < 2 → g i = none → K (vi 2) none w)
    : Ev G yL_goBack cL_goBack 4 mL_goBack none 8 2 12 [vr 1, vi z1, vr 84] w K XF := by
  refine Ev_intro msL_goBack.1 rfl (fun h => by cases h) (allc1 rfl) (Nat.le_of_ble_eq_true rfl) (Or.inr (fun _ _ _ h => h)) ?_
  show Go G cL_goBack mL_goBack none 8 2 12 0 [some (vr 1), some (vi z1), some (vr 84), none] [] w K XF
  have hH : ∀ k q, (fun k => if k = 2 then some 15 else if k = 3 then some 12 else none) k = some q → kEq k ∧ hOK mL_goBack.2.2.2 4 k q = true ∧ (decode cL_goBack q = .ok (.astore 3, 2) ∧ 1 = 2 ∨ ∃ j : Fin 4, (j : Nat) = 3 ∧ decode cL_goBack q = .ok (.astore_n j, 1) ∧ 1 = 1) := by
    intro k q e
    by_cases c2 : k = 2
    · subst c2; have e : some 15 = some q := e; cases e; exact ⟨⟨by decide, by decide⟩, rfl, Or.inr ⟨3, rfl, dL_goBack_15, rfl⟩⟩
    by_cases c3 : k = 3
    · subst c3; have e : some 12 = some q := e; cases e; exact ⟨⟨by decide, by decide⟩, rfl, Or.inr ⟨3, rfl, dL_goBack_12, rfl⟩⟩
    simp only [if_neg c2, if_neg c3] at e
    cases e
  refine Go_ald2 dL_goBack_0 ?_
  refine Go_iconst dL_goBack_1 ?_
  refine Go_ald0 dL_goBack_2 ?_
  refine Go_ild1 dL_goBack_3 ?_
  refine Go_callVX (d' := 7) (bc' := 2) (bs' := 12) (as := [vi z1]) (i := 3) (ix := 1) rfl dL_goBack_4 mvX11_goBack rfl lkL_61 rfl rfl rfl trivial rfl rfl (Nat.le_of_ble_eq_true rfl) (by decide) (by decide) (by decide) (Nat.le_of_ble_eq_true rfl) (fun j hj => by have e : j = 2 := (by omega); subst e; rfl) hH ?_
  refine e_X11_goBack h h1 (fun a9 b9 c9 d9 e9 f9 g9 h9 => ?_) (fun a9 => ⟨12, rfl, Go_hend rfl dL_goBack_13 dL_goBack_14 (x3 a9)⟩) (fun a9 b9 c9 d9 => ⟨15, rfl, Go_hend rfl dL_goBack_16 dL_goBack_17 (x2 a9 b9 c9 d9)⟩)
  · skip
    refine Go_i2lN dL_goBack_7 ?_
    refine Go_last dL_goBack_8 (by first | assumption | rfl) trivial (by omega) (by omega) (by decide) ?_
    refine Go_goto (tgt := 18) dL_goBack_9 (by decide) ?_
    refine Go_iconst dL_goBack_18 ?_
    refine Go_ireturn dL_goBack_19 rfl (by first | rfl | decide | exact nar_b | simp [narrow]) ?_
    rw [show (0 : Int).toNat = 0 from rfl]
    exact k a9 b9 c9 d9 e9 f9 g9 h9
theorem e_L_site (h : CI w s sv g tx) (h1 : inR z1) (h2 : inR z2) (h3 : inR z3)
    (k : ∀ x : Nat, numI z1 z2 = x → x < 100 → 0 ≤ z3 → z3 ≤ 2 → K (vi 0) none (up w 84 0 (nz (if z3 = 0 then ow s.1 x else if z3 = 1 then plc s.1 x else (frD s.1 x : Int)))))
    (x1 : numI z1 z2 = -1 → K (vi 1) none w)
    (x3 : numI z1 z2 ≠ -1 → ¬ (0 ≤ z3 ∧ z3 ≤ 2) → K (vi 2) none w)
    : Ev G yL_site cL_site 6 mL_site none 8 2 12 [vr 1, vi z1, vi z2, vi z3, vr 84] w K XF := by
  refine Ev_intro msL_site.1 rfl (fun h => by cases h) (allc1 rfl) (Nat.le_of_ble_eq_true rfl) (Or.inr (fun _ _ _ h => h)) ?_
  show Go G cL_site mL_site none 8 2 12 0 [some (vr 1), some (vi z1), some (vi z2), some (vi z3), some (vr 84), none] [] w K XF
  have hH : ∀ k q, (fun k => if k = 1 then some 15 else if k = 3 then some 19 else none) k = some q → kEq k ∧ hOK mL_site.2.2.2 7 k q = true ∧ (decode cL_site q = .ok (.astore 5, 2) ∧ 2 = 2 ∨ ∃ j : Fin 4, (j : Nat) = 5 ∧ decode cL_site q = .ok (.astore_n j, 1) ∧ 2 = 1) := by
    intro k q e
    by_cases c1 : k = 1
    · subst c1; have e : some 15 = some q := e; cases e; exact ⟨⟨by decide, by decide⟩, rfl, Or.inl ⟨dL_site_15, rfl⟩⟩
    by_cases c3 : k = 3
    · subst c3; have e : some 19 = some q := e; cases e; exact ⟨⟨by decide, by decide⟩, rfl, Or.inl ⟨dL_site_19, rfl⟩⟩
    simp only [if_neg c1, if_neg c3] at e
    cases e
  refine Go_ald4 dL_site_0 ?_
  refine Go_iconst dL_site_2 ?_
  refine Go_ald0 dL_site_3 ?_
  refine Go_ild1 dL_site_4 ?_
  refine Go_ild2 dL_site_5 ?_
  refine Go_ild3 dL_site_6 ?_
  refine Go_callVX (d' := 7) (bc' := 2) (bs' := 12) (as := [vi z1, vi z2, vi z3]) (i := 5) (ix := 2) rfl dL_site_7 mvX11_site rfl lkL_64 rfl rfl rfl trivial rfl rfl (Nat.le_of_ble_eq_true rfl) (by decide) (by decide) (by decide) (Nat.le_of_ble_eq_true rfl) (fun j hj => by have e : j = 4 := (by omega); subst e; rfl) hH ?_
  refine e_X11_site h h1 h2 h3 (fun a9 b9 c9 d9 e9 => ?_) (fun a9 => ⟨15, rfl, Go_hend rfl dL_site_17 dL_site_18 (x1 a9)⟩) (fun a9 b9 => ⟨19, rfl, Go_hend rfl dL_site_21 dL_site_22 (x3 a9 b9)⟩)
  · skip
    refine Go_i2lN dL_site_10 ?_
    refine Go_last dL_site_11 (by first | assumption | rfl) trivial (by omega) (by omega) (by decide) ?_
    refine Go_goto (tgt := 23) dL_site_12 (by decide) ?_
    refine Go_iconst dL_site_23 ?_
    refine Go_ireturn dL_site_24 rfl (by first | rfl | decide | exact nar_b | simp [narrow]) ?_
    rw [show (0 : Int).toNat = 0 from rfl]
    exact k a9 b9 c9 d9 e9
theorem e_L_place (h : CI w s sv g tx) (h1 : inR z1) (h2 : inR z2)
    (k : ∀ p : Nat, z1 = p → p < s.1.length → K (vi 0) none (up w 84 0 (nz (atI (pth s.1 p) z2))))
    (x1 : ¬ (0 ≤ z1 ∧ z1 < s.1.length) → K (vi 1) none w)
    : Ev G yL_place cL_place 5 mL_place none 8 1 6 [vr 1, vi z1, vi z2, vr 84] w K XF := by
  refine Ev_intro msL_place.1 rfl (fun h => by cases h) (allc1 rfl) (Nat.le_of_ble_eq_true rfl) (Or.inr (fun _ _ _ h => h)) ?_
  show Go G cL_place mL_place none 8 1 6 0 [some (vr 1), some (vi z1), some (vi z2), some (vr 84), none] [] w K XF
  have hH : ∀ k q, (fun k => if k = 1 then some 13 else none) k = some q → kEq k ∧ hOK mL_place.2.2.2 5 k q = true ∧ (decode cL_place q = .ok (.astore 4, 2) ∧ 2 = 2 ∨ ∃ j : Fin 4, (j : Nat) = 4 ∧ decode cL_place q = .ok (.astore_n j, 1) ∧ 2 = 1) := by
    intro k q e
    by_cases c1 : k = 1
    · subst c1; have e : some 13 = some q := e; cases e; exact ⟨⟨by decide, by decide⟩, rfl, Or.inl ⟨dL_place_13, rfl⟩⟩
    simp only [if_neg c1] at e
    cases e
  refine Go_ald3 dL_place_0 ?_
  refine Go_iconst dL_place_1 ?_
  refine Go_ald0 dL_place_2 ?_
  refine Go_ild1 dL_place_3 ?_
  refine Go_ild2 dL_place_4 ?_
  refine Go_callVX (d' := 7) (bc' := 1) (bs' := 6) (as := [vi z1, vi z2]) (i := 4) (ix := 2) rfl dL_place_5 mvX11_place rfl lkL_67 rfl rfl rfl trivial rfl rfl (Nat.le_of_ble_eq_true rfl) (by decide) (by decide) (by decide) (Nat.le_of_ble_eq_true rfl) (fun j hj => by have e : j = 3 := (by omega); subst e; rfl) hH ?_
  refine e_X11_place h h1 h2 (fun a9 b9 c9 => ?_) (fun a9 => ⟨13, rfl, Go_hend rfl dL_place_15 dL_place_16 (x1 a9)⟩)
  · skip
    refine Go_i2lN dL_place_8 ?_
    refine Go_last dL_place_9 (by first | assumption | rfl) trivial (by omega) (by omega) (by decide) ?_
    refine Go_goto (tgt := 17) dL_place_10 (by decide) ?_
    refine Go_iconst dL_place_17 ?_
    refine Go_ireturn dL_place_18 rfl (by first | rfl | decide | exact nar_b | simp [narrow]) ?_
    rw [show (0 : Int).toNat = 0 from rfl]
    exact k a9 b9 c9
theorem e_L_path (h : CI w s sv g tx) (h1 : inR z1) (h2 : inR z2)
    (k : ∀ p : Nat, z1 = p → p < s.1.length → 0 ≤ z2 → z2 ≤ 8 → K (vi 0) none (up w 84 0 (nz (pthA s.1 p z2))))
    (x1 : ¬ (0 ≤ z1 ∧ z1 < s.1.length) → K (vi 1) none w)
    (x3 : 0 ≤ z1 → z1 < s.1.length → ¬ (0 ≤ z2 ∧ z2 ≤ 8) → K (vi 2) none w)
    : Ev G yL_path cL_path 5 mL_path none 8 2 12 [vr 1, vi z1, vi z2, vr 84] w K XF := by
  refine Ev_intro msL_path.1 rfl (fun h => by cases h) (allc1 rfl) (Nat.le_of_ble_eq_true rfl) (Or.inr (fun _ _ _ h => h)) ?_
  show Go G cL_path mL_path none 8 2 12 0 [some (vr 1), some (vi z1), some (vi z2), some (vr 84), none] [] w K XF
  have hH : ∀ k q, (fun k => if k = 1 then some 13 else if k = 3 then some 17 else none) k = some q → kEq k ∧ hOK mL_path.2.2.2 5 k q = true ∧ (decode cL_path q = .ok (.astore 4, 2) ∧ 2 = 2 ∨ ∃ j : Fin 4, (j : Nat) = 4 ∧ decode cL_path q = .ok (.astore_n j, 1) ∧ 2 = 1) := by
    intro k q e
    by_cases c1 : k = 1
    · subst c1; have e : some 13 = some q := e; cases e; exact ⟨⟨by decide, by decide⟩, rfl, Or.inl ⟨dL_path_13, rfl⟩⟩
    by_cases c3 : k = 3
    · subst c3; have e : some 17 = some q := e; cases e; exact ⟨⟨by decide, by decide⟩, rfl, Or.inl ⟨dL_path_17, rfl⟩⟩
    simp only [if_neg c1, if_neg c3] at e
    cases e
  refine Go_ald3 dL_path_0 ?_
  refine Go_iconst dL_path_1 ?_
  refine Go_ald0 dL_path_2 ?_
  refine Go_ild1 dL_path_3 ?_
  refine Go_ild2 dL_path_4 ?_
  refine Go_callVX (d' := 7) (bc' := 2) (bs' := 12) (as := [vi z1, vi z2]) (i := 4) (ix := 2) rfl dL_path_5 mvX11_path rfl lkL_70 rfl rfl rfl trivial rfl rfl (Nat.le_of_ble_eq_true rfl) (by decide) (by decide) (by decide) (Nat.le_of_ble_eq_true rfl) (fun j hj => by have e : j = 3 := (by omega); subst e; rfl) hH ?_
  refine e_X11_path h h1 h2 (fun a9 b9 c9 d9 e9 => ?_) (fun a9 => ⟨13, rfl, Go_hend rfl dL_path_15 dL_path_16 (x1 a9)⟩) (fun a9 b9 c9 => ⟨17, rfl, Go_hend rfl dL_path_19 dL_path_20 (x3 a9 b9 c9)⟩)
  · skip
    refine Go_i2lN dL_path_8 ?_
    refine Go_last dL_path_9 (by first | assumption | rfl) trivial (by omega) (by omega) (by decide) ?_
    refine Go_goto (tgt := 21) dL_path_10 (by decide) ?_
    refine Go_iconst dL_path_21 ?_
    refine Go_ireturn dL_path_22 rfl (by first | rfl | decide | exact nar_b | simp [narrow]) ?_
    rw [show (0 : Int).toNat = 0 from rfl]
    exact k a9 b9 c9 d9 e9
theorem e_L_touching (h : CI w s sv g tx) (h1 : inR z1) (h2 : inR z2)
    (k : ∀ p o : Nat, z1 = p → p < s.1.length → z2 = o → o < s.1.length → p ≠ o → K (vi 0) none (up w 84 0 (nz (toC s.1 p o))))
    (x1 : ¬ (0 ≤ z1 ∧ z1 < s.1.length ∧ 0 ≤ z2 ∧ z2 < s.1.length) → K (vi 1) none w)
    (x3 : 0 ≤ z1 → z1 < s.1.length → z1 = z2 → K (vi 2) none w)
    : Ev G yL_touching cL_touching 5 mL_touching none 9 3 18 [vr 1, vi z1, vi z2, vr 84] w K XF := by
  refine Ev_intro msL_touching.1 rfl (fun h => by cases h) (allc1 rfl) (Nat.le_of_ble_eq_true rfl) (Or.inr (fun _ _ _ h => h)) ?_
  show Go G cL_touching mL_touching none 9 3 18 0 [some (vr 1), some (vi z1), some (vi z2), some (vr 84), none] [] w K XF
  have hH : ∀ k q, (fun k => if k = 1 then some 13 else if k = 3 then some 17 else none) k = some q → kEq k ∧ hOK mL_touching.2.2.2 5 k q = true ∧ (decode cL_touching q = .ok (.astore 4, 2) ∧ 2 = 2 ∨ ∃ j : Fin 4, (j : Nat) = 4 ∧ decode cL_touching q = .ok (.astore_n j, 1) ∧ 2 = 1) := by
    intro k q e
    by_cases c1 : k = 1
    · subst c1; have e : some 13 = some q := e; cases e; exact ⟨⟨by decide, by decide⟩, rfl, Or.inl ⟨dL_touching_13, rfl⟩⟩
    by_cases c3 : k = 3
    · subst c3; have e : some 17 = some q := e; cases e; exact ⟨⟨by decide, by decide⟩, rfl, Or.inl ⟨dL_touching_17, rfl⟩⟩
    simp only [if_neg c1, if_neg c3] at e
    cases e
  refine Go_ald3 dL_touching_0 ?_
  refine Go_iconst dL_touching_1 ?_
  refine Go_ald0 dL_touching_2 ?_
  refine Go_ild1 dL_touching_3 ?_
  refine Go_ild2 dL_touching_4 ?_
  refine Go_callVX (d' := 8) (bc' := 3) (bs' := 18) (as := [vi z1, vi z2]) (i := 4) (ix := 2) rfl dL_touching_5 mvX11_touching rfl lkL_73 rfl rfl rfl trivial rfl rfl (Nat.le_of_ble_eq_true rfl) (by decide) (by decide) (by decide) (Nat.le_of_ble_eq_true rfl) (fun j hj => by have e : j = 3 := (by omega); subst e; rfl) hH ?_
  refine e_X11_touching h h1 h2 (fun a9 b9 c9 d9 e9 f9 g9 => ?_) (fun a9 => ⟨13, rfl, Go_hend rfl dL_touching_15 dL_touching_16 (x1 a9)⟩) (fun a9 b9 c9 => ⟨17, rfl, Go_hend rfl dL_touching_19 dL_touching_20 (x3 a9 b9 c9)⟩)
  · skip
    refine Go_i2lN dL_touching_8 ?_
    refine Go_last dL_touching_9 (by first | assumption | rfl) trivial (by omega) (by omega) (by decide) ?_
    refine Go_goto (tgt := 21) dL_touching_10 (by decide) ?_
    refine Go_iconst dL_touching_21 ?_
    refine Go_ireturn dL_touching_22 rfl (by first | rfl | decide | exact nar_b | simp [narrow]) ?_
    rw [show (0 : Int).toNat = 0 from rfl]
    exact k a9 b9 c9 d9 e9 f9 g9
theorem e_L_shape (h : CI w s sv g tx) (h1 : inR z1) (h2 : inR z2)
    (k : ∀ w' (p : Nat) f, z1 = p → p < s.1.length → 0 ≤ z2 → isLeast (pth s.1 p) f → CI w' s sv g tx → frm w w' ccs → K (vi 0) none (up w' 84 0 (nz (if z2 < ((pth s.1 p).length - 1 : Nat) then f z2.toNat else -1))))
    (x1 : ¬ (0 ≤ z1 ∧ z1 < s.1.length) → K (vi 1) none w)
    (x3 : 0 ≤ z1 → z1 < s.1.length → z2 < 0 → K (vi 2) none w)
    : Ev G yL_shape cL_shape 5 mL_shape none 8 2 12 [vr 1, vi z1, vi z2, vr 84] w K XF := by
  refine Ev_intro msL_shape.1 rfl (fun h => by cases h) (allc1 rfl) (Nat.le_of_ble_eq_true rfl) (Or.inr (fun _ _ _ h => h)) ?_
  show Go G cL_shape mL_shape none 8 2 12 0 [some (vr 1), some (vi z1), some (vi z2), some (vr 84), none] [] w K XF
  have hH : ∀ k q, (fun k => if k = 1 then some 13 else if k = 3 then some 17 else none) k = some q → kEq k ∧ hOK mL_shape.2.2.2 5 k q = true ∧ (decode cL_shape q = .ok (.astore 4, 2) ∧ 2 = 2 ∨ ∃ j : Fin 4, (j : Nat) = 4 ∧ decode cL_shape q = .ok (.astore_n j, 1) ∧ 2 = 1) := by
    intro k q e
    by_cases c1 : k = 1
    · subst c1; have e : some 13 = some q := e; cases e; exact ⟨⟨by decide, by decide⟩, rfl, Or.inl ⟨dL_shape_13, rfl⟩⟩
    by_cases c3 : k = 3
    · subst c3; have e : some 17 = some q := e; cases e; exact ⟨⟨by decide, by decide⟩, rfl, Or.inl ⟨dL_shape_17, rfl⟩⟩
    simp only [if_neg c1, if_neg c3] at e
    cases e
  refine Go_ald3 dL_shape_0 ?_
  refine Go_iconst dL_shape_1 ?_
  refine Go_ald0 dL_shape_2 ?_
  refine Go_ild1 dL_shape_3 ?_
  refine Go_ild2 dL_shape_4 ?_
  refine Go_callVX (d' := 7) (bc' := 2) (bs' := 12) (as := [vi z1, vi z2]) (i := 4) (ix := 2) rfl dL_shape_5 mvX11_shape rfl lkL_76 rfl rfl rfl trivial rfl rfl (Nat.le_of_ble_eq_true rfl) (by decide) (by decide) (by decide) (Nat.le_of_ble_eq_true rfl) (fun j hj => by have e : j = 3 := (by omega); subst e; rfl) hH ?_
  refine e_X11_shape h h1 h2 (fun a9 b9 c9 d9 e9 f9 g9 h9 i9 => ?_) (fun a9 => ⟨13, rfl, Go_hend rfl dL_shape_15 dL_shape_16 (x1 a9)⟩) (fun a9 b9 c9 => ⟨17, rfl, Go_hend rfl dL_shape_19 dL_shape_20 (x3 a9 b9 c9)⟩)
  · skip
    refine Go_i2lN dL_shape_8 ?_
    refine Go_last dL_shape_9 (by first | assumption | rfl) trivial (by omega) (by omega) (by decide) ?_
    refine Go_goto (tgt := 21) dL_shape_10 (by decide) ?_
    refine Go_iconst dL_shape_21 ?_
    refine Go_ireturn dL_shape_22 rfl (by first | rfl | decide | exact nar_b | simp [narrow]) ?_
    rw [show (0 : Int).toNat = 0 from rfl]
    exact k a9 b9 c9 d9 e9 f9 g9 h9 i9
theorem e_L_isAlike (h : CI w s sv g tx) (h1 : inR z1) (h2 : inR z2)
    (kt : ∀ w' (p o : Nat) f f', z1 = p → p < s.1.length → z2 = o → o < s.1.length → isLeast (pth s.1 p) f → isLeast (pth s.1 o) f' → (pth s.1 p).length - 1 = (pth s.1 o).length - 1 ∧ (∀ j, j < (pth s.1 p).length - 1 → f j = f' j) → CI w' s sv g tx → frm w w' ccs → K (vi 0) none (up w' 84 0 1))
    (kf : ∀ w' (p o : Nat) f f', z1 = p → p < s.1.length → z2 = o → o < s.1.length → isLeast (pth s.1 p) f → isLeast (pth s.1 o) f' → ¬ ((pth s.1 p).length - 1 = (pth s.1 o).length - 1 ∧ ∀ j, j < (pth s.1 p).length - 1 → f j = f' j) → CI w' s sv g tx → frm w w' ccs → K (vi 0) none (up w' 84 0 0))
    (x1 : ¬ (0 ≤ z1 ∧ z1 < s.1.length ∧ 0 ≤ z2 ∧ z2 < s.1.length) → K (vi 1) none w)
    : Ev G yL_isAlike cL_isAlike 5 mL_isAlike none 8 2 12 [vr 1, vi z1, vi z2, vr 84] w K XF := by
  refine Ev_intro msL_isAlike.1 rfl (fun h => by cases h) (allc1 rfl) (Nat.le_of_ble_eq_true rfl) (Or.inr (fun _ _ _ h => h)) ?_
  show Go G cL_isAlike mL_isAlike none 8 2 12 0 [some (vr 1), some (vi z1), some (vi z2), some (vr 84), none] [] w K XF
  have hH : ∀ k q, (fun k => if k = 1 then some 20 else none) k = some q → kEq k ∧ hOK mL_isAlike.2.2.2 5 k q = true ∧ (decode cL_isAlike q = .ok (.astore 4, 2) ∧ 2 = 2 ∨ ∃ j : Fin 4, (j : Nat) = 4 ∧ decode cL_isAlike q = .ok (.astore_n j, 1) ∧ 2 = 1) := by
    intro k q e
    by_cases c1 : k = 1
    · subst c1; have e : some 20 = some q := e; cases e; exact ⟨⟨by decide, by decide⟩, rfl, Or.inl ⟨dL_isAlike_20, rfl⟩⟩
    simp only [if_neg c1] at e
    cases e
  refine Go_ald3 dL_isAlike_0 ?_
  refine Go_iconst dL_isAlike_1 ?_
  refine Go_ald0 dL_isAlike_2 ?_
  refine Go_ild1 dL_isAlike_3 ?_
  refine Go_ild2 dL_isAlike_4 ?_
  refine Go_callVX (d' := 7) (bc' := 2) (bs' := 12) (as := [vi z1, vi z2]) (i := 4) (ix := 2) rfl dL_isAlike_5 mvX11_isAlike rfl lkL_79 rfl rfl rfl trivial rfl rfl (Nat.le_of_ble_eq_true rfl) (by decide) (by decide) (by decide) (Nat.le_of_ble_eq_true rfl) (fun j hj => by have e : j = 3 := (by omega); subst e; rfl) hH ?_
  refine e_X11_isAlike h h1 h2 (fun a9 b9 c9 d9 e9 f9 g9 h9 i9 j9 k9 l9 m9 n9 => ?_) (fun a9 b9 c9 d9 e9 f9 g9 h9 i9 j9 k9 l9 m9 n9 => ?_) (fun a9 => ⟨20, rfl, Go_hend rfl dL_isAlike_22 dL_isAlike_23 (x1 a9)⟩)
  · skip
    refine Go_if_eq (tgt := 15) dL_isAlike_8 (by decide) (by constructor <;> omega) (fun h8 => by omega) (fun h8 => ?_)
    refine Go_lconst dL_isAlike_11 rfl ?_
    refine Go_goto (tgt := 16) dL_isAlike_12 (by decide) ?_
    refine Go_last dL_isAlike_16 (by first | assumption | rfl) trivial (by omega) (by omega) (by decide) ?_
    refine Go_goto (tgt := 24) dL_isAlike_17 (by decide) ?_
    refine Go_iconst dL_isAlike_24 ?_
    refine Go_ireturn dL_isAlike_25 rfl (by first | rfl | decide | exact nar_b | simp [narrow]) ?_
    rw [show (0 : Int).toNat = 0 from rfl]
    exact kt a9 b9 c9 d9 e9 f9 g9 h9 i9 j9 k9 l9 m9 n9
  · skip
    refine Go_if_eq (tgt := 15) dL_isAlike_8 (by decide) (by constructor <;> omega) (fun h8 => ?_) (fun h8 => by omega)
    refine Go_lconst dL_isAlike_15 rfl ?_
    refine Go_last dL_isAlike_16 (by first | assumption | rfl) trivial (by omega) (by omega) (by decide) ?_
    refine Go_goto (tgt := 24) dL_isAlike_17 (by decide) ?_
    refine Go_iconst dL_isAlike_24 ?_
    refine Go_ireturn dL_isAlike_25 rfl (by first | rfl | decide | exact nar_b | simp [narrow]) ?_
    rw [show (0 : Int).toNat = 0 from rfl]
    exact kf a9 b9 c9 d9 e9 f9 g9 h9 i9 j9 k9 l9 m9 n9
theorem e_L_free (h : CI w s sv g tx) (h1 : inR z1)
    (k : ∀ w', 0 ≤ z1 → z1 ≤ 3 → CI w' s sv g tx → frm w w' ccs → K (vi 0) none (up w' 84 0 (nz (if z1 = 0 then 100 - (tot s.1 : Int) else if z1 = 1 then (rgN s.1 : Int) else if z1 = 2 then mxF (fun i => cntF (rgR s.1) i) 0 (rgN s.1) else smF (fun i => if hdB s.1 (rgR s.1) s.1.length i = true then 1 else 0) (rgN s.1)))))
    (x3 : ¬ (0 ≤ z1 ∧ z1 ≤ 3) → K (vi 1) none w)
    : Ev G yL_free cL_free 4 mL_free none 8 1 6 [vr 1, vi z1, vr 84] w K XF := by
  refine Ev_intro msL_free.1 rfl (fun h => by cases h) (allc1 rfl) (Nat.le_of_ble_eq_true rfl) (Or.inr (fun _ _ _ h => h)) ?_
  show Go G cL_free mL_free none 8 1 6 0 [some (vr 1), some (vi z1), some (vr 84), none] [] w K XF
  have hH : ∀ k q, (fun k => if k = 3 then some 12 else none) k = some q → kEq k ∧ hOK mL_free.2.2.2 4 k q = true ∧ (decode cL_free q = .ok (.astore 3, 2) ∧ 1 = 2 ∨ ∃ j : Fin 4, (j : Nat) = 3 ∧ decode cL_free q = .ok (.astore_n j, 1) ∧ 1 = 1) := by
    intro k q e
    by_cases c3 : k = 3
    · subst c3; have e : some 12 = some q := e; cases e; exact ⟨⟨by decide, by decide⟩, rfl, Or.inr ⟨3, rfl, dL_free_12, rfl⟩⟩
    simp only [if_neg c3] at e
    cases e
  refine Go_ald2 dL_free_0 ?_
  refine Go_iconst dL_free_1 ?_
  refine Go_ald0 dL_free_2 ?_
  refine Go_ild1 dL_free_3 ?_
  refine Go_callVX (d' := 7) (bc' := 1) (bs' := 6) (as := [vi z1]) (i := 3) (ix := 1) rfl dL_free_4 mvX11_free rfl lkL_83 rfl rfl rfl trivial rfl rfl (Nat.le_of_ble_eq_true rfl) (by decide) (by decide) (by decide) (Nat.le_of_ble_eq_true rfl) (fun j hj => by have e : j = 2 := (by omega); subst e; rfl) hH ?_
  refine e_X11_free h h1 (fun a9 b9 c9 d9 e9 => ?_) (fun a9 => ⟨12, rfl, Go_hend rfl dL_free_13 dL_free_14 (x3 a9)⟩)
  · skip
    refine Go_i2lN dL_free_7 ?_
    refine Go_last dL_free_8 (by first | assumption | rfl) trivial (by omega) (by omega) (by decide) ?_
    refine Go_goto (tgt := 15) dL_free_9 (by decide) ?_
    refine Go_iconst dL_free_15 ?_
    refine Go_ireturn dL_free_16 rfl (by first | rfl | decide | exact nar_b | simp [narrow]) ?_
    rw [show (0 : Int).toNat = 0 from rfl]
    exact k a9 b9 c9 d9 e9
theorem e_L_ways (h : CI w s sv g tx) (h1 : inR z1) (h2 : inR z2)
    (k : ∀ w' (p n : Nat), z1 = p → p < s.1.length → z2 = n → n ≤ 6 → CI w' s sv g tx → frm w w' ccs → K (vi 0) none (up w' 84 0 (nz (wy n (tkB s.1) (hdL (pth s.1 p))))))
    (x1 : ¬ (0 ≤ z1 ∧ z1 < s.1.length) → K (vi 1) none w)
    (x3 : 0 ≤ z1 → z1 < s.1.length → ¬ (0 ≤ z2 ∧ z2 ≤ 6) → K (vi 2) none w)
    : Ev G yL_ways cL_ways 5 mL_ways none 17 2 12 [vr 1, vi z1, vi z2, vr 84] w K XF := by
  refine Ev_intro msL_ways.1 rfl (fun h => by cases h) (allc1 rfl) (Nat.le_of_ble_eq_true rfl) (Or.inr (fun _ _ _ h => h)) ?_
  show Go G cL_ways mL_ways none 17 2 12 0 [some (vr 1), some (vi z1), some (vi z2), some (vr 84), none] [] w K XF
  have hH : ∀ k q, (fun k => if k = 1 then some 13 else if k = 3 then some 17 else none) k = some q → kEq k ∧ hOK mL_ways.2.2.2 5 k q = true ∧ (decode cL_ways q = .ok (.astore 4, 2) ∧ 2 = 2 ∨ ∃ j : Fin 4, (j : Nat) = 4 ∧ decode cL_ways q = .ok (.astore_n j, 1) ∧ 2 = 1) := by
    intro k q e
    by_cases c1 : k = 1
    · subst c1; have e : some 13 = some q := e; cases e; exact ⟨⟨by decide, by decide⟩, rfl, Or.inl ⟨dL_ways_13, rfl⟩⟩
    by_cases c3 : k = 3
    · subst c3; have e : some 17 = some q := e; cases e; exact ⟨⟨by decide, by decide⟩, rfl, Or.inl ⟨dL_ways_17, rfl⟩⟩
    simp only [if_neg c1, if_neg c3] at e
    cases e
  refine Go_ald3 dL_ways_0 ?_
  refine Go_iconst dL_ways_1 ?_
  refine Go_ald0 dL_ways_2 ?_
  refine Go_ild1 dL_ways_3 ?_
  refine Go_ild2 dL_ways_4 ?_
  refine Go_callVX (d' := 16) (bc' := 2) (bs' := 12) (as := [vi z1, vi z2]) (i := 4) (ix := 2) rfl dL_ways_5 mvX11_ways rfl lkL_86 rfl rfl rfl trivial rfl rfl (Nat.le_of_ble_eq_true rfl) (by decide) (by decide) (by decide) (Nat.le_of_ble_eq_true rfl) (fun j hj => by have e : j = 3 := (by omega); subst e; rfl) hH ?_
  refine e_X11_ways h h1 h2 (fun a9 b9 c9 d9 e9 f9 g9 h9 i9 => ?_) (fun a9 => ⟨13, rfl, Go_hend rfl dL_ways_15 dL_ways_16 (x1 a9)⟩) (fun a9 b9 c9 => ⟨17, rfl, Go_hend rfl dL_ways_19 dL_ways_20 (x3 a9 b9 c9)⟩)
  · skip
    refine Go_i2lN dL_ways_8 ?_
    refine Go_last dL_ways_9 (by first | assumption | rfl) trivial (by omega) (by omega) (by decide) ?_
    refine Go_goto (tgt := 21) dL_ways_10 (by decide) ?_
    refine Go_iconst dL_ways_21 ?_
    refine Go_ireturn dL_ways_22 rfl (by first | rfl | decide | exact nar_b | simp [narrow]) ?_
    rw [show (0 : Int).toNat = 0 from rfl]
    exact k a9 b9 c9 d9 e9 f9 g9 h9 i9
theorem e_L_bestStep (h : CI w s sv g tx) (h1 : inR z1)
    (k : ∀ w' (p : Nat), z1 = p → p < s.1.length → CI w' s sv g tx → frm w w' ccs → K (vi 0) none (up w' 84 0 (nz (bstD s.1 (hdL (pth s.1 p))))))
    (x1 : ¬ (0 ≤ z1 ∧ z1 < s.1.length) → K (vi 1) none w)
    : Ev G yL_bestStep cL_bestStep 4 mL_bestStep none 16 1 6 [vr 1, vi z1, vr 84] w K XF := by
  refine Ev_intro msL_bestStep.1 rfl (fun h => by cases h) (allc1 rfl) (Nat.le_of_ble_eq_true rfl) (Or.inr (fun _ _ _ h => h)) ?_
  show Go G cL_bestStep mL_bestStep none 16 1 6 0 [some (vr 1), some (vi z1), some (vr 84), none] [] w K XF
  have hH : ∀ k q, (fun k => if k = 1 then some 12 else none) k = some q → kEq k ∧ hOK mL_bestStep.2.2.2 4 k q = true ∧ (decode cL_bestStep q = .ok (.astore 3, 2) ∧ 1 = 2 ∨ ∃ j : Fin 4, (j : Nat) = 3 ∧ decode cL_bestStep q = .ok (.astore_n j, 1) ∧ 1 = 1) := by
    intro k q e
    by_cases c1 : k = 1
    · subst c1; have e : some 12 = some q := e; cases e; exact ⟨⟨by decide, by decide⟩, rfl, Or.inr ⟨3, rfl, dL_bestStep_12, rfl⟩⟩
    simp only [if_neg c1] at e
    cases e
  refine Go_ald2 dL_bestStep_0 ?_
  refine Go_iconst dL_bestStep_1 ?_
  refine Go_ald0 dL_bestStep_2 ?_
  refine Go_ild1 dL_bestStep_3 ?_
  refine Go_callVX (d' := 15) (bc' := 1) (bs' := 6) (as := [vi z1]) (i := 3) (ix := 1) rfl dL_bestStep_4 mvX11_bestStep rfl lkL_89 rfl rfl rfl trivial rfl rfl (Nat.le_of_ble_eq_true rfl) (by decide) (by decide) (by decide) (Nat.le_of_ble_eq_true rfl) (fun j hj => by have e : j = 2 := (by omega); subst e; rfl) hH ?_
  refine e_X11_bestStep h h1 (fun a9 b9 c9 d9 e9 f9 => ?_) (fun a9 => ⟨12, rfl, Go_hend rfl dL_bestStep_13 dL_bestStep_14 (x1 a9)⟩)
  · skip
    refine Go_i2lN dL_bestStep_7 ?_
    refine Go_last dL_bestStep_8 (by first | assumption | rfl) trivial (by omega) (by omega) (by decide) ?_
    refine Go_goto (tgt := 15) dL_bestStep_9 (by decide) ?_
    refine Go_iconst dL_bestStep_15 ?_
    refine Go_ireturn dL_bestStep_16 rfl (by first | rfl | decide | exact nar_b | simp [narrow]) ?_
    rw [show (0 : Int).toNat = 0 from rfl]
    exact k a9 b9 c9 d9 e9 f9
theorem e_L_reach (h : CI w s sv g tx) (h1 : inR z1)
    (k : ∀ w' (p : Nat), z1 = p → p < s.1.length → CI w' s sv g tx → frm w w' ccs → K (vi 0) none (up w' 84 0 (nz (smF (fun i => if bsd (rgR s.1) (hdL (pth s.1 p)) i = true then cntF (rgR s.1) i else 0) (rgN s.1)))))
    (x1 : ¬ (0 ≤ z1 ∧ z1 < s.1.length) → K (vi 1) none w)
    : Ev G yL_reach cL_reach 4 mL_reach none 8 1 6 [vr 1, vi z1, vr 84] w K XF := by
  refine Ev_intro msL_reach.1 rfl (fun h => by cases h) (allc1 rfl) (Nat.le_of_ble_eq_true rfl) (Or.inr (fun _ _ _ h => h)) ?_
  show Go G cL_reach mL_reach none 8 1 6 0 [some (vr 1), some (vi z1), some (vr 84), none] [] w K XF
  have hH : ∀ k q, (fun k => if k = 1 then some 12 else none) k = some q → kEq k ∧ hOK mL_reach.2.2.2 4 k q = true ∧ (decode cL_reach q = .ok (.astore 3, 2) ∧ 1 = 2 ∨ ∃ j : Fin 4, (j : Nat) = 3 ∧ decode cL_reach q = .ok (.astore_n j, 1) ∧ 1 = 1) := by
    intro k q e
    by_cases c1 : k = 1
    · subst c1; have e : some 12 = some q := e; cases e; exact ⟨⟨by decide, by decide⟩, rfl, Or.inr ⟨3, rfl, dL_reach_12, rfl⟩⟩
    simp only [if_neg c1] at e
    cases e
  refine Go_ald2 dL_reach_0 ?_
  refine Go_iconst dL_reach_1 ?_
  refine Go_ald0 dL_reach_2 ?_
  refine Go_ild1 dL_reach_3 ?_
  refine Go_callVX (d' := 7) (bc' := 1) (bs' := 6) (as := [vi z1]) (i := 3) (ix := 1) rfl dL_reach_4 mvX11_reach rfl lkL_92 rfl rfl rfl trivial rfl rfl (Nat.le_of_ble_eq_true rfl) (by decide) (by decide) (by decide) (Nat.le_of_ble_eq_true rfl) (fun j hj => by have e : j = 2 := (by omega); subst e; rfl) hH ?_
  refine e_X11_reach h h1 (fun a9 b9 c9 d9 e9 f9 => ?_) (fun a9 => ⟨12, rfl, Go_hend rfl dL_reach_13 dL_reach_14 (x1 a9)⟩)
  · skip
    refine Go_i2lN dL_reach_7 ?_
    refine Go_last dL_reach_8 (by first | assumption | rfl) trivial (by omega) (by omega) (by decide) ?_
    refine Go_goto (tgt := 15) dL_reach_9 (by decide) ?_
    refine Go_iconst dL_reach_15 ?_
    refine Go_ireturn dL_reach_16 rfl (by first | rfl | decide | exact nar_b | simp [narrow]) ?_
    rw [show (0 : Int).toNat = 0 from rfl]
    exact k a9 b9 c9 d9 e9 f9
theorem e_L_ifTurned (h : CI w s sv g tx) (h1 : inR z1) (h2 : inR z2) (h3 : inR z3)
    (k : ∀ w' (p j q : Nat), z1 = p → p < s.1.length → z2 = j → j < (pth s.1 p).length → z3 = q → 1 ≤ q → q ≤ 3 → CI w' s sv g tx → frm w w' ccs → K (vi 0) none (up w' 84 0 (nz (whyT s.1 p j q))))
    (x1 : (∀ p j : Nat, z1 = p → p < s.1.length → z2 = j → ¬ j < (pth s.1 p).length) → K (vi 1) none w)
    (x3 : ∀ p j : Nat, z1 = p → p < s.1.length → z2 = j → j < (pth s.1 p).length → ¬ (1 ≤ z3 ∧ z3 ≤ 3) → K (vi 2) none w)
    : Ev G yL_ifTurned cL_ifTurned 6 mL_ifTurned none 9 3 18 [vr 1, vi z1, vi z2, vi z3, vr 84] w K XF := by
  refine Ev_intro msL_ifTurned.1 rfl (fun h => by cases h) (allc1 rfl) (Nat.le_of_ble_eq_true rfl) (Or.inr (fun _ _ _ h => h)) ?_
  show Go G cL_ifTurned mL_ifTurned none 9 3 18 0 [some (vr 1), some (vi z1), some (vi z2), some (vi z3), some (vr 84), none] [] w K XF
  have hH : ∀ k q, (fun k => if k = 1 then some 15 else if k = 3 then some 19 else none) k = some q → kEq k ∧ hOK mL_ifTurned.2.2.2 7 k q = true ∧ (decode cL_ifTurned q = .ok (.astore 5, 2) ∧ 2 = 2 ∨ ∃ j : Fin 4, (j : Nat) = 5 ∧ decode cL_ifTurned q = .ok (.astore_n j, 1) ∧ 2 = 1) := by
    intro k q e
    by_cases c1 : k = 1
    · subst c1; have e : some 15 = some q := e; cases e; exact ⟨⟨by decide, by decide⟩, rfl, Or.inl ⟨dL_ifTurned_15, rfl⟩⟩
    by_cases c3 : k = 3
    · subst c3; have e : some 19 = some q := e; cases e; exact ⟨⟨by decide, by decide⟩, rfl, Or.inl ⟨dL_ifTurned_19, rfl⟩⟩
    simp only [if_neg c1, if_neg c3] at e
    cases e
  refine Go_ald4 dL_ifTurned_0 ?_
  refine Go_iconst dL_ifTurned_2 ?_
  refine Go_ald0 dL_ifTurned_3 ?_
  refine Go_ild1 dL_ifTurned_4 ?_
  refine Go_ild2 dL_ifTurned_5 ?_
  refine Go_ild3 dL_ifTurned_6 ?_
  refine Go_callVX (d' := 8) (bc' := 3) (bs' := 18) (as := [vi z1, vi z2, vi z3]) (i := 5) (ix := 2) rfl dL_ifTurned_7 mvX11_ifTurned rfl lkL_95 rfl rfl rfl trivial rfl rfl (Nat.le_of_ble_eq_true rfl) (by decide) (by decide) (by decide) (Nat.le_of_ble_eq_true rfl) (fun j hj => by have e : j = 4 := (by omega); subst e; rfl) hH ?_
  refine e_X11_ifTurned h h1 h2 h3 (fun a9 b9 c9 d9 e9 f9 g9 h9 i9 j9 k9 l9 m9 => ?_) (fun a9 => ⟨15, rfl, Go_hend rfl dL_ifTurned_17 dL_ifTurned_18 (x1 a9)⟩) (fun a9 b9 c9 d9 e9 f9 g9 => ⟨19, rfl, Go_hend rfl dL_ifTurned_21 dL_ifTurned_22 (x3 a9 b9 c9 d9 e9 f9 g9)⟩)
  · skip
    refine Go_i2lN dL_ifTurned_10 ?_
    refine Go_last dL_ifTurned_11 (by first | assumption | rfl) trivial (by omega) (by omega) (by decide) ?_
    refine Go_goto (tgt := 23) dL_ifTurned_12 (by decide) ?_
    refine Go_iconst dL_ifTurned_23 ?_
    refine Go_ireturn dL_ifTurned_24 rfl (by first | rfl | decide | exact nar_b | simp [narrow]) ?_
    rw [show (0 : Int).toNat = 0 from rfl]
    exact k a9 b9 c9 d9 e9 f9 g9 h9 i9 j9 k9 l9 m9
theorem e_L_turnable (h : CI w s sv g tx) (h1 : inR z1)
    (k : ∀ w' (p : Nat), z1 = p → p < s.1.length → CI w' s sv g tx → frm w w' ccs → K (vi 0) none (up w' 84 0 (nz (smF (fun pl => smF (fun q => if whyT s.1 p pl (q + 1) = 0 then 1 else 0) 3) ((pth s.1 p).length - 1)))))
    (x1 : ¬ (0 ≤ z1 ∧ z1 < s.1.length) → K (vi 1) none w)
    : Ev G yL_turnable cL_turnable 4 mL_turnable none 8 1 6 [vr 1, vi z1, vr 84] w K XF := by
  refine Ev_intro msL_turnable.1 rfl (fun h => by cases h) (allc1 rfl) (Nat.le_of_ble_eq_true rfl) (Or.inr (fun _ _ _ h => h)) ?_
  show Go G cL_turnable mL_turnable none 8 1 6 0 [some (vr 1), some (vi z1), some (vr 84), none] [] w K XF
  have hH : ∀ k q, (fun k => if k = 1 then some 12 else none) k = some q → kEq k ∧ hOK mL_turnable.2.2.2 4 k q = true ∧ (decode cL_turnable q = .ok (.astore 3, 2) ∧ 1 = 2 ∨ ∃ j : Fin 4, (j : Nat) = 3 ∧ decode cL_turnable q = .ok (.astore_n j, 1) ∧ 1 = 1) := by
    intro k q e
    by_cases c1 : k = 1
    · subst c1; have e : some 12 = some q := e; cases e; exact ⟨⟨by decide, by decide⟩, rfl, Or.inr ⟨3, rfl, dL_turnable_12, rfl⟩⟩
    simp only [if_neg c1] at e
    cases e
  refine Go_ald2 dL_turnable_0 ?_
  refine Go_iconst dL_turnable_1 ?_
  refine Go_ald0 dL_turnable_2 ?_
  refine Go_ild1 dL_turnable_3 ?_
  refine Go_callVX (d' := 7) (bc' := 1) (bs' := 6) (as := [vi z1]) (i := 3) (ix := 1) rfl dL_turnable_4 mvX11_turnable rfl lkL_98 rfl rfl rfl trivial rfl rfl (Nat.le_of_ble_eq_true rfl) (by decide) (by decide) (by decide) (Nat.le_of_ble_eq_true rfl) (fun j hj => by have e : j = 2 := (by omega); subst e; rfl) hH ?_
  refine e_X11_turnable h h1 (fun a9 b9 c9 d9 e9 f9 => ?_) (fun a9 => ⟨12, rfl, Go_hend rfl dL_turnable_13 dL_turnable_14 (x1 a9)⟩)
  · skip
    refine Go_i2lN dL_turnable_7 ?_
    refine Go_last dL_turnable_8 (by first | assumption | rfl) trivial (by omega) (by omega) (by decide) ?_
    refine Go_goto (tgt := 15) dL_turnable_9 (by decide) ?_
    refine Go_iconst dL_turnable_15 ?_
    refine Go_ireturn dL_turnable_16 rfl (by first | rfl | decide | exact nar_b | simp [narrow]) ?_
    rw [show (0 : Int).toNat = 0 from rfl]
    exact k a9 b9 c9 d9 e9 f9
theorem e_L_count (h : CI w s sv g tx) (h1 : inR z1)
    (k : 0 ≤ z1 → z1 ≤ 6 → K (vi 0) none (up w 84 0 (nz (cntA s sv tx z1))))
    (x3 : ¬ (0 ≤ z1 ∧ z1 ≤ 6) → K (vi 1) none w)
    : Ev G yL_count cL_count 4 mL_count none 8 1 6 [vr 1, vi z1, vr 84] w K XF := by
  refine Ev_intro msL_count.1 rfl (fun h => by cases h) (allc1 rfl) (Nat.le_of_ble_eq_true rfl) (Or.inr (fun _ _ _ h => h)) ?_
  show Go G cL_count mL_count none 8 1 6 0 [some (vr 1), some (vi z1), some (vr 84), none] [] w K XF
  have hH : ∀ k q, (fun k => if k = 3 then some 12 else none) k = some q → kEq k ∧ hOK mL_count.2.2.2 4 k q = true ∧ (decode cL_count q = .ok (.astore 3, 2) ∧ 1 = 2 ∨ ∃ j : Fin 4, (j : Nat) = 3 ∧ decode cL_count q = .ok (.astore_n j, 1) ∧ 1 = 1) := by
    intro k q e
    by_cases c3 : k = 3
    · subst c3; have e : some 12 = some q := e; cases e; exact ⟨⟨by decide, by decide⟩, rfl, Or.inr ⟨3, rfl, dL_count_12, rfl⟩⟩
    simp only [if_neg c3] at e
    cases e
  refine Go_ald2 dL_count_0 ?_
  refine Go_iconst dL_count_1 ?_
  refine Go_ald0 dL_count_2 ?_
  refine Go_ild1 dL_count_3 ?_
  refine Go_callVX (d' := 7) (bc' := 1) (bs' := 6) (as := [vi z1]) (i := 3) (ix := 1) rfl dL_count_4 mvX11_count rfl lkL_101 rfl rfl rfl trivial rfl rfl (Nat.le_of_ble_eq_true rfl) (by decide) (by decide) (by decide) (Nat.le_of_ble_eq_true rfl) (fun j hj => by have e : j = 2 := (by omega); subst e; rfl) hH ?_
  refine e_X11_count h h1 (fun a9 b9 => ?_) (fun a9 => ⟨12, rfl, Go_hend rfl dL_count_13 dL_count_14 (x3 a9)⟩)
  · skip
    refine Go_i2lN dL_count_7 ?_
    refine Go_last dL_count_8 (by first | assumption | rfl) trivial (by omega) (by omega) (by decide) ?_
    refine Go_goto (tgt := 15) dL_count_9 (by decide) ?_
    refine Go_iconst dL_count_15 ?_
    refine Go_ireturn dL_count_16 rfl (by first | rfl | decide | exact nar_b | simp [narrow]) ?_
    rw [show (0 : Int).toNat = 0 from rfl]
    exact k a9 b9
theorem e_L_spread (h : CI w s sv g tx) (h1 : inR z1)
    (k : ∀ p : Nat, z1 = p → p < s.1.length → K (vi 0) none (up w 85 0 ((UInt64.toNat (sprD (momL (pth s.1 p)) (pth s.1 p).length) : Nat) : Int)))
    (x1 : ¬ (0 ≤ z1 ∧ z1 < s.1.length) → K (vi 1) none w)
    : Ev G yL_spread cL_spread 4 mL_spread none 8 1 6 [vr 1, vi z1, vr 85] w K XF := by
  refine Ev_intro msL_spread.1 rfl (fun h => by cases h) (allc1 rfl) (Nat.le_of_ble_eq_true rfl) (Or.inr (fun _ _ _ h => h)) ?_
  show Go G cL_spread mL_spread none 8 1 6 0 [some (vr 1), some (vi z1), some (vr 85), none] [] w K XF
  have hH : ∀ k q, (fun k => if k = 1 then some 11 else none) k = some q → kEq k ∧ hOK mL_spread.2.2.2 4 k q = true ∧ (decode cL_spread q = .ok (.astore 3, 2) ∧ 1 = 2 ∨ ∃ j : Fin 4, (j : Nat) = 3 ∧ decode cL_spread q = .ok (.astore_n j, 1) ∧ 1 = 1) := by
    intro k q e
    by_cases c1 : k = 1
    · subst c1; have e : some 11 = some q := e; cases e; exact ⟨⟨by decide, by decide⟩, rfl, Or.inr ⟨3, rfl, dL_spread_11, rfl⟩⟩
    simp only [if_neg c1] at e
    cases e
  refine Go_ald2 dL_spread_0 ?_
  refine Go_iconst dL_spread_1 ?_
  refine Go_ald0 dL_spread_2 ?_
  refine Go_ild1 dL_spread_3 ?_
  refine Go_callVX (d' := 7) (bc' := 1) (bs' := 6) (as := [vi z1]) (i := 3) (ix := 1) rfl dL_spread_4 mvX11_spread rfl lkL_104 rfl rfl rfl trivial rfl rfl (Nat.le_of_ble_eq_true rfl) (by decide) (by decide) (by decide) (Nat.le_of_ble_eq_true rfl) (fun j hj => by have e : j = 2 := (by omega); subst e; rfl) hH ?_
  refine e_X11_spread h h1 (fun a9 b9 c9 => ?_) (fun a9 => ⟨11, rfl, Go_hend rfl dL_spread_12 dL_spread_13 (x1 a9)⟩)
  · skip
    refine Go_dast dL_spread_7 (by first | assumption | rfl) trivial (by omega) (by omega) (by decide) ?_
    refine Go_goto (tgt := 14) dL_spread_8 (by decide) ?_
    refine Go_iconst dL_spread_14 ?_
    refine Go_ireturn dL_spread_15 rfl (by first | rfl | decide | exact nar_b | simp [narrow]) ?_
    rw [show (0 : Int).toNat = 0 from rfl]
    exact k a9 b9 c9
end Wrap
