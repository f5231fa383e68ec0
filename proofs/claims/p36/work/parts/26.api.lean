theorem frDF_le (ps : List (List Nat)) (s d : Nat) : frDF ps s d ≤ 2 ^ d := by unfold frDF; split <;> simp
/-- the object's cells hold a state, what is saved, the slots and the buffer -/
def CI (w : Wd) (s : Sta) (sv : List Sta) (g : Nat → Option Sta) (tx : List Nat) : Prop := BS w s ∧ OKp s.1 ∧ HI w sv ∧ SN w g ∧ TX w tx
def ccs : List Nat := (List.range 66).map (· + 2)
theorem CI.frm {w w' : Wd} {s : Sta} {sv : List Sta} {g : Nat → Option Sta} {tx : List Nat} {A : List Nat} (h : CI w s sv g tx) (f : frm w w' A) (hA : ∀ a ∈ A, 47 ≤ a) : CI w' s sv g tx :=
  ⟨h.1.frm f (fun a ha => by have := hA a ha; omega), h.2.1, h.2.2.1.frm f (fun a ha => by have := hA a ha; omega), h.2.2.2.1.frm f (fun a ha => by have := hA a ha; omega), h.2.2.2.2.frm f (fun q => by have := hA _ q; omega) (fun q => by have := hA _ q; omega)⟩
theorem CI_op {w w1 w2 : Wd} {s s' : Sta} {sv : List Sta} {g : Nat → Option Sta} {tx : List Nat} {A : List Nat} (h : CI w s sv g tx) (v1 : HI w1 (pushS sv s)) (f1 : frm w w1 hcs) (b2 : BS w2 s') (o2 : OKp s'.1) (f2 : frm w1 w2 A) (hA : ∀ a ∈ A, (a < 16 ∨ 47 ≤ a) ∧ a ∈ ccs) : CI w2 (s') (pushS sv s) g tx ∧ frm w w2 ccs := by
  have e : ∀ a ∈ A, a < 36 ∨ 45 ≤ a := fun a ha => by have := hA a ha; omega
  refine ⟨⟨b2, o2, v1.frm f2 (fun a ha => by have := hA a ha; omega), (h.2.2.2.1.frm f1 (by decide +kernel)).frm f2 e, (h.2.2.2.2.frm f1 (by decide +kernel) (by decide +kernel)).frm f2 (fun q => by have := hA _ q; omega) (fun q => by have := hA _ q; omega)⟩, (f1.mono (by decide +kernel)).trans f2 (fun a ha => (hA a ha).2)⟩
theorem bcs_ok : ∀ a ∈ bcs, (a < 16 ∨ 47 ≤ a) ∧ a ∈ ccs := by decide +kernel
theorem hcs_16 : ∀ a ∈ hcs, a < 2 ∨ 16 ≤ a := by decide +kernel
section Api
variable {G : Gm} {w : Wd} {K : Kt} {X : Xt} {s : Sta} {sv : List Sta} {g : Nat → Option Sta} {tx : List Nat} {z z1 z2 z3 : Int}
theorem e_X0_stepsMade (h : BS w s) (k : K (vi s.2.1) none w) : Ev G yX0_stepsMade cX0_stepsMade 1 mX0_stepsMade none 0 0 0 [vr 2] w K X := by
  have e := h.2.1
  refine Ev_intro mvX0_stepsMade.1 rfl (fun h => by cases h) (allc1 rfl) (Nat.le_of_ble_eq_true rfl) (Or.inl rfl) ?_
  show Go G cX0_stepsMade mX0_stepsMade none 0 0 0 0 [some (vr 2)] [] w K X
  refine Go_ald0 dX0_stepsMade_0 ?_
  refine gf0_2 dX0_stepsMade_1 flX0_56 (by first | assumption | rfl) ?_
  refine Go_ireturn dX0_stepsMade_4 rfl (by first | rfl | decide | exact nar_b | simp [narrow]) ?_
  exact kI e k
theorem e_X0_refusals (h : BS w s) (k : K (vi s.2.2.1) none w) : Ev G yX0_refusals cX0_refusals 1 mX0_refusals none 0 0 0 [vr 2] w K X := by
  have e := h.2.2.1
  refine Ev_intro mvX0_refusals.1 rfl (fun h => by cases h) (allc1 rfl) (Nat.le_of_ble_eq_true rfl) (Or.inl rfl) ?_
  show Go G cX0_refusals mX0_refusals none 0 0 0 0 [some (vr 2)] [] w K X
  refine Go_ald0 dX0_refusals_0 ?_
  refine gf0_3 dX0_refusals_1 flX0_59 (by first | assumption | rfl) ?_
  refine Go_ireturn dX0_refusals_4 rfl (by first | rfl | decide | exact nar_b | simp [narrow]) ?_
  exact kI e k
theorem e_X0_turnsMade (h : BS w s) (k : K (vi s.2.2.2) none w) : Ev G yX0_turnsMade cX0_turnsMade 1 mX0_turnsMade none 0 0 0 [vr 2] w K X := by
  have e := h.2.2.2
  refine Ev_intro mvX0_turnsMade.1 rfl (fun h => by cases h) (allc1 rfl) (Nat.le_of_ble_eq_true rfl) (Or.inl rfl) ?_
  show Go G cX0_turnsMade mX0_turnsMade none 0 0 0 0 [some (vr 2)] [] w K X
  refine Go_ald0 dX0_turnsMade_0 ?_
  refine gf0_4 dX0_turnsMade_1 flX0_62 (by first | assumption | rfl) ?_
  refine Go_ireturn dX0_turnsMade_4 rfl (by first | rfl | decide | exact nar_b | simp [narrow]) ?_
  exact kI e k
theorem e_X11_checkRange {lo hi : Int} (h : inR z) (hl : inR lo) (hh : inR hi) (k : lo ≤ z → z ≤ hi → K (vi 0) none w) (x3 : ¬ (lo ≤ z ∧ z ≤ hi) → X 3 none w) : Ev G yX11_checkRange cX11_checkRange 3 mX11_checkRange none 6 1 6 [vi z, vi lo, vi hi] w K X := by
  obtain ⟨a1, a2⟩ := h
  obtain ⟨b1, b2⟩ := hl
  obtain ⟨c1, c2⟩ := hh
  refine Ev_intro msX11_checkRange.1 rfl (fun h => by cases h) (allc1 rfl) (Nat.le_of_ble_eq_true rfl) (Or.inl rfl) ?_
  show Go G cX11_checkRange mX11_checkRange none 6 1 6 0 [some (vi z), some (vi lo), some (vi hi)] [] w K X
  refine Go_ild0 dX11_checkRange_0 ?_
  refine Go_ild1 dX11_checkRange_1 ?_
  refine Go_icmp_lt (tgt := 10) dX11_checkRange_2 (by decide) (by constructor <;> omega) (by constructor <;> omega) (fun h2 => ?_) (fun h2 => ?_)
  · refine Go_throwW (k := 3) ⟨by decide, by decide⟩ (List.mem_of_getElem? (i := 10) rfl) rfl rfl (by decide) (by decide) (by decide) dX11_checkRange_10 dX11_checkRange_13 dX11_checkRange_14 dX11_checkRange_17 dX11_checkRange_20 (Nat.le_of_ble_eq_true rfl) ?_
    exact x3 (by omega)
  · refine Go_ild0 dX11_checkRange_5 ?_
    refine Go_ild2 dX11_checkRange_6 ?_
    refine Go_icmp_le (tgt := 21) dX11_checkRange_7 (by decide) (by constructor <;> omega) (by constructor <;> omega) (fun h7 => ?_) (fun h7 => ?_)
    · refine Go_return dX11_checkRange_21 rfl ?_
      exact k (by omega) (by omega)
    · refine Go_throwW (k := 3) ⟨by decide, by decide⟩ (List.mem_of_getElem? (i := 10) rfl) rfl rfl (by decide) (by decide) (by decide) dX11_checkRange_10 dX11_checkRange_13 dX11_checkRange_14 dX11_checkRange_17 dX11_checkRange_20 (Nat.le_of_ble_eq_true rfl) ?_
      exact x3 (by omega)
theorem e_X11_checkDirection (h : inR z) (k : ∀ d : Nat, z = d → d < 4 → K (vi 0) none w) (x3 : ¬ (0 ≤ z ∧ z ≤ 3) → X 3 none w) : Ev G yX11_checkDirection cX11_checkDirection 1 mX11_checkDirection none 7 1 6 [vi z] w K X := by
  refine Ev_intro msX11_checkDirection.1 rfl (fun h => by cases h) (allc1 rfl) (Nat.le_of_ble_eq_true rfl) (Or.inl rfl) ?_
  show Go G cX11_checkDirection mX11_checkDirection none 7 1 6 0 [some (vi z)] [] w K X
  refine Go_ild0 dX11_checkDirection_0 ?_
  refine Go_iconst dX11_checkDirection_1 ?_
  refine Go_iconst dX11_checkDirection_2 ?_
  refine Go_cSv3 (d' := 6) (bc' := 1) (bs' := 6) rfl dX11_checkDirection_3 msX11_checkRange rfl lkX11_186 (by decide) (by decide) (by decide) (Nat.le_of_ble_eq_true rfl) ?_
  refine e_X11_checkRange h (by constructor <;> omega) (by constructor <;> omega) (fun q1 q2 => ?_) x3
  refine Go_return dX11_checkDirection_6 rfl ?_
  exact k z.toNat (by omega) (by omega)
theorem e_X11_checkQuarters (h : inR z) (k : ∀ d : Nat, z = d → 1 ≤ d → d ≤ 3 → K (vi 0) none w) (x3 : ¬ (1 ≤ z ∧ z ≤ 3) → X 3 none w) : Ev G yX11_checkQuarters cX11_checkQuarters 1 mX11_checkQuarters none 7 1 6 [vi z] w K X := by
  refine Ev_intro msX11_checkQuarters.1 rfl (fun h => by cases h) (allc1 rfl) (Nat.le_of_ble_eq_true rfl) (Or.inl rfl) ?_
  show Go G cX11_checkQuarters mX11_checkQuarters none 7 1 6 0 [some (vi z)] [] w K X
  refine Go_ild0 dX11_checkQuarters_0 ?_
  refine Go_iconst dX11_checkQuarters_1 ?_
  refine Go_iconst dX11_checkQuarters_2 ?_
  refine Go_cSv3 (d' := 6) (bc' := 1) (bs' := 6) rfl dX11_checkQuarters_3 msX11_checkRange rfl lkX11_186 (by decide) (by decide) (by decide) (Nat.le_of_ble_eq_true rfl) ?_
  refine e_X11_checkRange h (by constructor <;> omega) (by constructor <;> omega) (fun q1 q2 => ?_) x3
  refine Go_return dX11_checkQuarters_6 rfl ?_
  exact k z.toNat (by omega) (by omega) (by omega)
theorem e_X11_checkedSite (h1 : inR z1) (h2 : inR z2) (k : ∀ x : Nat, numI z1 z2 = x → x < 100 → K (vi x) none w) (x1 : numI z1 z2 = -1 → X 1 none w) : Ev G yX11_checkedSite cX11_checkedSite 3 mX11_checkedSite none 6 1 6 [vi z1, vi z2] w K X := by
  have b := numI_in z1 z2
  refine Ev_intro msX11_checkedSite.1 rfl (fun h => by cases h) (allc1 rfl) (Nat.le_of_ble_eq_true rfl) (Or.inl rfl) ?_
  show Go G cX11_checkedSite mX11_checkedSite none 6 1 6 0 [some (vi z1), some (vi z2), none] [] w K X
  refine Go_ild0 dX11_checkedSite_0 ?_
  refine Go_ild1 dX11_checkedSite_1 ?_
  refine Go_cS2 (d' := 0) (bc' := 0) (bs' := 0) rfl dX11_checkedSite_2 msX2_number rfl lkX11_336 (by decide) (by decide) (by decide) (Nat.le_of_ble_eq_true rfl) ?_
  refine e_X2_number h1 h2 ?_
  refine Go_ist2 dX11_checkedSite_5 rfl ?_
  refine Go_ild2 dX11_checkedSite_6 ?_
  refine Go_iconst dX11_checkedSite_7 ?_
  refine Go_icmp_ne (tgt := 22) dX11_checkedSite_8 (by decide) (by constructor <;> omega) (by constructor <;> omega) (fun h8 => ?_) (fun h8 => ?_)
  · refine Go_ild2 dX11_checkedSite_22 ?_
    refine Go_ireturn dX11_checkedSite_23 rfl (by first | rfl | decide | exact nar_b | simp [narrow]) ?_
    refine kI (y := (((numI z1 z2).toNat : Nat) : Int)) (by omega) (k _ (by omega) (by omega))
  · refine Go_throwW (k := 1) ⟨by decide, by decide⟩ (List.mem_of_getElem? (i := 6) rfl) rfl rfl (by decide) (by decide) (by decide) dX11_checkedSite_11 dX11_checkedSite_14 dX11_checkedSite_15 dX11_checkedSite_18 dX11_checkedSite_21 (Nat.le_of_ble_eq_true rfl) ?_
    exact x1 (by omega)
theorem e_X11_checkPath {ps : List (List Nat)} (h : BT w ps) (hz : inR z) (k : ∀ p : Nat, z = p → p < ps.length → K (vi 0) none w) (x1 : ¬ (0 ≤ z ∧ z < ps.length) → X 1 none w) : Ev G yX11_checkPath cX11_checkPath 2 mX11_checkPath none 6 1 6 [vr 1, vi z] w K X := by
  have h5 := h.2.1
  obtain ⟨a1, a2⟩ := hz
  refine Ev_intro mvX11_checkPath.1 rfl (fun h => by cases h) (allc1 rfl) (Nat.le_of_ble_eq_true rfl) (Or.inl rfl) ?_
  show Go G cX11_checkPath mX11_checkPath none 6 1 6 0 [some (vr 1), some (vi z)] [] w K X
  refine Go_ild1 dX11_checkPath_0 ?_
  refine Go_if_lt (tgt := 15) dX11_checkPath_1 (by decide) (by constructor <;> omega) (fun h1 => ?_) (fun h1 => ?_)
  · refine Go_throwW (k := 1) ⟨by decide, by decide⟩ (List.mem_of_getElem? (i := 7) rfl) rfl rfl (by decide) (by decide) (by decide) dX11_checkPath_15 dX11_checkPath_18 dX11_checkPath_19 dX11_checkPath_22 dX11_checkPath_25 (Nat.le_of_ble_eq_true rfl) ?_
    exact x1 (by omega)
  · refine Go_ild1 dX11_checkPath_4 ?_
    refine Go_ald0 dX11_checkPath_5 ?_
    refine gf10_0 dX11_checkPath_6 flX11_12 ?_
    refine Go_cV0 (d' := 0) (bc' := 0) (bs' := 0) rfl dX11_checkPath_9 mvX0_pathCount rfl lkX11_183 (by first | assumption | rfl) rfl trivial (by decide) (by decide) (by decide) (Nat.le_of_ble_eq_true rfl) ?_
    refine e_X0_pathCount h ?_
    refine Go_icmp_lt (tgt := 26) dX11_checkPath_12 (by decide) (by constructor <;> omega) (by constructor <;> omega) (fun h12 => ?_) (fun h12 => ?_)
    · refine Go_return dX11_checkPath_26 rfl ?_
      exact k z.toNat (by omega) (by omega)
    · refine Go_throwW (k := 1) ⟨by decide, by decide⟩ (List.mem_of_getElem? (i := 7) rfl) rfl rfl (by decide) (by decide) (by decide) dX11_checkPath_15 dX11_checkPath_18 dX11_checkPath_19 dX11_checkPath_22 dX11_checkPath_25 (Nat.le_of_ble_eq_true rfl) ?_
      exact x1 (by omega)
theorem e_X11_checkPlace {ps : List (List Nat)} (h : BT w ps) (h1 : inR z1) (h2 : inR z2) (k : ∀ p j : Nat, z1 = p → p < ps.length → z2 = j → j < (pth ps p).length → K (vi 0) none w) (x1 : (∀ p j : Nat, z1 = p → p < ps.length → z2 = j → ¬ j < (pth ps p).length) → X 1 none w) : Ev G yX11_checkPlace cX11_checkPlace 3 mX11_checkPlace none 7 2 12 [vr 1, vi z1, vi z2] w K X := by
  have h5 := h.2.1
  refine Ev_intro mvX11_checkPlace.1 rfl (fun h => by cases h) (allc1 rfl) (Nat.le_of_ble_eq_true rfl) (Or.inl rfl) ?_
  show Go G cX11_checkPlace mX11_checkPlace none 7 2 12 0 [some (vr 1), some (vi z1), some (vi z2)] [] w K X
  refine Go_ald0 dX11_checkPlace_0 ?_
  refine Go_ild1 dX11_checkPlace_1 ?_
  refine Go_cVv1 (d' := 6) (bc' := 1) (bs' := 6) rfl dX11_checkPlace_2 mvX11_checkPath rfl lkX11_106 (by first | assumption | rfl) rfl trivial (by decide) (by decide) (by decide) (Nat.le_of_ble_eq_true rfl) ?_
  refine e_X11_checkPath h h1 (fun p e hp => ?_) (fun q => x1 (fun p j e hp _ => absurd ⟨by omega, by omega⟩ q))
  subst e
  have h3 := h.2.2.1 p (by omega)
  have hts1 := (bts_sh h3.1).1
  refine Go_ald0 dX11_checkPlace_5 ?_
  refine gf10_0 dX11_checkPlace_6 flX11_12 ?_
  refine Go_ild1 dX11_checkPlace_9 ?_
  refine Go_cV1 (d' := 0) (bc' := 0) (bs' := 0) rfl dX11_checkPlace_10 mvX0_trail rfl lkX11_115 (by first | assumption | rfl) rfl trivial (by decide) (by decide) (by decide) (Nat.le_of_ble_eq_true rfl) ?_
  refine e_X0_trail h (by omega) ?_
  refine Go_ild2 dX11_checkPlace_13 ?_
  refine Go_cV1 (d' := 0) (bc' := 0) (bs' := 0) rfl dX11_checkPlace_14 mvX9_has rfl lkX11_343 (by first | assumption | rfl) rfl trivial (by decide) (by decide) (by decide) (Nat.le_of_ble_eq_true rfl) ?_
  refine e_X9_has (h.2.2.2.2 p hp) h2 ?_
  refine Go_ifb_ne (tgt := 31) dX11_checkPlace_17 (by decide)  (fun h17 => ?_) (fun h17 => ?_)
  · refine Go_return dX11_checkPlace_31 rfl ?_
    exact k p z2.toNat rfl hp (by omega) (by omega)
  · refine Go_throwW (k := 1) ⟨by decide, by decide⟩ (List.mem_of_getElem? (i := 8) rfl) rfl rfl (by decide) (by decide) (by decide) dX11_checkPlace_20 dX11_checkPlace_23 dX11_checkPlace_24 dX11_checkPlace_27 dX11_checkPlace_30 (Nat.le_of_ble_eq_true rfl) ?_
    refine x1 (fun p' j e hp' e2 hj => ?_)
    have : p = p' := by omega
    subst this
    exact h17 (by omega)
theorem e_X11_checkTwoPaths {ps : List (List Nat)} (h : BT w ps) (h1 : inR z1) (h2 : inR z2) (k : ∀ p o : Nat, z1 = p → p < ps.length → z2 = o → o < ps.length → p ≠ o → K (vi 0) none w) (x1 : ¬ (0 ≤ z1 ∧ z1 < ps.length ∧ 0 ≤ z2 ∧ z2 < ps.length) → X 1 none w) (x3 : 0 ≤ z1 → z1 < ps.length → z1 = z2 → X 3 none w) : Ev G yX11_checkTwoPaths cX11_checkTwoPaths 3 mX11_checkTwoPaths none 7 3 18 [vr 1, vi z1, vi z2] w K X := by
  obtain ⟨a1, a2⟩ := id h1
  obtain ⟨b1, b2⟩ := id h2
  have h5 := h.2.1
  refine Ev_intro mvX11_checkTwoPaths.1 rfl (fun h => by cases h) (allc1 rfl) (Nat.le_of_ble_eq_true rfl) (Or.inl rfl) ?_
  show Go G cX11_checkTwoPaths mX11_checkTwoPaths none 7 3 18 0 [some (vr 1), some (vi z1), some (vi z2)] [] w K X
  refine Go_ald0 dX11_checkTwoPaths_0 ?_
  refine Go_ild1 dX11_checkTwoPaths_1 ?_
  refine Go_cVv1 (d' := 6) (bc' := 1) (bs' := 6) rfl dX11_checkTwoPaths_2 mvX11_checkPath rfl lkX11_106 (by first | assumption | rfl) rfl trivial (by decide) (by decide) (by decide) (Nat.le_of_ble_eq_true rfl) ?_
  refine e_X11_checkPath h h1 (fun p e hp => ?_) (fun q => x1 (by omega))
  refine Go_ald0 dX11_checkTwoPaths_5 ?_
  refine Go_ild2 dX11_checkTwoPaths_6 ?_
  refine Go_cVv1 (d' := 6) (bc' := 1) (bs' := 6) rfl dX11_checkTwoPaths_7 mvX11_checkPath rfl lkX11_106 (by first | assumption | rfl) rfl trivial (by decide) (by decide) (by decide) (Nat.le_of_ble_eq_true rfl) ?_
  refine e_X11_checkPath h h2 (fun o e' ho => ?_) (fun q => x1 (by omega))
  refine Go_ild1 dX11_checkTwoPaths_10 ?_
  refine Go_ild2 dX11_checkTwoPaths_11 ?_
  refine Go_icmp_ne (tgt := 26) dX11_checkTwoPaths_12 (by decide) (by constructor <;> omega) (by constructor <;> omega) (fun h12 => ?_) (fun h12 => ?_)
  · refine Go_return dX11_checkTwoPaths_26 rfl ?_
    exact k p o e hp e' ho (by omega)
  · refine Go_throwW (k := 3) ⟨by decide, by decide⟩ (List.mem_of_getElem? (i := 9) rfl) rfl rfl (by decide) (by decide) (by decide) dX11_checkTwoPaths_15 dX11_checkTwoPaths_18 dX11_checkTwoPaths_19 dX11_checkTwoPaths_22 dX11_checkTwoPaths_25 (Nat.le_of_ble_eq_true rfl) ?_
    exact x3 (by omega) (by omega) (by omega)
theorem e_X11_start (h : CI w s sv g tx) (h1 : inR z1) (h2 : inR z2)
    (k : ∀ w' (x : Nat), numI z1 z2 = x → ow s.1 x = -1 → s.1.length < 5 → CI w' ((s.1 ++ [[x]], s.2.1, s.2.2.1, s.2.2.2)) (pushS sv s) g tx → frm w w' ccs → K (vi s.1.length) none w')
    (x1 : numI z1 z2 = -1 → X 1 none w) (x2 : ∀ x : Nat, numI z1 z2 = x → ¬ (ow s.1 x = -1 ∧ s.1.length < 5) → X 2 none w) : Ev G yX11_start cX11_start 4 mX11_start none 7 2 12 [vr 1, vi z1, vi z2] w K X := by
  have h5 : s.1.length ≤ 5 := h.2.1.1
  refine Ev_intro mvX11_start.1 rfl (fun h => by cases h) (allc1 rfl) (Nat.le_of_ble_eq_true rfl) (Or.inl rfl) ?_
  show Go G cX11_start mX11_start none 7 2 12 0 [some (vr 1), some (vi z1), some (vi z2), none] [] w K X
  refine Go_ild1 dX11_start_0 ?_
  refine Go_ild2 dX11_start_1 ?_
  refine Go_cS2 (d' := 6) (bc' := 1) (bs' := 6) rfl dX11_start_2 msX11_checkedSite rfl lkX11_75 (by decide) (by decide) (by decide) (Nat.le_of_ble_eq_true rfl) ?_
  refine e_X11_checkedSite h1 h2 (fun x ex hx => ?_) x1
  refine Go_ist3 dX11_start_5 rfl ?_
  refine Go_ald0 dX11_start_6 ?_
  refine gf10_0 dX11_start_7 flX11_12 ?_
  refine Go_ild3 dX11_start_10 ?_
  refine Go_cV1 (d' := 1) (bc' := 0) (bs' := 0) rfl dX11_start_11 mvX0_isFree rfl lkX11_79 (by first | assumption | rfl) rfl trivial (by decide) (by decide) (by decide) (Nat.le_of_ble_eq_true rfl) ?_
  refine e_X0_isFree h.1.1.2.1 h5 (by constructor <;> omega) ?_
  rw [Int.toNat_natCast]
  refine Go_ifb_eq (tgt := 27) dX11_start_14 (by decide)  (fun h14 => ?_) (fun h14 => ?_)
  · refine Go_throw (k := 2) ⟨by decide, by decide⟩ (List.mem_of_getElem? (i := 0) rfl) rfl rfl (by decide) (by decide) (by decide) dX11_start_27 dX11_start_30 dX11_start_31 dX11_start_33 dX11_start_36 (Nat.le_of_ble_eq_true rfl) ?_
    refine x2 x ex ?_
    omega
  · refine Go_ald0 dX11_start_17 ?_
    refine gf10_0 dX11_start_18 flX11_12 ?_
    refine Go_cV0 (d' := 0) (bc' := 0) (bs' := 0) rfl dX11_start_21 mvX0_isFull rfl lkX11_83 (by first | assumption | rfl) rfl trivial (by decide) (by decide) (by decide) (Nat.le_of_ble_eq_true rfl) ?_
    refine e_X0_isFull h.1.1.1 ?_
    refine Go_ifb_eq (tgt := 37) dX11_start_24 (by decide)  (fun h24 => ?_) (fun h24 => ?_)
    · refine Go_ald0 dX11_start_37 ?_
      refine gf10_1 dX11_start_38 flX11_19 ?_
      refine Go_ald0 dX11_start_41 ?_
      refine gf10_0 dX11_start_42 flX11_12 ?_
      refine Go_cVv1 (d' := 3) (bc' := 0) (bs' := 0) rfl dX11_start_45 mvX1_save rfl lkX11_94 (by first | assumption | rfl) rfl trivial (by decide) (by decide) (by decide) (Nat.le_of_ble_eq_true rfl) ?_
      refine e_X1_save h.1 h.2.1 h.2.2.1 (fun w1 v1 f1 => ?_)
      refine Go_ald0 dX11_start_48 ?_
      refine gf10_4 dX11_start_49 flX11_40 ?_
      refine Go_ild3 dX11_start_52 ?_
      refine Go_cVv1 (d' := 2) (bc' := 0) (bs' := 0) rfl dX11_start_53 mvX9_begin rfl lkX11_98 (by first | assumption | rfl) rfl trivial (by decide) (by decide) (by decide) (Nat.le_of_ble_eq_true rfl) ?_
      refine e_X9_begin rfl (fun w2 t2 f2 => ?_)
      have oA : OKp (s.1 ++ [[x]]) := h.2.1.app (by omega) (by simp) (by simp) (ADJ_one x) (fun y hy => by rw [List.mem_singleton] at hy; omega) (by simp) (fun y hy q hq => by
        rw [List.mem_singleton] at hy; subst hy
        have := (ow_of h.2.1.nd hq).1
        omega)
      refine Go_ald0 dX11_start_56 ?_
      refine gf10_0 dX11_start_57 flX11_12 ?_
      refine Go_ald0 dX11_start_60 ?_
      refine gf10_4 dX11_start_61 flX11_40 ?_
      refine Go_cV1 (d' := 3) (bc' := 0) (bs' := 0) rfl dX11_start_64 mvX0_add rfl lkX11_102 (by first | assumption | rfl) rfl trivial (by decide) (by decide) (by decide) (Nat.le_of_ble_eq_true rfl) ?_
      refine e_X0_add ((h.1.frm f1 hcs_16).frm f2 (by decide)) t2 (by omega) oA (fun w3 b3 f3 => ?_)
      refine Go_ireturn dX11_start_67 rfl (by first | rfl | decide | exact nar_b | simp [narrow]) ?_
      have r := CI_op h v1 f1 b3 oA ((f2.mono (B := 47 :: 48 :: bcs) (by decide)).trans f3 (fun a ha => List.mem_cons_of_mem _ (List.mem_cons_of_mem _ ha))) (by decide +kernel)
      exact k _ x ex (by omega) (by omega) r.1 r.2
    · refine Go_throw (k := 2) ⟨by decide, by decide⟩ (List.mem_of_getElem? (i := 0) rfl) rfl rfl (by decide) (by decide) (by decide) dX11_start_27 dX11_start_30 dX11_start_31 dX11_start_33 dX11_start_36 (Nat.le_of_ble_eq_true rfl) ?_
      refine x2 x ex ?_
      omega
theorem e_X11_step (h : CI w s sv g tx) (h1 : inR z1) (h2 : inR z2)
    (k : ∀ w' (p d : Nat), z1 = p → p < s.1.length → z2 = d → d < 4 → CI w' (stepS s p d) (pushS sv s) g tx → frm w w' ccs → K (vi (stepR s.1 p d)) none w')
    (x1 : ¬ (0 ≤ z1 ∧ z1 < s.1.length) → X 1 none w) (x3 : 0 ≤ z1 → z1 < s.1.length → ¬ (0 ≤ z2 ∧ z2 ≤ 3) → X 3 none w) : Ev G yX11_step cX11_step 3 mX11_step none 8 2 12 [vr 1, vi z1, vi z2] w K X := by
  refine Ev_intro mvX11_step.1 rfl (fun h => by cases h) (allc1 rfl) (Nat.le_of_ble_eq_true rfl) (Or.inl rfl) ?_
  show Go G cX11_step mX11_step none 8 2 12 0 [some (vr 1), some (vi z1), some (vi z2)] [] w K X
  refine Go_ald0 dX11_step_0 ?_
  refine Go_ild1 dX11_step_1 ?_
  refine Go_cVv1 (d' := 6) (bc' := 1) (bs' := 6) rfl dX11_step_2 mvX11_checkPath rfl lkX11_106 (by first | assumption | rfl) rfl trivial (by decide) (by decide) (by decide) (Nat.le_of_ble_eq_true rfl) ?_
  refine e_X11_checkPath h.1.1.1 h1 (fun p e hp => ?_) x1
  refine Go_ild2 dX11_step_5 ?_
  refine Go_cSv1 (d' := 7) (bc' := 1) (bs' := 6) rfl dX11_step_6 msX11_checkDirection rfl lkX11_109 (by decide) (by decide) (by decide) (Nat.le_of_ble_eq_true rfl) ?_
  refine e_X11_checkDirection h2 (fun d e2 hd => ?_) (x3 (by omega) (by omega))
  subst e e2
  refine Go_ald0 dX11_step_9 ?_
  refine gf10_1 dX11_step_10 flX11_19 ?_
  refine Go_ald0 dX11_step_13 ?_
  refine gf10_0 dX11_step_14 flX11_12 ?_
  refine Go_cVv1 (d' := 3) (bc' := 0) (bs' := 0) rfl dX11_step_17 mvX1_save rfl lkX11_94 (by first | assumption | rfl) rfl trivial (by decide) (by decide) (by decide) (Nat.le_of_ble_eq_true rfl) ?_
  refine e_X1_save h.1 h.2.1 h.2.2.1 (fun w1 v1 f1 => ?_)
  refine Go_ald0 dX11_step_20 ?_
  refine gf10_0 dX11_step_21 flX11_12 ?_
  refine Go_ild1 dX11_step_24 ?_
  refine Go_ild2 dX11_step_25 ?_
  refine Go_cV2 (d' := 3) (bc' := 0) (bs' := 0) rfl dX11_step_26 mvX0_lengthen rfl lkX11_112 (by first | assumption | rfl) rfl trivial (by decide) (by decide) (by decide) (Nat.le_of_ble_eq_true rfl) ?_
  refine e_X0_lengthen (h.1.frm f1 hcs_16) h.2.1 hp hd (fun w2 b2 f2 => ?_)
  refine Go_ireturn dX11_step_29 rfl (by first | rfl | decide | exact nar_b | simp [narrow]) ?_
  have r := CI_op h v1 f1 b2 (h.2.1.step hp hd) f2 bcs_ok
  exact k _ p d rfl hp rfl hd r.1 r.2
theorem e_X11_slither (h : CI w s sv g tx) (h1 : inR z1) (h2 : inR z2)
    (k : ∀ w' (p d : Nat), z1 = p → p < s.1.length → z2 = d → d < 4 → CI w' (slithS s p d) (pushS sv s) g tx → frm w w' ccs → K (vi (slithR s.1 p d)) none w')
    (x1 : ¬ (0 ≤ z1 ∧ z1 < s.1.length) → X 1 none w) (x3 : 0 ≤ z1 → z1 < s.1.length → ¬ (0 ≤ z2 ∧ z2 ≤ 3) → X 3 none w) : Ev G yX11_slither cX11_slither 3 mX11_slither none 8 2 12 [vr 1, vi z1, vi z2] w K X := by
  refine Ev_intro mvX11_slither.1 rfl (fun h => by cases h) (allc1 rfl) (Nat.le_of_ble_eq_true rfl) (Or.inl rfl) ?_
  show Go G cX11_slither mX11_slither none 8 2 12 0 [some (vr 1), some (vi z1), some (vi z2)] [] w K X
  refine Go_ald0 dX11_slither_0 ?_
  refine Go_ild1 dX11_slither_1 ?_
  refine Go_cVv1 (d' := 6) (bc' := 1) (bs' := 6) rfl dX11_slither_2 mvX11_checkPath rfl lkX11_106 (by first | assumption | rfl) rfl trivial (by decide) (by decide) (by decide) (Nat.le_of_ble_eq_true rfl) ?_
  refine e_X11_checkPath h.1.1.1 h1 (fun p e hp => ?_) x1
  refine Go_ild2 dX11_slither_5 ?_
  refine Go_cSv1 (d' := 7) (bc' := 1) (bs' := 6) rfl dX11_slither_6 msX11_checkDirection rfl lkX11_109 (by decide) (by decide) (by decide) (Nat.le_of_ble_eq_true rfl) ?_
  refine e_X11_checkDirection h2 (fun d e2 hd => ?_) (x3 (by omega) (by omega))
  subst e e2
  refine Go_ald0 dX11_slither_9 ?_
  refine gf10_1 dX11_slither_10 flX11_19 ?_
  refine Go_ald0 dX11_slither_13 ?_
  refine gf10_0 dX11_slither_14 flX11_12 ?_
  refine Go_cVv1 (d' := 3) (bc' := 0) (bs' := 0) rfl dX11_slither_17 mvX1_save rfl lkX11_94 (by first | assumption | rfl) rfl trivial (by decide) (by decide) (by decide) (Nat.le_of_ble_eq_true rfl) ?_
  refine e_X1_save h.1 h.2.1 h.2.2.1 (fun w1 v1 f1 => ?_)
  refine Go_ald0 dX11_slither_20 ?_
  refine gf10_0 dX11_slither_21 flX11_12 ?_
  refine Go_ild1 dX11_slither_24 ?_
  refine Go_ild2 dX11_slither_25 ?_
  refine Go_cV2 (d' := 3) (bc' := 0) (bs' := 0) rfl dX11_slither_26 mvX0_creep rfl lkX11_129 (by first | assumption | rfl) rfl trivial (by decide) (by decide) (by decide) (Nat.le_of_ble_eq_true rfl) ?_
  refine e_X0_creep (h.1.frm f1 hcs_16) h.2.1 hp hd (fun w2 b2 f2 => ?_)
  refine Go_ireturn dX11_slither_29 rfl (by first | rfl | decide | exact nar_b | simp [narrow]) ?_
  have r := CI_op h v1 f1 b2 (h.2.1.slith hp hd) f2 bcs_ok
  exact k _ p d rfl hp rfl hd r.1 r.2
theorem e_X11_back (h : CI w s sv g tx) (h1 : inR z1)
    (k : ∀ w' (p : Nat), z1 = p → p < s.1.length → 2 ≤ (pth s.1 p).length → CI w' ((s.1.set p ((pth s.1 p).take ((pth s.1 p).length - 1)), s.2.1, s.2.2.1, s.2.2.2)) (pushS sv s) g tx → frm w w' ccs → K (vi ((pth s.1 p).length - 1)) none w')
    (x1 : ¬ (0 ≤ z1 ∧ z1 < s.1.length) → X 1 none w) (x2 : ∀ p : Nat, z1 = p → p < s.1.length → (pth s.1 p).length = 1 → X 2 none w) : Ev G yX11_back cX11_back 2 mX11_back none 7 2 12 [vr 1, vi z1] w K X := by
  have h5 : s.1.length ≤ 5 := h.2.1.1
  refine Ev_intro mvX11_back.1 rfl (fun h => by cases h) (allc1 rfl) (Nat.le_of_ble_eq_true rfl) (Or.inl rfl) ?_
  show Go G cX11_back mX11_back none 7 2 12 0 [some (vr 1), some (vi z1)] [] w K X
  refine Go_ald0 dX11_back_0 ?_
  refine Go_ild1 dX11_back_1 ?_
  refine Go_cVv1 (d' := 6) (bc' := 1) (bs' := 6) rfl dX11_back_2 mvX11_checkPath rfl lkX11_106 (by first | assumption | rfl) rfl trivial (by decide) (by decide) (by decide) (Nat.le_of_ble_eq_true rfl) ?_
  refine e_X11_checkPath h.1.1.1 h1 (fun p e hp => ?_) x1
  subst e
  have h3 := h.1.1.1.2.2.1 p (by omega)
  have hts1 := (bts_sh h3.1).1
  have hlen := h.2.1.len hp
  refine Go_ald0 dX11_back_5 ?_
  refine gf10_0 dX11_back_6 flX11_12 ?_
  refine Go_ild1 dX11_back_9 ?_
  refine Go_cV1 (d' := 0) (bc' := 0) (bs' := 0) rfl dX11_back_10 mvX0_trail rfl lkX11_115 (by first | assumption | rfl) rfl trivial (by decide) (by decide) (by decide) (Nat.le_of_ble_eq_true rfl) ?_
  refine e_X0_trail h.1.1.1 (by omega) ?_
  refine Go_cV0 (d' := 0) (bc' := 0) (bs' := 0) rfl dX11_back_13 mvX9_length rfl lkX11_119 (by first | assumption | rfl) rfl trivial (by decide) (by decide) (by decide) (Nat.le_of_ble_eq_true rfl) ?_
  refine e_X9_length (h.1.1.1.2.2.2.2 p hp) ?_
  refine Go_iconst dX11_back_16 ?_
  refine Go_icmp_ge (tgt := 30) dX11_back_17 (by decide) (by constructor <;> omega) (by constructor <;> omega) (fun h17 => ?_) (fun h17 => ?_)
  · refine Go_ald0 dX11_back_30 ?_
    refine gf10_1 dX11_back_31 flX11_19 ?_
    refine Go_ald0 dX11_back_34 ?_
    refine gf10_0 dX11_back_35 flX11_12 ?_
    refine Go_cVv1 (d' := 3) (bc' := 0) (bs' := 0) rfl dX11_back_38 mvX1_save rfl lkX11_94 (by first | assumption | rfl) rfl trivial (by decide) (by decide) (by decide) (Nat.le_of_ble_eq_true rfl) ?_
    refine e_X1_save h.1 h.2.1 h.2.2.1 (fun w1 v1 f1 => ?_)
    refine Go_ald0 dX11_back_41 ?_
    refine gf10_0 dX11_back_42 flX11_12 ?_
    refine Go_ild1 dX11_back_45 ?_
    refine Go_cV1 (d' := 3) (bc' := 0) (bs' := 0) rfl dX11_back_46 mvX0_shorten rfl lkX11_125 (by first | assumption | rfl) rfl trivial (by decide) (by decide) (by decide) (Nat.le_of_ble_eq_true rfl) ?_
    refine e_X0_shorten (h.1.frm f1 hcs_16) h.2.1 hp (by omega) (fun w2 b2 f2 => ?_)
    refine Go_ireturn dX11_back_49 rfl (by first | rfl | decide | exact nar_b | simp [narrow]) ?_
    have r := CI_op h v1 f1 b2 (h.2.1.back hp (n := (pth s.1 p).length - 1) (by omega)) f2 bcs_ok
    exact k _ p rfl hp (by omega) r.1 r.2
  · refine Go_throw (k := 2) ⟨by decide, by decide⟩ (List.mem_of_getElem? (i := 1) rfl) rfl rfl (by decide) (by decide) (by decide) dX11_back_20 dX11_back_23 dX11_back_24 dX11_back_26 dX11_back_29 (Nat.le_of_ble_eq_true rfl) ?_
    exact x2 p rfl hp (by omega)
theorem e_X11_reverse (h : CI w s sv g tx) (h1 : inR z1)
    (k : ∀ w' (p : Nat), z1 = p → p < s.1.length → CI w' ((s.1.set p (pth s.1 p).reverse, s.2.1, s.2.2.1, s.2.2.2)) (pushS sv s) g tx → frm w w' ccs → K (vi (hdL (pth s.1 p).reverse)) none w')
    (x1 : ¬ (0 ≤ z1 ∧ z1 < s.1.length) → X 1 none w) : Ev G yX11_reverse cX11_reverse 2 mX11_reverse none 7 1 6 [vr 1, vi z1] w K X := by
  refine Ev_intro mvX11_reverse.1 rfl (fun h => by cases h) (allc1 rfl) (Nat.le_of_ble_eq_true rfl) (Or.inl rfl) ?_
  show Go G cX11_reverse mX11_reverse none 7 1 6 0 [some (vr 1), some (vi z1)] [] w K X
  refine Go_ald0 dX11_reverse_0 ?_
  refine Go_ild1 dX11_reverse_1 ?_
  refine Go_cVv1 (d' := 6) (bc' := 1) (bs' := 6) rfl dX11_reverse_2 mvX11_checkPath rfl lkX11_106 (by first | assumption | rfl) rfl trivial (by decide) (by decide) (by decide) (Nat.le_of_ble_eq_true rfl) ?_
  refine e_X11_checkPath h.1.1.1 h1 (fun p e hp => ?_) x1
  subst e
  refine Go_ald0 dX11_reverse_5 ?_
  refine gf10_1 dX11_reverse_6 flX11_19 ?_
  refine Go_ald0 dX11_reverse_9 ?_
  refine gf10_0 dX11_reverse_10 flX11_12 ?_
  refine Go_cVv1 (d' := 3) (bc' := 0) (bs' := 0) rfl dX11_reverse_13 mvX1_save rfl lkX11_94 (by first | assumption | rfl) rfl trivial (by decide) (by decide) (by decide) (Nat.le_of_ble_eq_true rfl) ?_
  refine e_X1_save h.1 h.2.1 h.2.2.1 (fun w1 v1 f1 => ?_)
  refine Go_ald0 dX11_reverse_16 ?_
  refine gf10_0 dX11_reverse_17 flX11_12 ?_
  refine Go_ild1 dX11_reverse_20 ?_
  refine Go_cV1 (d' := 3) (bc' := 0) (bs' := 0) rfl dX11_reverse_21 mvX0_flip rfl lkX11_150 (by first | assumption | rfl) rfl trivial (by decide) (by decide) (by decide) (Nat.le_of_ble_eq_true rfl) ?_
  refine e_X0_flip (h.1.frm f1 hcs_16) h.2.1 hp (fun w2 b2 f2 => ?_)
  refine Go_ireturn dX11_reverse_24 rfl (by first | rfl | decide | exact nar_b | simp [narrow]) ?_
  have r := CI_op h v1 f1 b2 (h.2.1.rev hp) f2 bcs_ok
  exact k _ p rfl hp r.1 r.2
theorem e_X11_turn (h : CI w s sv g tx) (h1 : inR z1) (h2 : inR z2) (h3 : inR z3)
    (kt : ∀ w' (p j q : Nat), z1 = p → p < s.1.length → z2 = j → j < (pth s.1 p).length → z3 = q → 1 ≤ q → q ≤ 3 → whyT s.1 p j q = 0 → CI w' (turS s p j q) (pushS sv s) g tx → frm w w' ccs → K (vi 0) none w')
    (kf : ∀ w' (p j q : Nat), z1 = p → p < s.1.length → z2 = j → j < (pth s.1 p).length → z3 = q → 1 ≤ q → q ≤ 3 → whyT s.1 p j q ≠ 0 → CI w' ((s.1, s.2.1, s.2.2.1 + 1, s.2.2.2)) (pushS sv s) g tx → frm w w' ccs → K (vi (whyT s.1 p j q)) none w')
    (x1 : (∀ p j : Nat, z1 = p → p < s.1.length → z2 = j → ¬ j < (pth s.1 p).length) → X 1 none w) (x3 : ∀ p j : Nat, z1 = p → p < s.1.length → z2 = j → j < (pth s.1 p).length → ¬ (1 ≤ z3 ∧ z3 ≤ 3) → X 3 none w) : Ev G yX11_turn cX11_turn 5 mX11_turn none 8 3 18 [vr 1, vi z1, vi z2, vi z3] w K X := by
  refine Ev_intro mvX11_turn.1 rfl (fun h => by cases h) (allc1 rfl) (Nat.le_of_ble_eq_true rfl) (Or.inl rfl) ?_
  show Go G cX11_turn mX11_turn none 8 3 18 0 [some (vr 1), some (vi z1), some (vi z2), some (vi z3), none] [] w K X
  refine Go_ald0 dX11_turn_0 ?_
  refine Go_ild1 dX11_turn_1 ?_
  refine Go_ild2 dX11_turn_2 ?_
  refine Go_cVv2 (d' := 7) (bc' := 2) (bs' := 12) rfl dX11_turn_3 mvX11_checkPlace rfl lkX11_132 (by first | assumption | rfl) rfl trivial (by decide) (by decide) (by decide) (Nat.le_of_ble_eq_true rfl) ?_
  refine e_X11_checkPlace h.1.1.1 h1 h2 (fun p j e hp e2 hj => ?_) x1
  refine Go_ild3 dX11_turn_6 ?_
  refine Go_cSv1 (d' := 7) (bc' := 1) (bs' := 6) rfl dX11_turn_7 msX11_checkQuarters rfl lkX11_136 (by decide) (by decide) (by decide) (Nat.le_of_ble_eq_true rfl) ?_
  refine e_X11_checkQuarters h3 (fun q e3 q1 q3 => ?_) (x3 p j e hp e2 hj)
  subst e e2 e3
  refine Go_ald0 dX11_turn_10 ?_
  refine gf10_1 dX11_turn_11 flX11_19 ?_
  refine Go_ald0 dX11_turn_14 ?_
  refine gf10_0 dX11_turn_15 flX11_12 ?_
  refine Go_cVv1 (d' := 3) (bc' := 0) (bs' := 0) rfl dX11_turn_18 mvX1_save rfl lkX11_94 (by first | assumption | rfl) rfl trivial (by decide) (by decide) (by decide) (Nat.le_of_ble_eq_true rfl) ?_
  refine e_X1_save h.1 h.2.1 h.2.2.1 (fun w1 v1 f1 => ?_)
  have b1 := h.1.frm f1 hcs_16
  refine Go_ald0 dX11_turn_21 ?_
  refine gf10_5 dX11_turn_22 flX11_47 ?_
  refine Go_ald0 dX11_turn_25 ?_
  refine gf10_0 dX11_turn_26 flX11_12 ?_
  refine Go_ild1 dX11_turn_29 ?_
  refine Go_ild2 dX11_turn_30 ?_
  refine Go_ild3 dX11_turn_31 ?_
  refine Go_cV4 (d' := 3) (bc' := 0) (bs' := 0) rfl dX11_turn_32 mvX10_refusal rfl lkX11_139 (by first | assumption | rfl) rfl trivial (by decide) (by decide) (by decide) (Nat.le_of_ble_eq_true rfl) ?_
  refine e_X10_refusal b1.1 h.2.1 hp hj q3 (fun w2 l2 f2 => ?_)
  have bw := whyT_in s.1 p j q
  have b2 : BS w2 s := b1.frm f2 (by decide)
  refine Go_ist4 dX11_turn_35 rfl ?_
  refine Go_ald0 dX11_turn_37 ?_
  refine gf10_0 dX11_turn_38 flX11_12 ?_
  refine Go_ild4 dX11_turn_41 ?_
  refine Go_cVv1 (d' := 0) (bc' := 0) (bs' := 0) rfl dX11_turn_43 mvX0_noteTurn rfl lkX11_143 (by first | assumption | rfl) rfl trivial (by decide) (by decide) (by decide) (Nat.le_of_ble_eq_true rfl) ?_
  refine e_X0_noteTurn (by constructor <;> omega) ?_
  refine Go_ild4 dX11_turn_46 ?_
  by_cases q0 : whyT s.1 p j q = 0
  · rw [if_pos q0, q0]
    have b3 : BS (up w2 2 4 (w2 2 4 + 1)) (s.1, s.2.1, s.2.2.1, s.2.2.2 + 1) := ⟨b2.1.frm_cnt (by decide) (by decide), by rw [up_k (by decide)]; exact b2.2.1, by rw [up_k (by decide)]; exact b2.2.2.1, by rw [up_s, b2.2.2.2]⟩
    have l3 : lnd (up w2 2 4 (w2 2 4 + 1)) (pth s.1 p) j q := fun m m1 m2 => by rw [up_a (by decide)]; exact l2 q0 m m1 m2
    refine Go_if_ne (tgt := 64) dX11_turn_48 (by decide) (by constructor <;> omega) (fun h48 => by omega) (fun h48 => ?_)
    refine Go_ald0 dX11_turn_51 ?_
    refine gf10_5 dX11_turn_52 flX11_47 ?_
    refine Go_ald0 dX11_turn_55 ?_
    refine gf10_0 dX11_turn_56 flX11_12 ?_
    refine Go_ild1 dX11_turn_59 ?_
    refine Go_ild2 dX11_turn_60 ?_
    refine Go_cVv3 (d' := 3) (bc' := 0) (bs' := 0) rfl dX11_turn_61 mvX10_moveSites rfl lkX11_146 (by first | assumption | rfl) rfl trivial (by decide) (by decide) (by decide) (Nat.le_of_ble_eq_true rfl) ?_
    refine e_X10_moveSites (s := (s.1, s.2.1, s.2.2.1, s.2.2.2 + 1)) b3 h.2.1 hp hj q3 q0 l3 (fun w4 b4 f4 => ?_)
    refine Go_ild4 dX11_turn_64 ?_
    refine Go_ireturn dX11_turn_66 rfl (by first | rfl | decide | exact nar_b | simp [narrow]) ?_
    have r := CI_op (A := 50 :: bcs) h v1 f1 b4 (OKp_turn h.2.1 hp hj q3 q0) (((f2.mono (by decide)).up (by decide)).trans f4 (fun a ha => List.mem_cons_of_mem _ ha)) (by decide +kernel)
    exact kt _ p j q rfl hp rfl hj rfl q1 q3 q0 r.1 r.2
  · rw [if_neg q0]
    refine Go_if_ne (tgt := 64) dX11_turn_48 (by decide) (by constructor <;> omega) (fun h48 => ?_) (fun h48 => by omega)
    refine Go_ild4 dX11_turn_64 ?_
    refine Go_ireturn dX11_turn_66 rfl (by first | rfl | decide | exact nar_b | simp [narrow]) ?_
    have r := CI_op (A := [2, 50]) h v1 f1 (BS_ref b2) h.2.1 ((f2.mono (by decide)).up (by decide)) (by decide +kernel)
    exact kf _ p j q rfl hp rfl hj rfl q1 q3 q0 r.1 r.2
end Api
