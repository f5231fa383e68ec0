section Model7
variable {G : Gm} {w : Wd} {K : Kt} {X : Xt} {s : Sta} {sv : List Sta} {g : Nat → Option Sta} {tx : List Nat} {z z1 z2 z3 : Int} {p o q k0 n : Nat} {l : List Nat}
theorem e_X12_site (h : MInv w s sv g tx) (h1 : inR z1) (h2 : inR z2) (h3 : inR z3)
    (k : ∀ w' (x : Nat), numI z1 z2 = x → x < 100 → 0 ≤ z3 → z3 ≤ 2 → MX w w' 0 s sv g tx → K (vi (if z3 = 0 then ow s.1 x else if z3 = 1 then plc s.1 x else (frD s.1 x : Int))) none w')
    (x1 : ∀ w', numI z1 z2 = -1 → MX w w' 1 s sv g tx → K (vi 0) none w') (x2 : ∀ w', numI z1 z2 ≠ -1 → ¬ (0 ≤ z3 ∧ z3 ≤ 2) → MX w w' 2 s sv g tx → K (vi 0) none w') : Ev G yX12_site cX12_site 5 mX12_site none 3 0 0 [vr 68, vi z1, vi z2, vi z3] w K X := by
  have hm := thr0.MInv h
  have h5 := h.1.1.1
  obtain ⟨a1, a2⟩ := id h1
  obtain ⟨b1, b2⟩ := id h2
  refine Ev_intro mvX12_site.1 rfl (fun h => by cases h) (allc1 rfl) (Nat.le_of_ble_eq_true rfl) (Or.inl rfl) ?_
  show Go G cX12_site mX12_site none 3 0 0 0 [some (vr 68), some (vi z1), some (vi z2), some (vi z3), none] [] w K X
  by_cases c : 0 ≤ z1 ∧ z1 < 10 ∧ 0 ≤ z2 ∧ z2 < 10
  case neg =>
    have en : numI z1 z2 = -1 := by unfold numI; rw [if_neg c]
    refine Go_ald0 dX12_site_0 ?_
    refine Go_iconst dX12_site_1 ?_
    refine pf11_0 dX12_site_2 flX12_59 (by first | assumption | rfl) ?_
    refine Go_ild1 dX12_site_5 ?_
    refine Go_iconst dX12_site_6 ?_
    refine Go_bipush dX12_site_7 (by decide +kernel) ?_
    refine Go_cS3 (d' := 0) (bc' := 0) (bs' := 0) rfl dX12_site_9 msX12_within rfl lkX12_62 (by decide) (by decide) (by decide) (Nat.le_of_ble_eq_true rfl) ?_
    refine e_X12_within h1 (by constructor <;> omega) (by constructor <;> omega) ?_
    refine Go_ifb_eq (tgt := 25) dX12_site_12 (by decide)  (fun h12 => ?_) (fun h12 => ?_)
    · refine Go_ald0 dX12_site_25 ?_
      refine Go_iconst dX12_site_26 ?_
      refine Go_cV1 (d' := 0) (bc' := 0) (bs' := 0) rfl dX12_site_27 mvX12_fails rfl lkX12_78 (by first | assumption | rfl) rfl trivial (by decide) (by decide) (by decide) (Nat.le_of_ble_eq_true rfl) ?_
      refine e_X12_fails ?_
      refine Go_ireturn dX12_site_30 rfl (by first | rfl | decide | exact nar_b | simp [narrow]) ?_
      exact x1 _ en (MX_fail h)
    · refine Go_ild2 dX12_site_15 ?_
      refine Go_iconst dX12_site_16 ?_
      refine Go_bipush dX12_site_17 (by decide +kernel) ?_
      refine Go_cS3 (d' := 0) (bc' := 0) (bs' := 0) rfl dX12_site_19 msX12_within rfl lkX12_62 (by decide) (by decide) (by decide) (Nat.le_of_ble_eq_true rfl) ?_
      refine e_X12_within h2 (by constructor <;> omega) (by constructor <;> omega) ?_
      refine Go_ifb_ne (tgt := 31) dX12_site_22 (by decide)  (fun h22 => by exact absurd ⟨by omega, by omega, by omega, by omega⟩ c) (fun h22 => ?_)
      refine Go_ald0 dX12_site_25 ?_
      refine Go_iconst dX12_site_26 ?_
      refine Go_cV1 (d' := 0) (bc' := 0) (bs' := 0) rfl dX12_site_27 mvX12_fails rfl lkX12_78 (by first | assumption | rfl) rfl trivial (by decide) (by decide) (by decide) (Nat.le_of_ble_eq_true rfl) ?_
      refine e_X12_fails ?_
      refine Go_ireturn dX12_site_30 rfl (by first | rfl | decide | exact nar_b | simp [narrow]) ?_
      exact x1 _ en (MX_fail h)
  have en : numI z1 z2 = ((10 * z2 + z1).toNat : Int) := by unfold numI; rw [if_pos c]; omega
  have hx : (10 * z2 + z1).toNat < 100 := by omega
  by_cases c3 : 0 ≤ z3 ∧ z3 ≤ 2
  case neg =>
    refine Go_ald0 dX12_site_0 ?_
    refine Go_iconst dX12_site_1 ?_
    refine pf11_0 dX12_site_2 flX12_59 (by first | assumption | rfl) ?_
    refine Go_ild1 dX12_site_5 ?_
    refine Go_iconst dX12_site_6 ?_
    refine Go_bipush dX12_site_7 (by decide +kernel) ?_
    refine Go_cS3 (d' := 0) (bc' := 0) (bs' := 0) rfl dX12_site_9 msX12_within rfl lkX12_62 (by decide) (by decide) (by decide) (Nat.le_of_ble_eq_true rfl) ?_
    refine e_X12_within h1 (by constructor <;> omega) (by constructor <;> omega) ?_
    refine Go_ifb_eq (tgt := 25) dX12_site_12 (by decide)  (fun h12 => by exact absurd ⟨c.1, by omega⟩ h12) (fun h12 => ?_)
    refine Go_ild2 dX12_site_15 ?_
    refine Go_iconst dX12_site_16 ?_
    refine Go_bipush dX12_site_17 (by decide +kernel) ?_
    refine Go_cS3 (d' := 0) (bc' := 0) (bs' := 0) rfl dX12_site_19 msX12_within rfl lkX12_62 (by decide) (by decide) (by decide) (Nat.le_of_ble_eq_true rfl) ?_
    refine e_X12_within h2 (by constructor <;> omega) (by constructor <;> omega) ?_
    refine Go_ifb_ne (tgt := 31) dX12_site_22 (by decide)  (fun h22 => ?_) (fun h22 => by exact absurd ⟨c.2.2.1, by omega⟩ h22)
    refine Go_ild3 dX12_site_31 ?_
    refine Go_iconst dX12_site_32 ?_
    refine Go_iconst dX12_site_33 ?_
    refine Go_cS3 (d' := 0) (bc' := 0) (bs' := 0) rfl dX12_site_34 msX12_within rfl lkX12_62 (by decide) (by decide) (by decide) (Nat.le_of_ble_eq_true rfl) ?_
    refine e_X12_within h3 (by constructor <;> omega) (by constructor <;> omega) ?_
    refine Go_ifb_ne (tgt := 46) dX12_site_37 (by decide)  (fun h37 => by exact absurd h37 c3) (fun h37 => ?_)
    refine Go_ald0 dX12_site_40 ?_
    refine Go_iconst dX12_site_41 ?_
    refine Go_cV1 (d' := 0) (bc' := 0) (bs' := 0) rfl dX12_site_42 mvX12_fails rfl lkX12_78 (by first | assumption | rfl) rfl trivial (by decide) (by decide) (by decide) (Nat.le_of_ble_eq_true rfl) ?_
    refine e_X12_fails ?_
    refine Go_ireturn dX12_site_45 rfl (by first | rfl | decide | exact nar_b | simp [narrow]) ?_
    exact x2 _ (by omega) c3 (MX_fail h)
  refine Go_ald0 dX12_site_0 ?_
  refine Go_iconst dX12_site_1 ?_
  refine pf11_0 dX12_site_2 flX12_59 (by first | assumption | rfl) ?_
  refine Go_ild1 dX12_site_5 ?_
  refine Go_iconst dX12_site_6 ?_
  refine Go_bipush dX12_site_7 (by decide +kernel) ?_
  refine Go_cS3 (d' := 0) (bc' := 0) (bs' := 0) rfl dX12_site_9 msX12_within rfl lkX12_62 (by decide) (by decide) (by decide) (Nat.le_of_ble_eq_true rfl) ?_
  refine e_X12_within h1 (by constructor <;> omega) (by constructor <;> omega) ?_
  refine Go_ifb_eq (tgt := 25) dX12_site_12 (by decide)  (fun h12 => by exact absurd ⟨c.1, by omega⟩ h12) (fun h12 => ?_)
  refine Go_ild2 dX12_site_15 ?_
  refine Go_iconst dX12_site_16 ?_
  refine Go_bipush dX12_site_17 (by decide +kernel) ?_
  refine Go_cS3 (d' := 0) (bc' := 0) (bs' := 0) rfl dX12_site_19 msX12_within rfl lkX12_62 (by decide) (by decide) (by decide) (Nat.le_of_ble_eq_true rfl) ?_
  refine e_X12_within h2 (by constructor <;> omega) (by constructor <;> omega) ?_
  refine Go_ifb_ne (tgt := 31) dX12_site_22 (by decide)  (fun h22 => ?_) (fun h22 => by exact absurd ⟨c.2.2.1, by omega⟩ h22)
  refine Go_ild3 dX12_site_31 ?_
  refine Go_iconst dX12_site_32 ?_
  refine Go_iconst dX12_site_33 ?_
  refine Go_cS3 (d' := 0) (bc' := 0) (bs' := 0) rfl dX12_site_34 msX12_within rfl lkX12_62 (by decide) (by decide) (by decide) (Nat.le_of_ble_eq_true rfl) ?_
  refine e_X12_within h3 (by constructor <;> omega) (by constructor <;> omega) ?_
  refine Go_ifb_ne (tgt := 46) dX12_site_37 (by decide)  (fun h37 => ?_) (fun h37 => by exact absurd c3 h37)
  refine Go_ald0 dX12_site_46 ?_
  refine Go_cVv0 (d' := 1) (bc' := 0) (bs' := 0) rfl dX12_site_47 mvX12_lay rfl lkX12_114 (by first | assumption | rfl) rfl trivial (by decide) (by decide) (by decide) (Nat.le_of_ble_eq_true rfl) ?_
  refine e_X12_lay hm.1 (fun w1 m1 f1 => ?_)
  have o := mq_lay (s := s) (sv := sv) (g := g) (tx := tx) f1
  have k := k w1 _ en hx c3.1 c3.2 (MX_q h o.1 o.2)
  refine Go_bipush dX12_site_50 (by decide +kernel) ?_
  refine Go_ild2 dX12_site_52 ?_
  refine Go_imul dX12_site_53 ?_
  refine Go_ild1 dX12_site_54 ?_
  refine Go_iadd dX12_site_55 ?_
  rw [show 10 * z2 + z1 = (((10 * z2 + z1).toNat : Nat) : Int) by omega]
  refine Go_ist4 dX12_site_56 rfl ?_
  refine Go_ild3 dX12_site_58 ?_
  refine Go_if_ne (tgt := 72) dX12_site_59 (by decide) (by constructor <;> omega) (fun h59 => ?_) (fun h59 => ?_)
  · refine Go_ild3 dX12_site_72 ?_
    refine Go_iconst dX12_site_73 ?_
    refine Go_icmp_ne (tgt := 87) dX12_site_74 (by decide) (by constructor <;> omega) (by constructor <;> omega) (fun h74 => ?_) (fun h74 => ?_)
    · refine Go_ald0 dX12_site_87 ?_
      refine Go_ild4 dX12_site_88 ?_
      refine Go_cV1 (d' := 2) (bc' := 0) (bs' := 0) rfl dX12_site_90 mvX12_freeAround rfl lkX12_165 (by first | assumption | rfl) rfl trivial (by decide) (by decide) (by decide) (Nat.le_of_ble_eq_true rfl) ?_
      refine e_X12_freeAround m1 h5 hx ?_
      refine Go_ireturn dX12_site_93 rfl (by first | rfl | decide | exact nar_b | simp [narrow]) ?_
      first | (rw [if_pos h59] at k; refine kI ?_ k; rw [Int.toNat_natCast]; exact (m1 _ hx).1) | (rw [if_neg h59, if_pos h74] at k; refine kI ?_ k; rw [Int.toNat_natCast]; exact (m1 _ hx).2) | (rw [if_neg h59, if_neg h74] at k; exact k)
    · refine Go_ald0 dX12_site_77 ?_
      refine gf11_9 dX12_site_78 flX12_28 ?_
      refine Go_ild4 dX12_site_81 ?_
      refine Go_iald dX12_site_83 (by first | assumption | rfl) trivial (by omega) (by omega) (by decide) ?_
      refine Go_goto (tgt := 93) dX12_site_84 (by decide) ?_
      refine Go_ireturn dX12_site_93 rfl (by first | rfl | decide | exact nar_b | simp [narrow]) ?_
      first | (rw [if_pos h59] at k; refine kI ?_ k; rw [Int.toNat_natCast]; exact (m1 _ hx).1) | (rw [if_neg h59, if_pos h74] at k; refine kI ?_ k; rw [Int.toNat_natCast]; exact (m1 _ hx).2) | (rw [if_neg h59, if_neg h74] at k; exact k)
  · refine Go_ald0 dX12_site_62 ?_
    refine gf11_8 dX12_site_63 flX12_25 ?_
    refine Go_ild4 dX12_site_66 ?_
    refine Go_iald dX12_site_68 (by first | assumption | rfl) trivial (by omega) (by omega) (by decide) ?_
    refine Go_goto (tgt := 93) dX12_site_69 (by decide) ?_
    refine Go_ireturn dX12_site_93 rfl (by first | rfl | decide | exact nar_b | simp [narrow]) ?_
    first | (rw [if_pos h59] at k; refine kI ?_ k; rw [Int.toNat_natCast]; exact (m1 _ hx).1) | (rw [if_neg h59, if_pos h74] at k; refine kI ?_ k; rw [Int.toNat_natCast]; exact (m1 _ hx).2) | (rw [if_neg h59, if_neg h74] at k; exact k)
theorem e_X12_place (h : MInv w s sv g tx) (h1 : inR z1) (h2 : inR z2)
    (k : ∀ w' (p : Nat), z1 = p → p < s.1.length → MX w w' 0 s sv g tx → K (vi (atI (pth s.1 p) z2)) none w')
    (x1 : ∀ w', ¬ (0 ≤ z1 ∧ z1 < s.1.length) → MX w w' 1 s sv g tx → K (vi 0) none w') : Ev G yX12_place cX12_place 3 mX12_place none 3 0 0 [vr 68, vi z1, vi z2] w K X := by
  have hm := thr0.MInv h
  refine Ev_intro mvX12_place.1 rfl (fun h => by cases h) (allc1 rfl) (Nat.le_of_ble_eq_true rfl) (Or.inl rfl) ?_
  show Go G cX12_place mX12_place none 3 0 0 0 [some (vr 68), some (vi z1), some (vi z2)] [] w K X
  by_cases c : 0 ≤ z1 ∧ z1 < s.1.length
  case neg =>
    refine Go_ald0 dX12_place_0 ?_
    refine Go_iconst dX12_place_1 ?_
    refine pf11_0 dX12_place_2 flX12_59 (by first | assumption | rfl) ?_
    refine Go_ald0 dX12_place_5 ?_
    refine Go_ild1 dX12_place_6 ?_
    refine Go_cV1 (d' := 1) (bc' := 0) (bs' := 0) rfl dX12_place_7 mvX12_isPath rfl lkX12_66 (by first | assumption | rfl) rfl trivial (by decide) (by decide) (by decide) (Nat.le_of_ble_eq_true rfl) ?_
    refine e_X12_isPath hm.1 h1 ?_
    refine Go_ifb_ne (tgt := 19) dX12_place_10 (by decide)  (fun h10 => by exact absurd h10 c) (fun h10 => ?_)
    refine Go_ald0 dX12_place_13 ?_
    refine Go_iconst dX12_place_14 ?_
    refine Go_cV1 (d' := 0) (bc' := 0) (bs' := 0) rfl dX12_place_15 mvX12_fails rfl lkX12_78 (by first | assumption | rfl) rfl trivial (by decide) (by decide) (by decide) (Nat.le_of_ble_eq_true rfl) ?_
    refine e_X12_fails ?_
    refine Go_ireturn dX12_place_18 rfl (by first | rfl | decide | exact nar_b | simp [narrow]) ?_
    exact x1 _ c (MX_fail h)
  obtain ⟨p, rfl⟩ := Int.eq_ofNat_of_zero_le c.1
  have hp : p < s.1.length := by omega
  have kk := k _ p rfl hp (MX_q h thr0 up_s)
  refine Go_ald0 dX12_place_0 ?_
  refine Go_iconst dX12_place_1 ?_
  refine pf11_0 dX12_place_2 flX12_59 (by first | assumption | rfl) ?_
  refine Go_ald0 dX12_place_5 ?_
  refine Go_ild1 dX12_place_6 ?_
  refine Go_cV1 (d' := 1) (bc' := 0) (bs' := 0) rfl dX12_place_7 mvX12_isPath rfl lkX12_66 (by first | assumption | rfl) rfl trivial (by decide) (by decide) (by decide) (Nat.le_of_ble_eq_true rfl) ?_
  refine e_X12_isPath hm.1 h1 ?_
  refine Go_ifb_ne (tgt := 19) dX12_place_10 (by decide)  (fun h10 => ?_) (fun h10 => by exact absurd c h10)
  refine Go_ald0 dX12_place_19 ?_
  refine Go_ild1 dX12_place_20 ?_
  refine Go_ild2 dX12_place_21 ?_
  refine Go_cV2 (d' := 2) (bc' := 0) (bs' := 0) rfl dX12_place_22 mvX12_isSite rfl lkX12_131 (by first | assumption | rfl) rfl trivial (by decide) (by decide) (by decide) (Nat.le_of_ble_eq_true rfl) ?_
  refine e_X12_isSite hm.1 h1 h2 (fun p' j e hp' e2 hj => ?_) (fun q => ?_)
  · have e3 : p = p' := by omega
    subst e3 e2
    refine Go_if_eq (tgt := 37) dX12_place_25 (by decide) (by constructor <;> omega) (fun h25 => by omega) (fun h25 => ?_)
    refine Go_ald0 dX12_place_28 ?_
    refine Go_ild1 dX12_place_29 ?_
    refine Go_ild2 dX12_place_30 ?_
    refine Go_cV2 (d' := 0) (bc' := 0) (bs' := 0) rfl dX12_place_31 mvX12_siteOf rfl lkX12_74 (by first | assumption | rfl) rfl trivial (by decide) (by decide) (by decide) (Nat.le_of_ble_eq_true rfl) ?_
    refine e_X12_siteOf (k0 := j) hm.1 hp rfl hj ?_
    refine Go_goto (tgt := 38) dX12_place_34 (by decide) ?_
    refine Go_ireturn dX12_place_38 rfl (by first | rfl | decide | exact nar_b | simp [narrow]) ?_
    exact kI (atI_nat rfl hj).symm kk
  · skip
    refine Go_if_eq (tgt := 37) dX12_place_25 (by decide) (by constructor <;> omega) (fun h25 => ?_) (fun h25 => by omega)
    refine Go_iconst dX12_place_37 ?_
    refine Go_ireturn dX12_place_38 rfl (by first | rfl | decide | exact nar_b | simp [narrow]) ?_
    refine kI ?_ kk
    unfold atI
    rw [if_neg]
    intro x
    exact q p z2.toNat rfl hp (by omega) (by omega)
theorem e_X12_stepOf (h : ST w 69 0 s) (hp : p < s.1.length) (hz : z = (k0 : Int)) (hk : k0 + 1 < (pth s.1 p).length) (k : K (vi (stJ (pth s.1 p) k0)) none w) : Ev G yX12_stepOf cX12_stepOf 3 mX12_stepOf none 3 0 0 [vr 68, vi (p : Int), vi z] w K X := by
  have hx := h.1.lt p
  have b0 := hx.at k0
  have b1 := hx.at (k0 + 1)
  have est : dmI ((pth s.1 p).getD k0 0) ((pth s.1 p).getD (k0 + 1) 0) = stJ (pth s.1 p) k0 := dmI_dir (h.1.adj hp k0 hk)
  refine Ev_intro mvX12_stepOf.1 rfl (fun h => by cases h) (allc1 rfl) (Nat.le_of_ble_eq_true rfl) (Or.inl rfl) ?_
  show Go G cX12_stepOf mX12_stepOf none 3 0 0 0 [some (vr 68), some (vi (p : Int)), some (vi z)] [] w K X
  refine Go_ald0 dX12_stepOf_0 ?_
  refine Go_ild1 dX12_stepOf_1 ?_
  refine Go_ild2 dX12_stepOf_2 ?_
  refine Go_cV2 (d' := 0) (bc' := 0) (bs' := 0) rfl dX12_stepOf_3 mvX12_siteOf rfl lkX12_74 (by first | assumption | rfl) rfl trivial (by decide) (by decide) (by decide) (Nat.le_of_ble_eq_true rfl) ?_
  refine e_X12_siteOf (k0 := k0) h hp hz (by omega) ?_
  refine Go_ald0 dX12_stepOf_6 ?_
  refine Go_ild1 dX12_stepOf_7 ?_
  refine Go_ild2 dX12_stepOf_8 ?_
  refine Go_iconst dX12_stepOf_9 ?_
  refine Go_iadd dX12_stepOf_10 ?_
  refine Go_cV2 (d' := 0) (bc' := 0) (bs' := 0) rfl dX12_stepOf_11 mvX12_siteOf rfl lkX12_74 (by first | assumption | rfl) rfl trivial (by decide) (by decide) (by decide) (Nat.le_of_ble_eq_true rfl) ?_
  refine e_X12_siteOf (k0 := k0 + 1) h hp (by omega) hk ?_
  refine Go_cS2 (d' := 2) (bc' := 0) (bs' := 0) rfl dX12_stepOf_14 msX12_direction rfl lkX12_140 (by decide) (by decide) (by decide) (Nat.le_of_ble_eq_true rfl) ?_
  refine e_X12_direction (by omega) (by omega) (by constructor <;> omega) ?_
  rw [est]
  refine Go_ireturn dX12_stepOf_17 rfl (by first | rfl | decide | exact nar_b | simp [narrow]) ?_
  exact k
theorem e_X12_corners (h : ST w 69 0 s) (hp : p < s.1.length) (k : K (vi (cornL (pth s.1 p))) none w) : Ev G yX12_corners cX12_corners 4 mX12_corners none 4 0 0 [vr 68, vi (p : Int)] w K X := by
  have hl := h.1.len hp
  unfold cornL at k
  refine Ev_intro mvX12_corners.1 rfl (fun h => by cases h) (allc1 rfl) (Nat.le_of_ble_eq_true rfl) (Or.inl rfl) ?_
  show Go G cX12_corners mX12_corners none 4 0 0 0 [some (vr 68), some (vi (p : Int)), none, none] [] w K X
  by_cases q1 : (pth s.1 p).length = 1
  · rw [q1] at k
    refine Go_iconst dX12_corners_0 ?_
    refine Go_ist2 dX12_corners_1 rfl ?_
    refine Go_iconst dX12_corners_2 ?_
    refine Go_ist3 dX12_corners_3 rfl ?_
    refine Go_ild3 dX12_corners_4 ?_
    refine Go_ald0 dX12_corners_5 ?_
    refine Go_ild1 dX12_corners_6 ?_
    refine Go_cV1 (d' := 0) (bc' := 0) (bs' := 0) rfl dX12_corners_7 mvX12_lengthOf rfl lkX12_70 (by first | assumption | rfl) rfl trivial (by decide) (by decide) (by decide) (Nat.le_of_ble_eq_true rfl) ?_
    refine e_X12_lengthOf h hp ?_
    refine Go_iconst dX12_corners_10 ?_
    refine Go_isub dX12_corners_11 ?_
    refine Go_icmp_ge (tgt := 46) dX12_corners_12 (by decide) (by constructor <;> omega) (by constructor <;> omega) (fun h12 => ?_) (fun h12 => by omega)
    refine Go_ild2 dX12_corners_46 ?_
    refine Go_ireturn dX12_corners_47 rfl (by first | rfl | decide | exact nar_b | simp [narrow]) ?_
    exact k
  refine Go_iconst dX12_corners_0 ?_
  refine Go_ist2 dX12_corners_1 rfl ?_
  refine Go_iconst dX12_corners_2 ?_
  refine Go_ist3 dX12_corners_3 rfl ?_
  refine Go_upTo (n := (pth s.1 p).length - 2) (L := fun i => [some (vr 68), some (vi (p : Int)), some (vi (smF (cornF (pth s.1 p)) (i + 1))), some (vi ((i : Int) + 1))]) (P := fun i v => v = w) (by repeat' (first | exact Or.inl rfl | exact Or.inr rfl | exact Or.inr (lcg (by omega)) | exact trivial | constructor)) (rfl) (fun i v hi hP kn => ?_) (fun v hP => ?_)
  · try dsimp only at hP kn
    try dsimp only
    subst hP
    have hs : smF (cornF (pth s.1 p)) (i + 2) = smF (cornF (pth s.1 p)) (i + 1) + (if stJ (pth s.1 p) (i + 1) = stJ (pth s.1 p) i then 0 else 1) := by
      show _ + (if 1 ≤ i + 1 ∧ stJ (pth s.1 p) (i + 1) ≠ stJ (pth s.1 p) i then (1 : Int) else 0) = _
      by_cases c : stJ (pth s.1 p) (i + 1) = stJ (pth s.1 p) i
      · rw [if_pos c, if_neg (fun x => x.2 c)]
      · rw [if_neg c, if_pos ⟨by omega, c⟩]
    have b1 := stJ_in (pth s.1 p) (i + 1)
    have b2 := stJ_in (pth s.1 p) i
    refine Go_ild3 dX12_corners_4 ?_
    refine Go_ald0 dX12_corners_5 ?_
    refine Go_ild1 dX12_corners_6 ?_
    refine Go_cV1 (d' := 0) (bc' := 0) (bs' := 0) rfl dX12_corners_7 mvX12_lengthOf rfl lkX12_70 (by first | assumption | rfl) rfl trivial (by decide) (by decide) (by decide) (Nat.le_of_ble_eq_true rfl) ?_
    refine e_X12_lengthOf h hp ?_
    refine Go_iconst dX12_corners_10 ?_
    refine Go_isub dX12_corners_11 ?_
    refine Go_icmp_ge (tgt := 46) dX12_corners_12 (by decide) (by constructor <;> omega) (by constructor <;> omega) (fun h12 => by omega) (fun h12 => ?_)
    refine Go_ild2 dX12_corners_15 ?_
    refine Go_ald0 dX12_corners_16 ?_
    refine Go_ild1 dX12_corners_17 ?_
    refine Go_ild3 dX12_corners_18 ?_
    refine Go_cV2 (d' := 3) (bc' := 0) (bs' := 0) rfl dX12_corners_19 mvX12_stepOf rfl lkX12_168 (by first | assumption | rfl) rfl trivial (by decide) (by decide) (by decide) (Nat.le_of_ble_eq_true rfl) ?_
    refine e_X12_stepOf (k0 := i + 1) h hp (by omega) (by omega) ?_
    refine Go_ald0 dX12_corners_22 ?_
    refine Go_ild1 dX12_corners_23 ?_
    refine Go_ild3 dX12_corners_24 ?_
    refine Go_iconst dX12_corners_25 ?_
    refine Go_isub dX12_corners_26 ?_
    refine Go_cV2 (d' := 3) (bc' := 0) (bs' := 0) rfl dX12_corners_27 mvX12_stepOf rfl lkX12_168 (by first | assumption | rfl) rfl trivial (by decide) (by decide) (by decide) (Nat.le_of_ble_eq_true rfl) ?_
    refine e_X12_stepOf (k0 := i) h hp (by omega) (by omega) ?_
    refine Go_icmp_eq (tgt := 37) dX12_corners_30 (by decide) (by constructor <;> omega) (by constructor <;> omega) (fun h30 => ?_) (fun h30 => ?_)
    · refine Go_iconst dX12_corners_37 ?_
      refine Go_iadd dX12_corners_38 ?_
      refine Go_ist2 dX12_corners_39 rfl ?_
      refine Go_inc3 dX12_corners_40 rfl ?_
      refine Go_goto (tgt := 4) dX12_corners_43 (by decide) ?_
      refine Go_forget (ls' := _) ?_ (kn _ rfl)
      first | rw [if_pos h30] at hs | rw [if_neg h30] at hs
      rw [show i + 1 + 1 = i + 2 from rfl, hs]
      exact (by repeat' (first | exact Or.inl rfl | exact Or.inr rfl | exact Or.inr (lcg (by omega)) | exact trivial | constructor))
    · refine Go_iconst dX12_corners_33 ?_
      refine Go_goto (tgt := 38) dX12_corners_34 (by decide) ?_
      refine Go_iadd dX12_corners_38 ?_
      refine Go_ist2 dX12_corners_39 rfl ?_
      refine Go_inc3 dX12_corners_40 rfl ?_
      refine Go_goto (tgt := 4) dX12_corners_43 (by decide) ?_
      refine Go_forget (ls' := _) ?_ (kn _ rfl)
      first | rw [if_pos h30] at hs | rw [if_neg h30] at hs
      rw [show i + 1 + 1 = i + 2 from rfl, hs]
      exact (by repeat' (first | exact Or.inl rfl | exact Or.inr rfl | exact Or.inr (lcg (by omega)) | exact trivial | constructor))
  · try dsimp only at hP
    try dsimp only
    subst hP
    refine Go_ild3 dX12_corners_4 ?_
    refine Go_ald0 dX12_corners_5 ?_
    refine Go_ild1 dX12_corners_6 ?_
    refine Go_cV1 (d' := 0) (bc' := 0) (bs' := 0) rfl dX12_corners_7 mvX12_lengthOf rfl lkX12_70 (by first | assumption | rfl) rfl trivial (by decide) (by decide) (by decide) (Nat.le_of_ble_eq_true rfl) ?_
    refine e_X12_lengthOf h hp ?_
    refine Go_iconst dX12_corners_10 ?_
    refine Go_isub dX12_corners_11 ?_
    refine Go_icmp_ge (tgt := 46) dX12_corners_12 (by decide) (by constructor <;> omega) (by constructor <;> omega) (fun h12 => ?_) (fun h12 => by omega)
    refine Go_ild2 dX12_corners_46 ?_
    refine Go_ireturn dX12_corners_47 rfl (by first | rfl | decide | exact nar_b | simp [narrow]) ?_
    rw [show (pth s.1 p).length - 1 = (pth s.1 p).length - 2 + 1 by omega] at k
    exact k
theorem e_X12_contacts (h : ST w 69 0 s) (hp : p < s.1.length) (k : K (vi (cnC s.1 p)) none w) : Ev G yX12_contacts cX12_contacts 5 mX12_contacts none 3 0 0 [vr 68, vi (p : Int)] w K X := by
  have hl := h.1.len hp
  have hx := h.1.lt p
  rw [cnC_cnt h.1] at k
  refine Ev_intro mvX12_contacts.1 rfl (fun h => by cases h) (allc1 rfl) (Nat.le_of_ble_eq_true rfl) (Or.inl rfl) ?_
  show Go G cX12_contacts mX12_contacts none 3 0 0 0 [some (vr 68), some (vi (p : Int)), none, none, none] [] w K X
  refine Go_iconst dX12_contacts_0 ?_
  refine Go_ist2 dX12_contacts_1 rfl ?_
  refine Go_iconst dX12_contacts_2 ?_
  refine Go_ist3 dX12_contacts_3 rfl ?_
  refine Go_upTo (n := (pth s.1 p).length) (L := fun i => [some (vr 68), some (vi (p : Int)), some (vi (smF (fun k => smF (fun i => if dmI ((pth s.1 p).getD k 0) ((pth s.1 p).getD (k + 2 + i) 0) ≠ -1 then 1 else 0) ((pth s.1 p).length - (k + 2))) i)), some (vi (i : Int)), none]) (P := fun i v => v = w) (by repeat' (first | exact Or.inl rfl | exact Or.inr rfl | exact Or.inr (lcg (by omega)) | exact trivial | constructor)) (rfl) (fun i v hi hP kn => ?_) (fun v hP => ?_)
  · try dsimp only at hP kn
    try dsimp only
    subst hP
    have e : smF (fun k => smF (fun i => if dmI ((pth s.1 p).getD k 0) ((pth s.1 p).getD (k + 2 + i) 0) ≠ -1 then (1 : Int) else 0) ((pth s.1 p).length - (k + 2))) (i + 1) = smF (fun k => smF (fun i => if dmI ((pth s.1 p).getD k 0) ((pth s.1 p).getD (k + 2 + i) 0) ≠ -1 then (1 : Int) else 0) ((pth s.1 p).length - (k + 2))) i + smF (fun j => if dmI ((pth s.1 p).getD i 0) ((pth s.1 p).getD (i + 2 + j) 0) ≠ -1 then (1 : Int) else 0) ((pth s.1 p).length - (i + 2)) := rfl
    have z0 : smF (fun j => if dmI ((pth s.1 p).getD i 0) ((pth s.1 p).getD (i + 2 + j) 0) ≠ -1 then (1 : Int) else 0) 0 = 0 := rfl
    have bi := hx.at i
    refine Go_ild3 dX12_contacts_4 ?_
    refine Go_ald0 dX12_contacts_5 ?_
    refine Go_ild1 dX12_contacts_6 ?_
    refine Go_cV1 (d' := 0) (bc' := 0) (bs' := 0) rfl dX12_contacts_7 mvX12_lengthOf rfl lkX12_70 (by first | assumption | rfl) rfl trivial (by decide) (by decide) (by decide) (Nat.le_of_ble_eq_true rfl) ?_
    refine e_X12_lengthOf h hp ?_
    refine Go_icmp_ge (tgt := 68) dX12_contacts_10 (by decide) (by constructor <;> omega) (by constructor <;> omega) (fun h10 => by omega) (fun h10 => ?_)
    refine Go_ild3 dX12_contacts_13 ?_
    refine Go_iconst dX12_contacts_14 ?_
    refine Go_iadd dX12_contacts_15 ?_
    refine Go_ist4 dX12_contacts_16 rfl ?_
    refine Go_upTo (n := (pth s.1 p).length - (i + 2)) (L := fun i2 => [some (vr 68), some (vi (p : Int)), some (vi (smF (fun k => smF (fun i => if dmI ((pth s.1 p).getD k 0) ((pth s.1 p).getD (k + 2 + i) 0) ≠ -1 then 1 else 0) ((pth s.1 p).length - (k + 2))) i + smF (fun j => if dmI ((pth s.1 p).getD i 0) ((pth s.1 p).getD (i + 2 + j) 0) ≠ -1 then 1 else 0) i2)), some (vi (i : Int)), some (vi ((i : Int) + 2 + i2))]) (P := fun i2 v2 => v2 = v) (by repeat' (first | exact Or.inl rfl | exact Or.inr rfl | exact Or.inr (lcg (by omega)) | exact trivial | constructor)) (rfl) (fun i2 v2 hi2 hP2 kn2 => ?_) (fun v2 hP2 => ?_)
    · try dsimp only at hP2 kn2
      try dsimp only
      subst hP2
      have be := hx.at (i + 2 + i2)
      have bd := dmI_in ((pth s.1 p).getD i 0) ((pth s.1 p).getD (i + 2 + i2) 0)
      have e2 : smF (fun j => if dmI ((pth s.1 p).getD i 0) ((pth s.1 p).getD (i + 2 + j) 0) ≠ -1 then (1 : Int) else 0) (i2 + 1) = smF (fun j => if dmI ((pth s.1 p).getD i 0) ((pth s.1 p).getD (i + 2 + j) 0) ≠ -1 then (1 : Int) else 0) i2 + (if dmI ((pth s.1 p).getD i 0) ((pth s.1 p).getD (i + 2 + i2) 0) ≠ -1 then 1 else 0) := rfl
      refine Go_ild4 dX12_contacts_18 ?_
      refine Go_ald0 dX12_contacts_20 ?_
      refine Go_ild1 dX12_contacts_21 ?_
      refine Go_cV1 (d' := 0) (bc' := 0) (bs' := 0) rfl dX12_contacts_22 mvX12_lengthOf rfl lkX12_70 (by first | assumption | rfl) rfl trivial (by decide) (by decide) (by decide) (Nat.le_of_ble_eq_true rfl) ?_
      refine e_X12_lengthOf h hp ?_
      refine Go_icmp_ge (tgt := 62) dX12_contacts_25 (by decide) (by constructor <;> omega) (by constructor <;> omega) (fun h25 => by omega) (fun h25 => ?_)
      refine Go_ild2 dX12_contacts_28 ?_
      refine Go_ald0 dX12_contacts_29 ?_
      refine Go_ild1 dX12_contacts_30 ?_
      refine Go_ild3 dX12_contacts_31 ?_
      refine Go_cV2 (d' := 0) (bc' := 0) (bs' := 0) rfl dX12_contacts_32 mvX12_siteOf rfl lkX12_74 (by first | assumption | rfl) rfl trivial (by decide) (by decide) (by decide) (Nat.le_of_ble_eq_true rfl) ?_
      refine e_X12_siteOf (k0 := i) h hp rfl hi ?_
      refine Go_ald0 dX12_contacts_35 ?_
      refine Go_ild1 dX12_contacts_36 ?_
      refine Go_ild4 dX12_contacts_37 ?_
      refine Go_cV2 (d' := 0) (bc' := 0) (bs' := 0) rfl dX12_contacts_39 mvX12_siteOf rfl lkX12_74 (by first | assumption | rfl) rfl trivial (by decide) (by decide) (by decide) (Nat.le_of_ble_eq_true rfl) ?_
      refine e_X12_siteOf (k0 := i + 2 + i2) h hp (by omega) (by omega) ?_
      refine Go_cS2 (d' := 2) (bc' := 0) (bs' := 0) rfl dX12_contacts_42 msX12_direction rfl lkX12_140 (by decide) (by decide) (by decide) (Nat.le_of_ble_eq_true rfl) ?_
      refine e_X12_direction (by omega) (by omega) (by constructor <;> omega) ?_
      refine Go_iconst dX12_contacts_45 ?_
      refine Go_icmp_eq (tgt := 53) dX12_contacts_46 (by decide) (by constructor <;> omega) (by constructor <;> omega) (fun h46 => ?_) (fun h46 => ?_)
      · refine Go_iconst dX12_contacts_53 ?_
        refine Go_iadd dX12_contacts_54 ?_
        refine Go_ist2 dX12_contacts_55 rfl ?_
        refine Go_inc4 dX12_contacts_56 rfl ?_
        refine Go_goto (tgt := 18) dX12_contacts_59 (by decide) ?_
        refine Go_forget (ls' := _) ?_ (kn2 _ rfl)
        first | rw [if_pos h46] at e2 | rw [if_neg (fun x => x h46)] at e2
        rw [e2]
        exact (by repeat' (first | exact Or.inl rfl | exact Or.inr rfl | exact Or.inr (lcg (by omega)) | exact trivial | constructor))
      · refine Go_iconst dX12_contacts_49 ?_
        refine Go_goto (tgt := 54) dX12_contacts_50 (by decide) ?_
        refine Go_iadd dX12_contacts_54 ?_
        refine Go_ist2 dX12_contacts_55 rfl ?_
        refine Go_inc4 dX12_contacts_56 rfl ?_
        refine Go_goto (tgt := 18) dX12_contacts_59 (by decide) ?_
        refine Go_forget (ls' := _) ?_ (kn2 _ rfl)
        first | rw [if_pos h46] at e2 | rw [if_neg (fun x => x h46)] at e2
        rw [e2]
        exact (by repeat' (first | exact Or.inl rfl | exact Or.inr rfl | exact Or.inr (lcg (by omega)) | exact trivial | constructor))
    · try dsimp only at hP2
      try dsimp only
      subst hP2
      refine Go_ild4 dX12_contacts_18 ?_
      refine Go_ald0 dX12_contacts_20 ?_
      refine Go_ild1 dX12_contacts_21 ?_
      refine Go_cV1 (d' := 0) (bc' := 0) (bs' := 0) rfl dX12_contacts_22 mvX12_lengthOf rfl lkX12_70 (by first | assumption | rfl) rfl trivial (by decide) (by decide) (by decide) (Nat.le_of_ble_eq_true rfl) ?_
      refine e_X12_lengthOf h hp ?_
      refine Go_icmp_ge (tgt := 62) dX12_contacts_25 (by decide) (by constructor <;> omega) (by constructor <;> omega) (fun h25 => ?_) (fun h25 => by omega)
      refine Go_inc3 dX12_contacts_62 rfl ?_
      refine Go_goto (tgt := 4) dX12_contacts_65 (by decide) ?_
      exact Go_forget (by repeat' (first | exact Or.inl rfl | exact Or.inr rfl | exact Or.inr (lcg (by omega)) | exact trivial | constructor)) (kn _ rfl)
  · try dsimp only at hP
    try dsimp only
    subst hP
    refine Go_ild3 dX12_contacts_4 ?_
    refine Go_ald0 dX12_contacts_5 ?_
    refine Go_ild1 dX12_contacts_6 ?_
    refine Go_cV1 (d' := 0) (bc' := 0) (bs' := 0) rfl dX12_contacts_7 mvX12_lengthOf rfl lkX12_70 (by first | assumption | rfl) rfl trivial (by decide) (by decide) (by decide) (Nat.le_of_ble_eq_true rfl) ?_
    refine e_X12_lengthOf h hp ?_
    refine Go_icmp_ge (tgt := 68) dX12_contacts_10 (by decide) (by constructor <;> omega) (by constructor <;> omega) (fun h10 => ?_) (fun h10 => by omega)
    refine Go_ild2 dX12_contacts_68 ?_
    refine Go_ireturn dX12_contacts_69 rfl (by first | rfl | decide | exact nar_b | simp [narrow]) ?_
    exact k
theorem mxF_m {f : Nat → Int} (h : ∀ j, 0 ≤ f j) : ∀ {n : Nat}, 1 ≤ n → mxF f (-1) n = mxF f 0 n
  | 0, h1 => by omega
  | 1, _ => by
    have := h 0
    show (if (-1 : Int) < f 0 then f 0 else -1) = if (0 : Int) < f 0 then f 0 else 0
    rw [if_pos (by omega)]
    split <;> omega
  | n + 2, _ => by
    show (if mxF f (-1) (n + 1) < f (n + 1) then f (n + 1) else mxF f (-1) (n + 1)) = (if mxF f 0 (n + 1) < f (n + 1) then f (n + 1) else mxF f 0 (n + 1))
    rw [mxF_m h (n := n + 1) (by omega)]
theorem e_X12_span {b : Int} {f : Nat → Int} (h : ST w 69 0 s) (hp : p < s.1.length) (hb : b = 1 ∧ f = colJ (pth s.1 p) ∨ b = 0 ∧ f = rowJ (pth s.1 p)) (k : K (vi (widL f (pth s.1 p).length)) none w) : Ev G yX12_span cX12_span 7 mX12_span none 1 0 0 [vr 68, vi (p : Int), vi b] w K X := by
  have hl := h.1.len hp
  have hx := h.1.lt p
  have fb : ∀ j, 0 ≤ f j ∧ f j ≤ 9 := fun j => by
    rcases hb with ⟨-, e⟩ | ⟨-, e⟩ <;> rw [e]
    · exact colJ_in j
    · exact rowJ_in hx j
  unfold widL at k
  rw [← mxF_m (fun j => (fb j).1) hl.1] at k
  refine Ev_intro mvX12_span.1 rfl (fun h => by cases h) (allc1 rfl) (Nat.le_of_ble_eq_true rfl) (Or.inl rfl) ?_
  show Go G cX12_span mX12_span none 1 0 0 0 [some (vr 68), some (vi (p : Int)), some (vi b), none, none, none, none] [] w K X
  refine Go_bipush dX12_span_0 (by decide +kernel) ?_
  refine Go_ist3 dX12_span_2 rfl ?_
  refine Go_iconst dX12_span_3 ?_
  refine Go_ist4 dX12_span_4 rfl ?_
  refine Go_iconst dX12_span_6 ?_
  refine Go_ist5 dX12_span_7 rfl ?_
  refine Go_upTo (n := (pth s.1 p).length) (L := fun i => [some (vr 68), some (vi (p : Int)), some (vi b), some (vi (mnF f 10 i)), some (vi (mxF f (-1) i)), some (vi (i : Int)), none]) (P := fun i v => v = w) (by repeat' (first | exact Or.inl rfl | exact Or.inr rfl | exact Or.inr (lcg (by omega)) | exact trivial | constructor)) (rfl) (fun i v hi hP kn => ?_) (fun v hP => ?_)
  · try dsimp only at hP kn
    try dsimp only
    subst hP
    have bi := hx.at i
    have b1 := mnF_in (f := f) (a := 10) (lo := 0) (hi := 10) (n := i) (by omega) (fun j _ => by have := fb j; omega)
    have b2 := mxF_in (f := f) (a := -1) (lo := -1) (hi := 10) (n := i) (by omega) (fun j _ => by have := fb j; omega)
    have ei : f i = if b = 1 then ((pth s.1 p).getD i 0 : Int) % 10 else ((pth s.1 p).getD i 0 : Int) / 10 := by
      rcases hb with ⟨e, e2⟩ | ⟨e, e2⟩
      · rw [if_pos e, e2]; rfl
      · rw [if_neg (by omega), e2]; rfl
    have e1 : mnF f 10 (i + 1) = if f i < mnF f 10 i then f i else mnF f 10 i := rfl
    have e2 : mxF f (-1) (i + 1) = if mxF f (-1) i < f i then f i else mxF f (-1) i := rfl
    have bb : b = 0 ∨ b = 1 := by rcases hb with ⟨e, -⟩ | ⟨e, -⟩ <;> omega
    refine Go_ild5 dX12_span_9 ?_
    refine Go_ald0 dX12_span_11 ?_
    refine Go_ild1 dX12_span_12 ?_
    refine Go_cV1 (d' := 0) (bc' := 0) (bs' := 0) rfl dX12_span_13 mvX12_lengthOf rfl lkX12_70 (by first | assumption | rfl) rfl trivial (by decide) (by decide) (by decide) (Nat.le_of_ble_eq_true rfl) ?_
    refine e_X12_lengthOf h hp ?_
    refine Go_icmp_ge (tgt := 83) dX12_span_16 (by decide) (by constructor <;> omega) (by constructor <;> omega) (fun h16 => by omega) (fun h16 => ?_)
    refine Go_ild2 dX12_span_19 ?_
    refine Go_if_eq (tgt := 36) dX12_span_20 (by decide) (by constructor <;> omega) (fun h20 => ?_) (fun h20 => ?_)
    · refine Go_ald0 dX12_span_36 ?_
      refine Go_ild1 dX12_span_37 ?_
      refine Go_ild5 dX12_span_38 ?_
      refine Go_cV2 (d' := 0) (bc' := 0) (bs' := 0) rfl dX12_span_40 mvX12_siteOf rfl lkX12_74 (by first | assumption | rfl) rfl trivial (by decide) (by decide) (by decide) (Nat.le_of_ble_eq_true rfl) ?_
      refine e_X12_siteOf (k0 := i) h hp rfl hi ?_
      refine Go_bipush dX12_span_43 (by decide +kernel) ?_
      refine Go_idiv dX12_span_45 (by omega) (by omega) (by omega) (by omega) ?_
      refine Go_ist6 dX12_span_46 rfl ?_
      refine Go_ild6 dX12_span_48 ?_
      refine Go_ild3 dX12_span_50 ?_
      refine Go_icmp_ge (tgt := 59) dX12_span_51 (by decide) (by constructor <;> omega) (by constructor <;> omega) (fun h51 => ?_) (fun h51 => ?_)
      · refine Go_ild3 dX12_span_59 ?_
        refine Go_ist3 dX12_span_60 rfl ?_
        refine Go_ild6 dX12_span_61 ?_
        refine Go_ild4 dX12_span_63 ?_
        refine Go_icmp_le (tgt := 73) dX12_span_65 (by decide) (by constructor <;> omega) (by constructor <;> omega) (fun h65 => ?_) (fun h65 => ?_)
        · refine Go_ild4 dX12_span_73 ?_
          refine Go_ist4 dX12_span_75 rfl ?_
          refine Go_inc5 dX12_span_77 rfl ?_
          refine Go_goto (tgt := 9) dX12_span_80 (by decide) ?_
          refine Go_forget (ls' := _) ?_ (kn _ rfl)
          repeat' split at ei
          all_goals (repeat' split at e1)
          all_goals (repeat' split at e2)
          all_goals first | (exfalso; omega) | (rw [e1, e2]; exact (by repeat' (first | exact Or.inl rfl | exact Or.inr rfl | exact Or.inr (lcg (by omega)) | exact trivial | constructor)))
        · refine Go_ild6 dX12_span_68 ?_
          refine Go_goto (tgt := 75) dX12_span_70 (by decide) ?_
          refine Go_ist4 dX12_span_75 rfl ?_
          refine Go_inc5 dX12_span_77 rfl ?_
          refine Go_goto (tgt := 9) dX12_span_80 (by decide) ?_
          refine Go_forget (ls' := _) ?_ (kn _ rfl)
          repeat' split at ei
          all_goals (repeat' split at e1)
          all_goals (repeat' split at e2)
          all_goals first | (exfalso; omega) | (rw [e1, e2]; exact (by repeat' (first | exact Or.inl rfl | exact Or.inr rfl | exact Or.inr (lcg (by omega)) | exact trivial | constructor)))
      · refine Go_ild6 dX12_span_54 ?_
        refine Go_goto (tgt := 60) dX12_span_56 (by decide) ?_
        refine Go_ist3 dX12_span_60 rfl ?_
        refine Go_ild6 dX12_span_61 ?_
        refine Go_ild4 dX12_span_63 ?_
        refine Go_icmp_le (tgt := 73) dX12_span_65 (by decide) (by constructor <;> omega) (by constructor <;> omega) (fun h65 => ?_) (fun h65 => ?_)
        · refine Go_ild4 dX12_span_73 ?_
          refine Go_ist4 dX12_span_75 rfl ?_
          refine Go_inc5 dX12_span_77 rfl ?_
          refine Go_goto (tgt := 9) dX12_span_80 (by decide) ?_
          refine Go_forget (ls' := _) ?_ (kn _ rfl)
          repeat' split at ei
          all_goals (repeat' split at e1)
          all_goals (repeat' split at e2)
          all_goals first | (exfalso; omega) | (rw [e1, e2]; exact (by repeat' (first | exact Or.inl rfl | exact Or.inr rfl | exact Or.inr (lcg (by omega)) | exact trivial | constructor)))
        · refine Go_ild6 dX12_span_68 ?_
          refine Go_goto (tgt := 75) dX12_span_70 (by decide) ?_
          refine Go_ist4 dX12_span_75 rfl ?_
          refine Go_inc5 dX12_span_77 rfl ?_
          refine Go_goto (tgt := 9) dX12_span_80 (by decide) ?_
          refine Go_forget (ls' := _) ?_ (kn _ rfl)
          repeat' split at ei
          all_goals (repeat' split at e1)
          all_goals (repeat' split at e2)
          all_goals first | (exfalso; omega) | (rw [e1, e2]; exact (by repeat' (first | exact Or.inl rfl | exact Or.inr rfl | exact Or.inr (lcg (by omega)) | exact trivial | constructor)))
    · refine Go_ald0 dX12_span_23 ?_
      refine Go_ild1 dX12_span_24 ?_
      refine Go_ild5 dX12_span_25 ?_
      refine Go_cV2 (d' := 0) (bc' := 0) (bs' := 0) rfl dX12_span_27 mvX12_siteOf rfl lkX12_74 (by first | assumption | rfl) rfl trivial (by decide) (by decide) (by decide) (Nat.le_of_ble_eq_true rfl) ?_
      refine e_X12_siteOf (k0 := i) h hp rfl hi ?_
      refine Go_bipush dX12_span_30 (by decide +kernel) ?_
      refine Go_irem dX12_span_32 (by omega) (by omega) (by omega) (by omega) ?_
      refine Go_goto (tgt := 46) dX12_span_33 (by decide) ?_
      refine Go_ist6 dX12_span_46 rfl ?_
      refine Go_ild6 dX12_span_48 ?_
      refine Go_ild3 dX12_span_50 ?_
      refine Go_icmp_ge (tgt := 59) dX12_span_51 (by decide) (by constructor <;> omega) (by constructor <;> omega) (fun h51 => ?_) (fun h51 => ?_)
      · refine Go_ild3 dX12_span_59 ?_
        refine Go_ist3 dX12_span_60 rfl ?_
        refine Go_ild6 dX12_span_61 ?_
        refine Go_ild4 dX12_span_63 ?_
        refine Go_icmp_le (tgt := 73) dX12_span_65 (by decide) (by constructor <;> omega) (by constructor <;> omega) (fun h65 => ?_) (fun h65 => ?_)
        · refine Go_ild4 dX12_span_73 ?_
          refine Go_ist4 dX12_span_75 rfl ?_
          refine Go_inc5 dX12_span_77 rfl ?_
          refine Go_goto (tgt := 9) dX12_span_80 (by decide) ?_
          refine Go_forget (ls' := _) ?_ (kn _ rfl)
          repeat' split at ei
          all_goals (repeat' split at e1)
          all_goals (repeat' split at e2)
          all_goals first | (exfalso; omega) | (rw [e1, e2]; exact (by repeat' (first | exact Or.inl rfl | exact Or.inr rfl | exact Or.inr (lcg (by omega)) | exact trivial | constructor)))
        · refine Go_ild6 dX12_span_68 ?_
          refine Go_goto (tgt := 75) dX12_span_70 (by decide) ?_
          refine Go_ist4 dX12_span_75 rfl ?_
          refine Go_inc5 dX12_span_77 rfl ?_
          refine Go_goto (tgt := 9) dX12_span_80 (by decide) ?_
          refine Go_forget (ls' := _) ?_ (kn _ rfl)
          repeat' split at ei
          all_goals (repeat' split at e1)
          all_goals (repeat' split at e2)
          all_goals first | (exfalso; omega) | (rw [e1, e2]; exact (by repeat' (first | exact Or.inl rfl | exact Or.inr rfl | exact Or.inr (lcg (by omega)) | exact trivial | constructor)))
      · refine Go_ild6 dX12_span_54 ?_
        refine Go_goto (tgt := 60) dX12_span_56 (by decide) ?_
        refine Go_ist3 dX12_span_60 rfl ?_
        refine Go_ild6 dX12_span_61 ?_
        refine Go_ild4 dX12_span_63 ?_
        refine Go_icmp_le (tgt := 73) dX12_span_65 (by decide) (by constructor <;> omega) (by constructor <;> omega) (fun h65 => ?_) (fun h65 => ?_)
        · refine Go_ild4 dX12_span_73 ?_
          refine Go_ist4 dX12_span_75 rfl ?_
          refine Go_inc5 dX12_span_77 rfl ?_
          refine Go_goto (tgt := 9) dX12_span_80 (by decide) ?_
          refine Go_forget (ls' := _) ?_ (kn _ rfl)
          repeat' split at ei
          all_goals (repeat' split at e1)
          all_goals (repeat' split at e2)
          all_goals first | (exfalso; omega) | (rw [e1, e2]; exact (by repeat' (first | exact Or.inl rfl | exact Or.inr rfl | exact Or.inr (lcg (by omega)) | exact trivial | constructor)))
        · refine Go_ild6 dX12_span_68 ?_
          refine Go_goto (tgt := 75) dX12_span_70 (by decide) ?_
          refine Go_ist4 dX12_span_75 rfl ?_
          refine Go_inc5 dX12_span_77 rfl ?_
          refine Go_goto (tgt := 9) dX12_span_80 (by decide) ?_
          refine Go_forget (ls' := _) ?_ (kn _ rfl)
          repeat' split at ei
          all_goals (repeat' split at e1)
          all_goals (repeat' split at e2)
          all_goals first | (exfalso; omega) | (rw [e1, e2]; exact (by repeat' (first | exact Or.inl rfl | exact Or.inr rfl | exact Or.inr (lcg (by omega)) | exact trivial | constructor)))
  · try dsimp only at hP
    try dsimp only
    subst hP
    refine Go_ild5 dX12_span_9 ?_
    refine Go_ald0 dX12_span_11 ?_
    refine Go_ild1 dX12_span_12 ?_
    refine Go_cV1 (d' := 0) (bc' := 0) (bs' := 0) rfl dX12_span_13 mvX12_lengthOf rfl lkX12_70 (by first | assumption | rfl) rfl trivial (by decide) (by decide) (by decide) (Nat.le_of_ble_eq_true rfl) ?_
    refine e_X12_lengthOf h hp ?_
    refine Go_icmp_ge (tgt := 83) dX12_span_16 (by decide) (by constructor <;> omega) (by constructor <;> omega) (fun h16 => ?_) (fun h16 => by omega)
    refine Go_ild4 dX12_span_83 ?_
    refine Go_ild3 dX12_span_85 ?_
    refine Go_isub dX12_span_86 ?_
    refine Go_iconst dX12_span_87 ?_
    refine Go_iadd dX12_span_88 ?_
    refine Go_ireturn dX12_span_89 rfl (by first | rfl | decide | exact nar_b | simp [narrow]) ?_
    exact k
theorem e_X12_squared {a b : Int} (a0 : 0 ≤ a) (a1 : a < 100) (b0 : 0 ≤ b) (b1 : b < 100) (k : K (vi (sqD a b)) none w) : Ev G yX12_squared cX12_squared 4 mX12_squared none 0 0 0 [vi a, vi b] w K X := by
  refine Ev_intro msX12_squared.1 rfl (fun h => by cases h) (allc1 rfl) (Nat.le_of_ble_eq_true rfl) (Or.inl rfl) ?_
  show Go G cX12_squared mX12_squared none 0 0 0 0 [some (vi a), some (vi b), none, none] [] w K X
  refine Go_ild0 dX12_squared_0 ?_
  refine Go_bipush dX12_squared_1 (by decide +kernel) ?_
  refine Go_irem dX12_squared_3 (by omega) (by omega) (by omega) (by omega) ?_
  refine Go_ild1 dX12_squared_4 ?_
  refine Go_bipush dX12_squared_5 (by decide +kernel) ?_
  refine Go_irem dX12_squared_7 (by omega) (by omega) (by omega) (by omega) ?_
  refine Go_isub dX12_squared_8 ?_
  refine Go_ist2 dX12_squared_9 rfl ?_
  refine Go_ild0 dX12_squared_10 ?_
  refine Go_bipush dX12_squared_11 (by decide +kernel) ?_
  refine Go_idiv dX12_squared_13 (by omega) (by omega) (by omega) (by omega) ?_
  refine Go_ild1 dX12_squared_14 ?_
  refine Go_bipush dX12_squared_15 (by decide +kernel) ?_
  refine Go_idiv dX12_squared_17 (by omega) (by omega) (by omega) (by omega) ?_
  refine Go_isub dX12_squared_18 ?_
  refine Go_ist3 dX12_squared_19 rfl ?_
  refine Go_ild2 dX12_squared_20 ?_
  refine Go_ild2 dX12_squared_21 ?_
  refine Go_imul dX12_squared_22 ?_
  refine Go_ild3 dX12_squared_23 ?_
  refine Go_ild3 dX12_squared_24 ?_
  refine Go_imul dX12_squared_25 ?_
  refine Go_iadd dX12_squared_26 ?_
  refine Go_ireturn dX12_squared_27 rfl (by first | rfl | decide | exact nar_b | simp [narrow]) ?_
  exact k
theorem e_X12_moment (h : ST w 69 0 s) (hp : p < s.1.length) (k : K (vi (momL (pth s.1 p))) none w) : Ev G yX12_moment cX12_moment 7 mX12_moment none 1 0 0 [vr 68, vi (p : Int)] w K X := by
  have hl := h.1.len hp
  have hx := h.1.lt p
  unfold momL at k
  refine Ev_intro mvX12_moment.1 rfl (fun h => by cases h) (allc1 rfl) (Nat.le_of_ble_eq_true rfl) (Or.inl rfl) ?_
  show Go G cX12_moment mX12_moment none 1 0 0 0 [some (vr 68), some (vi (p : Int)), none, none, none, none, none] [] w K X
  refine Go_iconst dX12_moment_0 ?_
  refine Go_ist2 dX12_moment_1 rfl ?_
  refine Go_iconst dX12_moment_2 ?_
  refine Go_ist3 dX12_moment_3 rfl ?_
  refine Go_iconst dX12_moment_4 ?_
  refine Go_ist4 dX12_moment_5 rfl ?_
  refine Go_iconst dX12_moment_7 ?_
  refine Go_ist5 dX12_moment_8 rfl ?_
  refine Go_upTo (n := (pth s.1 p).length) (L := fun i => [some (vr 68), some (vi (p : Int)), some (vi (smF (fun j => colJ (pth s.1 p) j * colJ (pth s.1 p) j + rowJ (pth s.1 p) j * rowJ (pth s.1 p) j) i)), some (vi (smF (colJ (pth s.1 p)) i)), some (vi (smF (rowJ (pth s.1 p)) i)), some (vi (i : Int)), none]) (P := fun i v => v = w) (by repeat' (first | exact Or.inl rfl | exact Or.inr rfl | exact Or.inr (lcg (by omega)) | exact trivial | constructor)) (rfl) (fun i v hi hP kn => ?_) (fun v hP => ?_)
  · try dsimp only at hP kn
    try dsimp only
    subst hP
    have b := hx.at i
    have eq : sqD ((pth s.1 p).getD i 0) 0 = colJ (pth s.1 p) i * colJ (pth s.1 p) i + rowJ (pth s.1 p) i * rowJ (pth s.1 p) i := by
      show (((pth s.1 p).getD i 0 : Int) % 10 - 0 % 10) * (((pth s.1 p).getD i 0 : Int) % 10 - 0 % 10) + (((pth s.1 p).getD i 0 : Int) / 10 - 0 / 10) * (((pth s.1 p).getD i 0 : Int) / 10 - 0 / 10) = _
      rw [show (0 : Int) % 10 = 0 from rfl, show (0 : Int) / 10 = 0 from rfl, Int.sub_zero, Int.sub_zero]
      rfl
    refine Go_ild5 dX12_moment_10 ?_
    refine Go_ald0 dX12_moment_12 ?_
    refine Go_ild1 dX12_moment_13 ?_
    refine Go_cV1 (d' := 0) (bc' := 0) (bs' := 0) rfl dX12_moment_14 mvX12_lengthOf rfl lkX12_70 (by first | assumption | rfl) rfl trivial (by decide) (by decide) (by decide) (Nat.le_of_ble_eq_true rfl) ?_
    refine e_X12_lengthOf h hp ?_
    refine Go_icmp_ge (tgt := 62) dX12_moment_17 (by decide) (by constructor <;> omega) (by constructor <;> omega) (fun h17 => by omega) (fun h17 => ?_)
    refine Go_ald0 dX12_moment_20 ?_
    refine Go_ild1 dX12_moment_21 ?_
    refine Go_ild5 dX12_moment_22 ?_
    refine Go_cV2 (d' := 0) (bc' := 0) (bs' := 0) rfl dX12_moment_24 mvX12_siteOf rfl lkX12_74 (by first | assumption | rfl) rfl trivial (by decide) (by decide) (by decide) (Nat.le_of_ble_eq_true rfl) ?_
    refine e_X12_siteOf (k0 := i) h hp rfl hi ?_
    refine Go_ist6 dX12_moment_27 rfl ?_
    refine Go_ild2 dX12_moment_29 ?_
    refine Go_ild6 dX12_moment_30 ?_
    refine Go_iconst dX12_moment_32 ?_
    refine Go_cS2 (d' := 0) (bc' := 0) (bs' := 0) rfl dX12_moment_33 msX12_squared rfl lkX12_171 (by decide) (by decide) (by decide) (Nat.le_of_ble_eq_true rfl) ?_
    refine e_X12_squared (by omega) (by omega) (by omega) (by omega) ?_
    rw [eq]
    refine Go_iadd dX12_moment_36 ?_
    refine Go_ist2 dX12_moment_37 rfl ?_
    refine Go_ild3 dX12_moment_38 ?_
    refine Go_ild6 dX12_moment_39 ?_
    refine Go_bipush dX12_moment_41 (by decide +kernel) ?_
    refine Go_irem dX12_moment_43 (by omega) (by omega) (by omega) (by omega) ?_
    refine Go_iadd dX12_moment_44 ?_
    refine Go_ist3 dX12_moment_45 rfl ?_
    refine Go_ild4 dX12_moment_46 ?_
    refine Go_ild6 dX12_moment_48 ?_
    refine Go_bipush dX12_moment_50 (by decide +kernel) ?_
    refine Go_idiv dX12_moment_52 (by omega) (by omega) (by omega) (by omega) ?_
    refine Go_iadd dX12_moment_53 ?_
    refine Go_ist4 dX12_moment_54 rfl ?_
    refine Go_inc5 dX12_moment_56 rfl ?_
    refine Go_goto (tgt := 10) dX12_moment_59 (by decide) ?_
    exact Go_forget (by repeat' (first | exact Or.inl rfl | exact Or.inr rfl | exact Or.inr (lcg (by omega)) | exact trivial | constructor)) (kn _ rfl)
  · try dsimp only at hP
    try dsimp only
    subst hP
    refine Go_ild5 dX12_moment_10 ?_
    refine Go_ald0 dX12_moment_12 ?_
    refine Go_ild1 dX12_moment_13 ?_
    refine Go_cV1 (d' := 0) (bc' := 0) (bs' := 0) rfl dX12_moment_14 mvX12_lengthOf rfl lkX12_70 (by first | assumption | rfl) rfl trivial (by decide) (by decide) (by decide) (Nat.le_of_ble_eq_true rfl) ?_
    refine e_X12_lengthOf h hp ?_
    refine Go_icmp_ge (tgt := 62) dX12_moment_17 (by decide) (by constructor <;> omega) (by constructor <;> omega) (fun h17 => ?_) (fun h17 => by omega)
    refine Go_ald0 dX12_moment_62 ?_
    refine Go_ild1 dX12_moment_63 ?_
    refine Go_cV1 (d' := 0) (bc' := 0) (bs' := 0) rfl dX12_moment_64 mvX12_lengthOf rfl lkX12_70 (by first | assumption | rfl) rfl trivial (by decide) (by decide) (by decide) (Nat.le_of_ble_eq_true rfl) ?_
    refine e_X12_lengthOf h hp ?_
    refine Go_ild2 dX12_moment_67 ?_
    refine Go_imul dX12_moment_68 ?_
    refine Go_ild3 dX12_moment_69 ?_
    refine Go_ild3 dX12_moment_70 ?_
    refine Go_imul dX12_moment_71 ?_
    refine Go_isub dX12_moment_72 ?_
    refine Go_ild4 dX12_moment_73 ?_
    refine Go_ild4 dX12_moment_75 ?_
    refine Go_imul dX12_moment_77 ?_
    refine Go_isub dX12_moment_78 ?_
    refine Go_ireturn dX12_moment_79 rfl (by first | rfl | decide | exact nar_b | simp [narrow]) ?_
    exact k
theorem e_X12_freeBeside (hm : MK (w 74) (w 75) s.1) (h5 : s.1.length ≤ 5) (hp : p < s.1.length) (k : K (vi (fbC s.1 p)) none w) : Ev G yX12_freeBeside cX12_freeBeside 7 mX12_freeBeside none 2 0 0 [vr 68, vi (p : Int)] w K X := by
  unfold fbC at k
  refine Ev_intro mvX12_freeBeside.1 rfl (fun h => by cases h) (allc1 rfl) (Nat.le_of_ble_eq_true rfl) (Or.inl rfl) ?_
  show Go G cX12_freeBeside mX12_freeBeside none 2 0 0 0 [some (vr 68), some (vi (p : Int)), none, none, none, none, none] [] w K X
  refine Go_iconst dX12_freeBeside_0 ?_
  refine Go_ist2 dX12_freeBeside_1 rfl ?_
  refine Go_iconst dX12_freeBeside_2 ?_
  refine Go_ist3 dX12_freeBeside_3 rfl ?_
  refine Go_upTo (n := 100) (L := fun i => [some (vr 68), some (vi (p : Int)), some (vi (smF (fbF s.1 p) i)), some (vi (i : Int)), none, none, none]) (P := fun i v => v = w) (by repeat' (first | exact Or.inl rfl | exact Or.inr rfl | exact Or.inr (lcg (by omega)) | exact trivial | constructor)) (rfl) (fun i v hi hP kn => ?_) (fun v hP => ?_)
  · try dsimp only at hP kn
    try dsimp only
    subst hP
    have e : smF (fbF s.1 p) (i + 1) = smF (fbF s.1 p) i + (if ow s.1 i = -1 ∧ 0 < nbN s.1 i p then 1 else 0) := rfl
    have bo := ow_in s.1 i
    have mo := (hm i hi).1
    refine Go_ild3 dX12_freeBeside_4 ?_
    refine Go_bipush dX12_freeBeside_5 (by decide +kernel) ?_
    refine Go_icmp_ge (tgt := 94) dX12_freeBeside_7 (by decide) (by constructor <;> omega) (by constructor <;> omega) (fun h7 => by omega) (fun h7 => ?_)
    refine Go_iconst dX12_freeBeside_10 ?_
    refine Go_ist4 dX12_freeBeside_11 rfl ?_
    refine Go_iconst dX12_freeBeside_13 ?_
    refine Go_ist5 dX12_freeBeside_14 rfl ?_
    refine Go_upTo (n := 4) (L := fun i2 => [some (vr 68), some (vi (p : Int)), some (vi (smF (fbF s.1 p) i)), some (vi (i : Int)), some (vi (if 0 < smF (nbF s.1 i p) i2 then 1 else 0)), some (vi (i2 : Int)), none]) (P := fun i2 v2 => v2 = v) (by repeat' (first | exact Or.inl rfl | exact Or.inr rfl | exact Or.inr (lcg (by omega)) | exact trivial | constructor)) (rfl) (fun i2 v2 hi2 hP2 kn2 => ?_) (fun v2 hP2 => ?_)
    · try dsimp only at hP2 kn2
      try dsimp only
      subst hP2
      have b := nbI_in i i2
      have bn := smF_in (f := nbF s.1 i p) (c := 1) (n := i2) (fun j _ => by unfold nbF; split <;> omega)
      have e2 : smF (nbF s.1 i p) (i2 + 1) = smF (nbF s.1 i p) i2 + (if owI s.1 (nbI i i2) = p then 1 else 0) := rfl
      have eo : nbI i i2 ≠ -1 → v2 74 (nbI i i2).toNat = owI s.1 (nbI i i2) := fun q => by unfold owI; rw [if_pos (by omega)]; exact (hm _ (by omega)).1
      have em : nbI i i2 = -1 → owI s.1 (nbI i i2) = -1 := fun q => by unfold owI; rw [if_neg (by omega)]
      have bw := owI_in h5 (nbI i i2)
      refine Go_ild5 dX12_freeBeside_16 ?_
      refine Go_iconst dX12_freeBeside_18 ?_
      refine Go_icmp_ge (tgt := 65) dX12_freeBeside_19 (by decide) (by constructor <;> omega) (by constructor <;> omega) (fun h19 => by omega) (fun h19 => ?_)
      refine Go_ild3 dX12_freeBeside_22 ?_
      refine Go_ild5 dX12_freeBeside_23 ?_
      refine Go_cS2 (d' := 1) (bc' := 0) (bs' := 0) rfl dX12_freeBeside_25 msX12_next rfl lkX12_84 (by decide) (by decide) (by decide) (Nat.le_of_ble_eq_true rfl) ?_
      refine e_X12_next (by omega) (by omega) hi2 ?_
      refine Go_ist6 dX12_freeBeside_28 rfl ?_
      refine Go_ild4 dX12_freeBeside_30 ?_
      refine Go_ifb_ne (tgt := 52) dX12_freeBeside_32 (by decide)  (fun h32 => ?_) (fun h32 => ?_)
      · refine Go_iconst dX12_freeBeside_52 ?_
        refine Go_goto (tgt := 57) dX12_freeBeside_53 (by decide) ?_
        refine Go_ist4 dX12_freeBeside_57 rfl ?_
        refine Go_inc5 dX12_freeBeside_59 rfl ?_
        refine Go_goto (tgt := 16) dX12_freeBeside_62 (by decide) ?_
        refine Go_forget (ls' := _) ?_ (kn2 _ rfl)
        repeat' split at e2
        all_goals (by_cases c9 : 0 < smF (nbF s.1 i p) (i2 + 1))
        all_goals first | rw [if_pos c9] | rw [if_neg c9]
        all_goals first | (exfalso; omega) | exact (by repeat' (first | exact Or.inl rfl | exact Or.inr rfl | exact Or.inr (lcg (by omega)) | exact trivial | constructor))
      · refine Go_ild6 dX12_freeBeside_35 ?_
        refine Go_iconst dX12_freeBeside_37 ?_
        refine Go_icmp_eq (tgt := 56) dX12_freeBeside_38 (by decide) (by constructor <;> omega) (by constructor <;> omega) (fun h38 => ?_) (fun h38 => ?_)
        · refine Go_iconst dX12_freeBeside_56 ?_
          refine Go_ist4 dX12_freeBeside_57 rfl ?_
          refine Go_inc5 dX12_freeBeside_59 rfl ?_
          refine Go_goto (tgt := 16) dX12_freeBeside_62 (by decide) ?_
          refine Go_forget (ls' := _) ?_ (kn2 _ rfl)
          repeat' split at e2
          all_goals (by_cases c9 : 0 < smF (nbF s.1 i p) (i2 + 1))
          all_goals first | rw [if_pos c9] | rw [if_neg c9]
          all_goals first | (exfalso; omega) | exact (by repeat' (first | exact Or.inl rfl | exact Or.inr rfl | exact Or.inr (lcg (by omega)) | exact trivial | constructor))
        · refine Go_ald0 dX12_freeBeside_41 ?_
          refine gf11_8 dX12_freeBeside_42 flX12_25 ?_
          refine Go_ild6 dX12_freeBeside_45 ?_
          refine Go_iald dX12_freeBeside_47 (by first | assumption | rfl) trivial (by omega) (by omega) (by decide) ?_
          rw [eo h38]
          refine Go_ild1 dX12_freeBeside_48 ?_
          refine Go_icmp_ne (tgt := 56) dX12_freeBeside_49 (by decide) (by constructor <;> omega) (by constructor <;> omega) (fun h49 => ?_) (fun h49 => ?_)
          · refine Go_iconst dX12_freeBeside_56 ?_
            refine Go_ist4 dX12_freeBeside_57 rfl ?_
            refine Go_inc5 dX12_freeBeside_59 rfl ?_
            refine Go_goto (tgt := 16) dX12_freeBeside_62 (by decide) ?_
            refine Go_forget (ls' := _) ?_ (kn2 _ rfl)
            repeat' split at e2
            all_goals (by_cases c9 : 0 < smF (nbF s.1 i p) (i2 + 1))
            all_goals first | rw [if_pos c9] | rw [if_neg c9]
            all_goals first | (exfalso; omega) | exact (by repeat' (first | exact Or.inl rfl | exact Or.inr rfl | exact Or.inr (lcg (by omega)) | exact trivial | constructor))
          · refine Go_iconst dX12_freeBeside_52 ?_
            refine Go_goto (tgt := 57) dX12_freeBeside_53 (by decide) ?_
            refine Go_ist4 dX12_freeBeside_57 rfl ?_
            refine Go_inc5 dX12_freeBeside_59 rfl ?_
            refine Go_goto (tgt := 16) dX12_freeBeside_62 (by decide) ?_
            refine Go_forget (ls' := _) ?_ (kn2 _ rfl)
            repeat' split at e2
            all_goals (by_cases c9 : 0 < smF (nbF s.1 i p) (i2 + 1))
            all_goals first | rw [if_pos c9] | rw [if_neg c9]
            all_goals first | (exfalso; omega) | exact (by repeat' (first | exact Or.inl rfl | exact Or.inr rfl | exact Or.inr (lcg (by omega)) | exact trivial | constructor))
    · try dsimp only at hP2
      try dsimp only
      subst hP2
      have bn := nbN_in s.1 i p
      have en : smF (nbF s.1 i p) 4 = nbN s.1 i p := rfl
      rw [en]
      refine Go_ild5 dX12_freeBeside_16 ?_
      refine Go_iconst dX12_freeBeside_18 ?_
      refine Go_icmp_ge (tgt := 65) dX12_freeBeside_19 (by decide) (by constructor <;> omega) (by constructor <;> omega) (fun h19 => ?_) (fun h19 => by omega)
      refine Go_ild2 dX12_freeBeside_65 ?_
      refine Go_ild4 dX12_freeBeside_66 ?_
      refine Go_ifb_eq (tgt := 85) dX12_freeBeside_68 (by decide)  (fun h68 => ?_) (fun h68 => ?_)
      · refine Go_iconst dX12_freeBeside_85 ?_
        refine Go_iadd dX12_freeBeside_86 ?_
        refine Go_ist2 dX12_freeBeside_87 rfl ?_
        refine Go_inc3 dX12_freeBeside_88 rfl ?_
        refine Go_goto (tgt := 4) dX12_freeBeside_91 (by decide) ?_
        refine Go_forget (ls' := _) ?_ (kn _ rfl)
        by_cases c9 : ow s.1 i = -1 ∧ 0 < nbN s.1 i p
        all_goals first | rw [if_pos c9] at e | rw [if_neg c9] at e
        all_goals first | (exfalso; omega) | (rw [e]; exact (by repeat' (first | exact Or.inl rfl | exact Or.inr rfl | exact Or.inr (lcg (by omega)) | exact trivial | constructor)))
      · refine Go_ald0 dX12_freeBeside_71 ?_
        refine gf11_8 dX12_freeBeside_72 flX12_25 ?_
        refine Go_ild3 dX12_freeBeside_75 ?_
        refine Go_iald dX12_freeBeside_76 (by first | assumption | rfl) trivial (by omega) (by omega) (by decide) ?_
        rw [Int.toNat_natCast, mo]
        refine Go_iconst dX12_freeBeside_77 ?_
        refine Go_icmp_ne (tgt := 85) dX12_freeBeside_78 (by decide) (by constructor <;> omega) (by constructor <;> omega) (fun h78 => ?_) (fun h78 => ?_)
        · refine Go_iconst dX12_freeBeside_85 ?_
          refine Go_iadd dX12_freeBeside_86 ?_
          refine Go_ist2 dX12_freeBeside_87 rfl ?_
          refine Go_inc3 dX12_freeBeside_88 rfl ?_
          refine Go_goto (tgt := 4) dX12_freeBeside_91 (by decide) ?_
          refine Go_forget (ls' := _) ?_ (kn _ rfl)
          by_cases c9 : ow s.1 i = -1 ∧ 0 < nbN s.1 i p
          all_goals first | rw [if_pos c9] at e | rw [if_neg c9] at e
          all_goals first | (exfalso; omega) | (rw [e]; exact (by repeat' (first | exact Or.inl rfl | exact Or.inr rfl | exact Or.inr (lcg (by omega)) | exact trivial | constructor)))
        · refine Go_iconst dX12_freeBeside_81 ?_
          refine Go_goto (tgt := 86) dX12_freeBeside_82 (by decide) ?_
          refine Go_iadd dX12_freeBeside_86 ?_
          refine Go_ist2 dX12_freeBeside_87 rfl ?_
          refine Go_inc3 dX12_freeBeside_88 rfl ?_
          refine Go_goto (tgt := 4) dX12_freeBeside_91 (by decide) ?_
          refine Go_forget (ls' := _) ?_ (kn _ rfl)
          by_cases c9 : ow s.1 i = -1 ∧ 0 < nbN s.1 i p
          all_goals first | rw [if_pos c9] at e | rw [if_neg c9] at e
          all_goals first | (exfalso; omega) | (rw [e]; exact (by repeat' (first | exact Or.inl rfl | exact Or.inr rfl | exact Or.inr (lcg (by omega)) | exact trivial | constructor)))
  · try dsimp only at hP
    try dsimp only
    subst hP
    refine Go_ild3 dX12_freeBeside_4 ?_
    refine Go_bipush dX12_freeBeside_5 (by decide +kernel) ?_
    refine Go_icmp_ge (tgt := 94) dX12_freeBeside_7 (by decide) (by constructor <;> omega) (by constructor <;> omega) (fun h7 => ?_) (fun h7 => by omega)
    refine Go_ild2 dX12_freeBeside_94 ?_
    refine Go_ireturn dX12_freeBeside_95 rfl (by first | rfl | decide | exact nar_b | simp [narrow]) ?_
    exact k
theorem e_X12_tellsPath (h : ST w 69 0 s) (hm : MK (w 74) (w 75) s.1) (hp : p < s.1.length) (h0 : 0 ≤ z) (h8 : z ≤ 8) (k : K (vi (pthA s.1 p z)) none w) : Ev G yX12_tellsPath cX12_tellsPath 3 mX12_tellsPath none 5 0 0 [vr 68, vi (p : Int), vi z] w K X := by
  have h5 := h.1.1
  have hl := h.1.len hp
  have hx := h.1.lt p
  have hh : hdL (pth s.1 p) < 100 := hx.at _
  have hz : (pth s.1 p).getD 0 0 < 100 := hx.at 0
  have c : z = 0 ∨ z = 1 ∨ z = 2 ∨ z = 3 ∨ z = 4 ∨ z = 5 ∨ z = 6 ∨ z = 7 ∨ z = 8 := by omega
  refine Ev_intro mvX12_tellsPath.1 rfl (fun h => by cases h) (allc1 rfl) (Nat.le_of_ble_eq_true rfl) (Or.inl rfl) ?_
  show Go G cX12_tellsPath mX12_tellsPath none 5 0 0 0 [some (vr 68), some (vi (p : Int)), some (vi z)] [] w K X
  rcases c with rfl | rfl | rfl | rfl | rfl | rfl | rfl | rfl | rfl
  · skip
    refine Go_ild2 dX12_tellsPath_0 ?_
    refine Go_tsIn (i := 0) (off := 47) (tgt := 48) dX12_tellsPath_1 (by omega) ⟨⟨by decide, by decide⟩, by decide⟩ (by decide) (by decide) ?_
    refine Go_ald0 dX12_tellsPath_48 ?_
    refine Go_ild1 dX12_tellsPath_49 ?_
    refine Go_cV1 (d' := 0) (bc' := 0) (bs' := 0) rfl dX12_tellsPath_50 mvX12_lengthOf rfl lkX12_70 (by first | assumption | rfl) rfl trivial (by decide) (by decide) (by decide) (Nat.le_of_ble_eq_true rfl) ?_
    refine e_X12_lengthOf h hp ?_
    refine Go_ireturn dX12_tellsPath_53 rfl (by first | rfl | decide | exact nar_b | simp [narrow]) ?_
    exact k
  · skip
    refine Go_ild2 dX12_tellsPath_0 ?_
    refine Go_tsIn (i := 1) (off := 53) (tgt := 54) dX12_tellsPath_1 (by omega) ⟨⟨by decide, by decide⟩, by decide⟩ (by decide) (by decide) ?_
    refine Go_ald0 dX12_tellsPath_54 ?_
    refine Go_ild1 dX12_tellsPath_55 ?_
    refine Go_cV1 (d' := 4) (bc' := 0) (bs' := 0) rfl dX12_tellsPath_56 mvX12_corners rfl lkX12_174 (by first | assumption | rfl) rfl trivial (by decide) (by decide) (by decide) (Nat.le_of_ble_eq_true rfl) ?_
    refine e_X12_corners h hp ?_
    refine Go_ireturn dX12_tellsPath_59 rfl (by first | rfl | decide | exact nar_b | simp [narrow]) ?_
    exact k
  · skip
    refine Go_ild2 dX12_tellsPath_0 ?_
    refine Go_tsIn (i := 2) (off := 59) (tgt := 60) dX12_tellsPath_1 (by omega) ⟨⟨by decide, by decide⟩, by decide⟩ (by decide) (by decide) ?_
    refine Go_ald0 dX12_tellsPath_60 ?_
    refine Go_ild1 dX12_tellsPath_61 ?_
    refine Go_cV1 (d' := 3) (bc' := 0) (bs' := 0) rfl dX12_tellsPath_62 mvX12_contacts rfl lkX12_177 (by first | assumption | rfl) rfl trivial (by decide) (by decide) (by decide) (Nat.le_of_ble_eq_true rfl) ?_
    refine e_X12_contacts h hp ?_
    refine Go_ireturn dX12_tellsPath_65 rfl (by first | rfl | decide | exact nar_b | simp [narrow]) ?_
    exact k
  · skip
    refine Go_ild2 dX12_tellsPath_0 ?_
    refine Go_tsIn (i := 3) (off := 65) (tgt := 66) dX12_tellsPath_1 (by omega) ⟨⟨by decide, by decide⟩, by decide⟩ (by decide) (by decide) ?_
    refine Go_ald0 dX12_tellsPath_66 ?_
    refine Go_ild1 dX12_tellsPath_67 ?_
    refine Go_iconst dX12_tellsPath_68 ?_
    refine Go_cV2 (d' := 1) (bc' := 0) (bs' := 0) rfl dX12_tellsPath_69 mvX12_span rfl lkX12_180 (by first | assumption | rfl) rfl trivial (by decide) (by decide) (by decide) (Nat.le_of_ble_eq_true rfl) ?_
    refine e_X12_span h hp (Or.inl ⟨rfl, rfl⟩) ?_
    refine Go_ireturn dX12_tellsPath_72 rfl (by first | rfl | decide | exact nar_b | simp [narrow]) ?_
    exact k
  · skip
    refine Go_ild2 dX12_tellsPath_0 ?_
    refine Go_tsIn (i := 4) (off := 72) (tgt := 73) dX12_tellsPath_1 (by omega) ⟨⟨by decide, by decide⟩, by decide⟩ (by decide) (by decide) ?_
    refine Go_ald0 dX12_tellsPath_73 ?_
    refine Go_ild1 dX12_tellsPath_74 ?_
    refine Go_iconst dX12_tellsPath_75 ?_
    refine Go_cV2 (d' := 1) (bc' := 0) (bs' := 0) rfl dX12_tellsPath_76 mvX12_span rfl lkX12_180 (by first | assumption | rfl) rfl trivial (by decide) (by decide) (by decide) (Nat.le_of_ble_eq_true rfl) ?_
    refine e_X12_span h hp (Or.inr ⟨rfl, rfl⟩) ?_
    refine Go_ireturn dX12_tellsPath_79 rfl (by first | rfl | decide | exact nar_b | simp [narrow]) ?_
    exact k
  · skip
    refine Go_ild2 dX12_tellsPath_0 ?_
    refine Go_tsIn (i := 5) (off := 79) (tgt := 80) dX12_tellsPath_1 (by omega) ⟨⟨by decide, by decide⟩, by decide⟩ (by decide) (by decide) ?_
    refine Go_ald0 dX12_tellsPath_80 ?_
    refine Go_ild1 dX12_tellsPath_81 ?_
    refine Go_iconst dX12_tellsPath_82 ?_
    refine Go_cV2 (d' := 0) (bc' := 0) (bs' := 0) rfl dX12_tellsPath_83 mvX12_siteOf rfl lkX12_74 (by first | assumption | rfl) rfl trivial (by decide) (by decide) (by decide) (Nat.le_of_ble_eq_true rfl) ?_
    refine e_X12_siteOf (k0 := 0) h hp rfl (by omega) ?_
    refine Go_ald0 dX12_tellsPath_86 ?_
    refine Go_ild1 dX12_tellsPath_87 ?_
    refine Go_cV1 (d' := 1) (bc' := 0) (bs' := 0) rfl dX12_tellsPath_88 mvX12_headOf rfl lkX12_121 (by first | assumption | rfl) rfl trivial (by decide) (by decide) (by decide) (Nat.le_of_ble_eq_true rfl) ?_
    refine e_X12_headOf h hp ?_
    refine Go_cS2 (d' := 0) (bc' := 0) (bs' := 0) rfl dX12_tellsPath_91 msX12_squared rfl lkX12_171 (by decide) (by decide) (by decide) (Nat.le_of_ble_eq_true rfl) ?_
    refine e_X12_squared (by omega) (by omega) (by omega) (by omega) ?_
    refine Go_ireturn dX12_tellsPath_94 rfl (by first | rfl | decide | exact nar_b | simp [narrow]) ?_
    exact k
  · skip
    refine Go_ild2 dX12_tellsPath_0 ?_
    refine Go_tsIn (i := 6) (off := 94) (tgt := 95) dX12_tellsPath_1 (by omega) ⟨⟨by decide, by decide⟩, by decide⟩ (by decide) (by decide) ?_
    refine Go_ald0 dX12_tellsPath_95 ?_
    refine Go_ald0 dX12_tellsPath_96 ?_
    refine Go_ild1 dX12_tellsPath_97 ?_
    refine Go_cV1 (d' := 1) (bc' := 0) (bs' := 0) rfl dX12_tellsPath_98 mvX12_headOf rfl lkX12_121 (by first | assumption | rfl) rfl trivial (by decide) (by decide) (by decide) (Nat.le_of_ble_eq_true rfl) ?_
    refine e_X12_headOf h hp ?_
    refine Go_cV1 (d' := 2) (bc' := 0) (bs' := 0) rfl dX12_tellsPath_101 mvX12_freeAround rfl lkX12_165 (by first | assumption | rfl) rfl trivial (by decide) (by decide) (by decide) (Nat.le_of_ble_eq_true rfl) ?_
    refine e_X12_freeAround hm h5 hh ?_
    refine Go_ireturn dX12_tellsPath_104 rfl (by first | rfl | decide | exact nar_b | simp [narrow]) ?_
    exact k
  · skip
    refine Go_ild2 dX12_tellsPath_0 ?_
    refine Go_tsIn (i := 7) (off := 104) (tgt := 105) dX12_tellsPath_1 (by omega) ⟨⟨by decide, by decide⟩, by decide⟩ (by decide) (by decide) ?_
    refine Go_ald0 dX12_tellsPath_105 ?_
    refine Go_ild1 dX12_tellsPath_106 ?_
    refine Go_cV1 (d' := 1) (bc' := 0) (bs' := 0) rfl dX12_tellsPath_107 mvX12_moment rfl lkX12_184 (by first | assumption | rfl) rfl trivial (by decide) (by decide) (by decide) (Nat.le_of_ble_eq_true rfl) ?_
    refine e_X12_moment h hp ?_
    refine Go_ireturn dX12_tellsPath_110 rfl (by first | rfl | decide | exact nar_b | simp [narrow]) ?_
    exact k
  · skip
    refine Go_ild2 dX12_tellsPath_0 ?_
    refine Go_tsOut (tgt := 111) dX12_tellsPath_1 (by constructor <;> omega) (by omega) (by decide) ?_
    refine Go_ald0 dX12_tellsPath_111 ?_
    refine Go_ild1 dX12_tellsPath_112 ?_
    refine Go_cV1 (d' := 2) (bc' := 0) (bs' := 0) rfl dX12_tellsPath_113 mvX12_freeBeside rfl lkX12_187 (by first | assumption | rfl) rfl trivial (by decide) (by decide) (by decide) (Nat.le_of_ble_eq_true rfl) ?_
    refine e_X12_freeBeside hm h5 hp ?_
    refine Go_ireturn dX12_tellsPath_116 rfl (by first | rfl | decide | exact nar_b | simp [narrow]) ?_
    exact k
theorem e_X12_path (h : MInv w s sv g tx) (h1 : inR z1) (h2 : inR z2)
    (k : ∀ w' (p : Nat), z1 = p → p < s.1.length → 0 ≤ z2 → z2 ≤ 8 → MX w w' 0 s sv g tx → K (vi (pthA s.1 p z2)) none w')
    (x1 : ∀ w', ¬ (0 ≤ z1 ∧ z1 < s.1.length) → MX w w' 1 s sv g tx → K (vi 0) none w') (x2 : ∀ w', 0 ≤ z1 → z1 < s.1.length → ¬ (0 ≤ z2 ∧ z2 ≤ 8) → MX w w' 2 s sv g tx → K (vi 0) none w') : Ev G yX12_path cX12_path 3 mX12_path none 6 0 0 [vr 68, vi z1, vi z2] w K X := by
  have hm := thr0.MInv h
  refine Ev_intro mvX12_path.1 rfl (fun h => by cases h) (allc1 rfl) (Nat.le_of_ble_eq_true rfl) (Or.inl rfl) ?_
  show Go G cX12_path mX12_path none 6 0 0 0 [some (vr 68), some (vi z1), some (vi z2)] [] w K X
  refine Go_ald0 dX12_path_0 ?_
  refine Go_iconst dX12_path_1 ?_
  refine pf11_0 dX12_path_2 flX12_59 (by first | assumption | rfl) ?_
  refine Go_ald0 dX12_path_5 ?_
  refine Go_ild1 dX12_path_6 ?_
  refine Go_cV1 (d' := 1) (bc' := 0) (bs' := 0) rfl dX12_path_7 mvX12_isPath rfl lkX12_66 (by first | assumption | rfl) rfl trivial (by decide) (by decide) (by decide) (Nat.le_of_ble_eq_true rfl) ?_
  refine e_X12_isPath hm.1 h1 ?_
  refine Go_ifb_ne (tgt := 19) dX12_path_10 (by decide)  (fun h10 => ?_) (fun h10 => ?_)
  · refine Go_ild2 dX12_path_19 ?_
    refine Go_iconst dX12_path_20 ?_
    refine Go_bipush dX12_path_21 (by decide +kernel) ?_
    refine Go_cS3 (d' := 0) (bc' := 0) (bs' := 0) rfl dX12_path_23 msX12_within rfl lkX12_62 (by decide) (by decide) (by decide) (Nat.le_of_ble_eq_true rfl) ?_
    refine e_X12_within h2 (by constructor <;> omega) (by constructor <;> omega) ?_
    refine Go_ifb_ne (tgt := 35) dX12_path_26 (by decide)  (fun h26 => ?_) (fun h26 => ?_)
    · refine Go_ald0 dX12_path_35 ?_
      refine Go_cVv0 (d' := 1) (bc' := 0) (bs' := 0) rfl dX12_path_36 mvX12_lay rfl lkX12_114 (by first | assumption | rfl) rfl trivial (by decide) (by decide) (by decide) (Nat.le_of_ble_eq_true rfl) ?_
      refine e_X12_lay hm.1 (fun w1 m1 f1 => ?_)
      have o := mq_lay (s := s) (sv := sv) (g := g) (tx := tx) f1
      obtain ⟨p, rfl⟩ := Int.eq_ofNat_of_zero_le h10.1
      refine Go_ald0 dX12_path_39 ?_
      refine Go_ild1 dX12_path_40 ?_
      refine Go_ild2 dX12_path_41 ?_
      refine Go_cV2 (d' := 5) (bc' := 0) (bs' := 0) rfl dX12_path_42 mvX12_tellsPath rfl lkX12_190 (by first | assumption | rfl) rfl trivial (by decide) (by decide) (by decide) (Nat.le_of_ble_eq_true rfl) ?_
      refine e_X12_tellsPath (o.1.MInv h).1 m1 (by omega) h26.1 h26.2 ?_
      refine Go_ireturn dX12_path_45 rfl (by first | rfl | decide | exact nar_b | simp [narrow]) ?_
      exact k _ p rfl (by omega) h26.1 h26.2 (MX_q h o.1 o.2)
    · refine Go_ald0 dX12_path_29 ?_
      refine Go_iconst dX12_path_30 ?_
      refine Go_cV1 (d' := 0) (bc' := 0) (bs' := 0) rfl dX12_path_31 mvX12_fails rfl lkX12_78 (by first | assumption | rfl) rfl trivial (by decide) (by decide) (by decide) (Nat.le_of_ble_eq_true rfl) ?_
      refine e_X12_fails ?_
      refine Go_ireturn dX12_path_34 rfl (by first | rfl | decide | exact nar_b | simp [narrow]) ?_
      exact x2 _ h10.1 h10.2 h26 (MX_fail h)
  · refine Go_ald0 dX12_path_13 ?_
    refine Go_iconst dX12_path_14 ?_
    refine Go_cV1 (d' := 0) (bc' := 0) (bs' := 0) rfl dX12_path_15 mvX12_fails rfl lkX12_78 (by first | assumption | rfl) rfl trivial (by decide) (by decide) (by decide) (Nat.le_of_ble_eq_true rfl) ?_
    refine e_X12_fails ?_
    refine Go_ireturn dX12_path_18 rfl (by first | rfl | decide | exact nar_b | simp [narrow]) ?_
    exact x1 _ h10 (MX_fail h)
theorem e_X12_trapped (h : MInv w s sv g tx) (k : ∀ w', MX w w' 0 s sv g tx → K (vi (orF (trpF s.1) s.1.length)) none w') : Ev G yX12_trapped cX12_trapped 3 mX12_trapped none 3 0 0 [vr 68] w K X := by
  have hm := thr0.MInv h
  have h5 := h.1.1.1
  refine Ev_intro mvX12_trapped.1 rfl (fun h => by cases h) (allc1 rfl) (Nat.le_of_ble_eq_true rfl) (Or.inl rfl) ?_
  show Go G cX12_trapped mX12_trapped none 3 0 0 0 [some (vr 68), none, none] [] w K X
  refine Go_ald0 dX12_trapped_0 ?_
  refine Go_iconst dX12_trapped_1 ?_
  refine pf11_0 dX12_trapped_2 flX12_59 (by first | assumption | rfl) ?_
  refine Go_ald0 dX12_trapped_5 ?_
  refine Go_cVv0 (d' := 1) (bc' := 0) (bs' := 0) rfl dX12_trapped_6 mvX12_lay rfl lkX12_114 (by first | assumption | rfl) rfl trivial (by decide) (by decide) (by decide) (Nat.le_of_ble_eq_true rfl) ?_
  refine e_X12_lay hm.1 (fun w1 m1 f1 => ?_)
  have o := mq_lay (s := s) (sv := sv) (g := g) (tx := tx) f1
  have hs := (o.1.MInv h).1
  have e0 := st_n hs
  refine Go_iconst dX12_trapped_9 ?_
  refine Go_ist1 dX12_trapped_10 rfl ?_
  refine Go_iconst dX12_trapped_11 ?_
  refine Go_ist2 dX12_trapped_12 rfl ?_
  refine Go_upTo (n := s.1.length) (L := fun i => [some (vr 68), some (vi ((orF (trpF s.1) i : Nat) : Int)), some (vi (i : Int))]) (P := fun i v => v = w1) (by repeat' (first | exact Or.inl rfl | exact Or.inr rfl | exact Or.inr (lcg (by omega)) | exact trivial | constructor)) (rfl) (fun i v hi hP kn => ?_) (fun v hP => ?_)
  · try dsimp only at hP kn
    try dsimp only
    subst hP
    have hh : hdL (pth s.1 i) < 100 := (h.1.1.lt i).at _
    have b := frD_lt s.1 (hdL (pth s.1 i))
    have e : orF (trpF s.1) (i + 1) = orF (trpF s.1) i ||| (if frD s.1 (hdL (pth s.1 i)) = 0 then 2 ^ i else 0) := rfl
    refine Go_ild2 dX12_trapped_13 ?_
    refine Go_ald0 dX12_trapped_14 ?_
    refine gf11_1 dX12_trapped_15 flX12_7 ?_
    refine Go_iconst dX12_trapped_18 ?_
    refine Go_iald dX12_trapped_19 (by first | assumption | rfl) trivial (by omega) (by omega) (by decide) ?_
    rw [show (0 : Int).toNat = 0 from rfl]
    refine Go_icmp_ge (tgt := 51) dX12_trapped_20 (by decide) (by constructor <;> omega) (by constructor <;> omega) (fun h20 => by omega) (fun h20 => ?_)
    refine Go_ild1 dX12_trapped_23 ?_
    refine Go_ald0 dX12_trapped_24 ?_
    refine Go_ald0 dX12_trapped_25 ?_
    refine Go_ild2 dX12_trapped_26 ?_
    refine Go_cV1 (d' := 1) (bc' := 0) (bs' := 0) rfl dX12_trapped_27 mvX12_headOf rfl lkX12_121 (by first | assumption | rfl) rfl trivial (by decide) (by decide) (by decide) (Nat.le_of_ble_eq_true rfl) ?_
    refine e_X12_headOf hs hi ?_
    refine Go_cV1 (d' := 2) (bc' := 0) (bs' := 0) rfl dX12_trapped_30 mvX12_freeAround rfl lkX12_165 (by first | assumption | rfl) rfl trivial (by decide) (by decide) (by decide) (Nat.le_of_ble_eq_true rfl) ?_
    refine e_X12_freeAround m1 h5 hh ?_
    refine Go_if_ne (tgt := 42) dX12_trapped_33 (by decide) (by constructor <;> omega) (fun h33 => ?_) (fun h33 => ?_)
    · refine Go_iconst dX12_trapped_42 ?_
      try rw [Int.toNat_natCast]
      first | refine Go_ior0 dX12_trapped_43 ?_ | refine Go_ior dX12_trapped_43 ?_
      refine Go_ist1 dX12_trapped_44 rfl ?_
      refine Go_inc2 dX12_trapped_45 rfl ?_
      refine Go_goto (tgt := 13) dX12_trapped_48 (by decide) ?_
      refine Go_forget (ls' := _) ?_ (kn _ rfl)
      first | rw [if_pos (by omega)] at e | rw [if_neg (by omega), Nat.or_zero] at e
      rw [e]
      exact (by repeat' (first | exact Or.inl rfl | exact Or.inr rfl | exact Or.inr (lcg (by omega)) | exact trivial | constructor))
    · refine Go_iconst dX12_trapped_36 ?_
      refine Go_ild2 dX12_trapped_37 ?_
      refine Go_ishl dX12_trapped_38 (by omega) (by omega) ?_
      refine Go_goto (tgt := 43) dX12_trapped_39 (by decide) ?_
      try rw [Int.toNat_natCast]
      first | refine Go_ior0 dX12_trapped_43 ?_ | refine Go_ior dX12_trapped_43 ?_
      refine Go_ist1 dX12_trapped_44 rfl ?_
      refine Go_inc2 dX12_trapped_45 rfl ?_
      refine Go_goto (tgt := 13) dX12_trapped_48 (by decide) ?_
      refine Go_forget (ls' := _) ?_ (kn _ rfl)
      first | rw [if_pos (by omega)] at e | rw [if_neg (by omega), Nat.or_zero] at e
      rw [e]
      exact (by repeat' (first | exact Or.inl rfl | exact Or.inr rfl | exact Or.inr (lcg (by omega)) | exact trivial | constructor))
  · try dsimp only at hP
    try dsimp only
    subst hP
    refine Go_ild2 dX12_trapped_13 ?_
    refine Go_ald0 dX12_trapped_14 ?_
    refine gf11_1 dX12_trapped_15 flX12_7 ?_
    refine Go_iconst dX12_trapped_18 ?_
    refine Go_iald dX12_trapped_19 (by first | assumption | rfl) trivial (by omega) (by omega) (by decide) ?_
    rw [show (0 : Int).toNat = 0 from rfl]
    refine Go_icmp_ge (tgt := 51) dX12_trapped_20 (by decide) (by constructor <;> omega) (by constructor <;> omega) (fun h20 => ?_) (fun h20 => by omega)
    refine Go_ild1 dX12_trapped_51 ?_
    refine Go_ireturn dX12_trapped_52 rfl (by first | rfl | decide | exact nar_b | simp [narrow]) ?_
    exact k _ (MX_q h o.1 o.2)
theorem e_X12_touching (h : MInv w s sv g tx) (h1 : inR z1) (h2 : inR z2)
    (k : ∀ w' (p o : Nat), z1 = p → p < s.1.length → z2 = o → o < s.1.length → p ≠ o → MX w w' 0 s sv g tx → K (vi (toC s.1 p o)) none w')
    (x1 : ∀ w', ¬ (0 ≤ z1 ∧ z1 < s.1.length ∧ 0 ≤ z2 ∧ z2 < s.1.length) → MX w w' 1 s sv g tx → K (vi 0) none w')
    (x2 : ∀ w', 0 ≤ z1 → z1 < s.1.length → z1 = z2 → MX w w' 2 s sv g tx → K (vi 0) none w') : Ev G yX12_touching cX12_touching 6 mX12_touching none 3 0 0 [vr 68, vi z1, vi z2] w K X := by
  have hm := thr0.MInv h
  obtain ⟨a1, a2⟩ := id h1
  obtain ⟨b1, b2⟩ := id h2
  refine Ev_intro mvX12_touching.1 rfl (fun h => by cases h) (allc1 rfl) (Nat.le_of_ble_eq_true rfl) (Or.inl rfl) ?_
  show Go G cX12_touching mX12_touching none 3 0 0 0 [some (vr 68), some (vi z1), some (vi z2), none, none, none] [] w K X
  by_cases c : 0 ≤ z1 ∧ z1 < s.1.length ∧ 0 ≤ z2 ∧ z2 < s.1.length
  case neg =>
    refine Go_ald0 dX12_touching_0 ?_
    refine Go_iconst dX12_touching_1 ?_
    refine pf11_0 dX12_touching_2 flX12_59 (by first | assumption | rfl) ?_
    refine Go_ald0 dX12_touching_5 ?_
    refine Go_ild1 dX12_touching_6 ?_
    refine Go_cV1 (d' := 1) (bc' := 0) (bs' := 0) rfl dX12_touching_7 mvX12_isPath rfl lkX12_66 (by first | assumption | rfl) rfl trivial (by decide) (by decide) (by decide) (Nat.le_of_ble_eq_true rfl) ?_
    refine e_X12_isPath hm.1 h1 ?_
    refine Go_ifb_eq (tgt := 21) dX12_touching_10 (by decide)  (fun h10 => ?_) (fun h10 => ?_)
    · refine Go_ald0 dX12_touching_21 ?_
      refine Go_iconst dX12_touching_22 ?_
      refine Go_cV1 (d' := 0) (bc' := 0) (bs' := 0) rfl dX12_touching_23 mvX12_fails rfl lkX12_78 (by first | assumption | rfl) rfl trivial (by decide) (by decide) (by decide) (Nat.le_of_ble_eq_true rfl) ?_
      refine e_X12_fails ?_
      refine Go_ireturn dX12_touching_26 rfl (by first | rfl | decide | exact nar_b | simp [narrow]) ?_
      exact x1 _ c (MX_fail h)
    · refine Go_ald0 dX12_touching_13 ?_
      refine Go_ild2 dX12_touching_14 ?_
      refine Go_cV1 (d' := 1) (bc' := 0) (bs' := 0) rfl dX12_touching_15 mvX12_isPath rfl lkX12_66 (by first | assumption | rfl) rfl trivial (by decide) (by decide) (by decide) (Nat.le_of_ble_eq_true rfl) ?_
      refine e_X12_isPath hm.1 h2 ?_
      refine Go_ifb_ne (tgt := 27) dX12_touching_18 (by decide)  (fun h18 => by exact absurd ⟨by omega, by omega, by omega, by omega⟩ c) (fun h18 => ?_)
      refine Go_ald0 dX12_touching_21 ?_
      refine Go_iconst dX12_touching_22 ?_
      refine Go_cV1 (d' := 0) (bc' := 0) (bs' := 0) rfl dX12_touching_23 mvX12_fails rfl lkX12_78 (by first | assumption | rfl) rfl trivial (by decide) (by decide) (by decide) (Nat.le_of_ble_eq_true rfl) ?_
      refine e_X12_fails ?_
      refine Go_ireturn dX12_touching_26 rfl (by first | rfl | decide | exact nar_b | simp [narrow]) ?_
      exact x1 _ c (MX_fail h)
  obtain ⟨p, rfl⟩ := Int.eq_ofNat_of_zero_le c.1
  obtain ⟨o, rfl⟩ := Int.eq_ofNat_of_zero_le c.2.2.1
  have hp : p < s.1.length := by omega
  have ho : o < s.1.length := by omega
  by_cases c2 : p = o
  · skip
    refine Go_ald0 dX12_touching_0 ?_
    refine Go_iconst dX12_touching_1 ?_
    refine pf11_0 dX12_touching_2 flX12_59 (by first | assumption | rfl) ?_
    refine Go_ald0 dX12_touching_5 ?_
    refine Go_ild1 dX12_touching_6 ?_
    refine Go_cV1 (d' := 1) (bc' := 0) (bs' := 0) rfl dX12_touching_7 mvX12_isPath rfl lkX12_66 (by first | assumption | rfl) rfl trivial (by decide) (by decide) (by decide) (Nat.le_of_ble_eq_true rfl) ?_
    refine e_X12_isPath hm.1 h1 ?_
    refine Go_ifb_eq (tgt := 21) dX12_touching_10 (by decide)  (fun h10 => by exact absurd ⟨c.1, c.2.1⟩ h10) (fun h10 => ?_)
    refine Go_ald0 dX12_touching_13 ?_
    refine Go_ild2 dX12_touching_14 ?_
    refine Go_cV1 (d' := 1) (bc' := 0) (bs' := 0) rfl dX12_touching_15 mvX12_isPath rfl lkX12_66 (by first | assumption | rfl) rfl trivial (by decide) (by decide) (by decide) (Nat.le_of_ble_eq_true rfl) ?_
    refine e_X12_isPath hm.1 h2 ?_
    refine Go_ifb_ne (tgt := 27) dX12_touching_18 (by decide)  (fun h18 => ?_) (fun h18 => by exact absurd c.2.2 h18)
    refine Go_ild1 dX12_touching_27 ?_
    refine Go_ild2 dX12_touching_28 ?_
    refine Go_icmp_ne (tgt := 38) dX12_touching_29 (by decide) (by constructor <;> omega) (by constructor <;> omega) (fun h29 => by omega) (fun h29 => ?_)
    refine Go_ald0 dX12_touching_32 ?_
    refine Go_iconst dX12_touching_33 ?_
    refine Go_cV1 (d' := 0) (bc' := 0) (bs' := 0) rfl dX12_touching_34 mvX12_fails rfl lkX12_78 (by first | assumption | rfl) rfl trivial (by decide) (by decide) (by decide) (Nat.le_of_ble_eq_true rfl) ?_
    refine e_X12_fails ?_
    refine Go_ireturn dX12_touching_37 rfl (by first | rfl | decide | exact nar_b | simp [narrow]) ?_
    exact x2 _ c.1 c.2.1 (by omega) (MX_fail h)
  have l1 := h.1.1.len hp
  have l2 := h.1.1.len ho
  have kk := k _ p o rfl hp rfl ho c2 (MX_q h thr0 up_s)
  have et : toC s.1 p o = smF (fun k => smF (fun e => if dmI ((pth s.1 p).getD k 0) ((pth s.1 o).getD e 0) ≠ -1 then 1 else 0) (pth s.1 o).length) (pth s.1 p).length := smF_congr (fun k _ => nbN_cnt h.1.1 ((h.1.1.lt p).at k))
  rw [et] at kk
  refine Go_ald0 dX12_touching_0 ?_
  refine Go_iconst dX12_touching_1 ?_
  refine pf11_0 dX12_touching_2 flX12_59 (by first | assumption | rfl) ?_
  refine Go_ald0 dX12_touching_5 ?_
  refine Go_ild1 dX12_touching_6 ?_
  refine Go_cV1 (d' := 1) (bc' := 0) (bs' := 0) rfl dX12_touching_7 mvX12_isPath rfl lkX12_66 (by first | assumption | rfl) rfl trivial (by decide) (by decide) (by decide) (Nat.le_of_ble_eq_true rfl) ?_
  refine e_X12_isPath hm.1 h1 ?_
  refine Go_ifb_eq (tgt := 21) dX12_touching_10 (by decide)  (fun h10 => by exact absurd ⟨c.1, c.2.1⟩ h10) (fun h10 => ?_)
  refine Go_ald0 dX12_touching_13 ?_
  refine Go_ild2 dX12_touching_14 ?_
  refine Go_cV1 (d' := 1) (bc' := 0) (bs' := 0) rfl dX12_touching_15 mvX12_isPath rfl lkX12_66 (by first | assumption | rfl) rfl trivial (by decide) (by decide) (by decide) (Nat.le_of_ble_eq_true rfl) ?_
  refine e_X12_isPath hm.1 h2 ?_
  refine Go_ifb_ne (tgt := 27) dX12_touching_18 (by decide)  (fun h18 => ?_) (fun h18 => by exact absurd c.2.2 h18)
  refine Go_ild1 dX12_touching_27 ?_
  refine Go_ild2 dX12_touching_28 ?_
  refine Go_icmp_ne (tgt := 38) dX12_touching_29 (by decide) (by constructor <;> omega) (by constructor <;> omega) (fun h29 => ?_) (fun h29 => by omega)
  refine Go_iconst dX12_touching_38 ?_
  refine Go_ist3 dX12_touching_39 rfl ?_
  refine Go_iconst dX12_touching_40 ?_
  refine Go_ist4 dX12_touching_41 rfl ?_
  refine Go_upTo (n := (pth s.1 p).length) (L := fun i => [some (vr 68), some (vi (p : Int)), some (vi (o : Int)), some (vi (smF (fun k => smF (fun e => if dmI ((pth s.1 p).getD k 0) ((pth s.1 o).getD e 0) ≠ -1 then 1 else 0) (pth s.1 o).length) i)), some (vi (i : Int)), none]) (P := fun i v => v = up w 68 0 0) (by repeat' (first | exact Or.inl rfl | exact Or.inr rfl | exact Or.inr (lcg (by omega)) | exact trivial | constructor)) (rfl) (fun i v hi hP kn => ?_) (fun v hP => ?_)
  · try dsimp only at hP kn
    try dsimp only
    subst hP
    have e : smF (fun k => smF (fun e => if dmI ((pth s.1 p).getD k 0) ((pth s.1 o).getD e 0) ≠ -1 then (1 : Int) else 0) (pth s.1 o).length) (i + 1) = smF (fun k => smF (fun e => if dmI ((pth s.1 p).getD k 0) ((pth s.1 o).getD e 0) ≠ -1 then (1 : Int) else 0) (pth s.1 o).length) i + smF (fun e => if dmI ((pth s.1 p).getD i 0) ((pth s.1 o).getD e 0) ≠ -1 then (1 : Int) else 0) (pth s.1 o).length := rfl
    have z0 : smF (fun e => if dmI ((pth s.1 p).getD i 0) ((pth s.1 o).getD e 0) ≠ -1 then (1 : Int) else 0) 0 = 0 := rfl
    have bi := (h.1.1.lt p).at i
    refine Go_ild4 dX12_touching_43 ?_
    refine Go_ald0 dX12_touching_45 ?_
    refine Go_ild1 dX12_touching_46 ?_
    refine Go_cV1 (d' := 0) (bc' := 0) (bs' := 0) rfl dX12_touching_47 mvX12_lengthOf rfl lkX12_70 (by first | assumption | rfl) rfl trivial (by decide) (by decide) (by decide) (Nat.le_of_ble_eq_true rfl) ?_
    refine e_X12_lengthOf hm.1 hp ?_
    refine Go_icmp_ge (tgt := 107) dX12_touching_50 (by decide) (by constructor <;> omega) (by constructor <;> omega) (fun h50 => by omega) (fun h50 => ?_)
    refine Go_iconst dX12_touching_53 ?_
    refine Go_ist5 dX12_touching_54 rfl ?_
    refine Go_upTo (n := (pth s.1 o).length) (L := fun i2 => [some (vr 68), some (vi (p : Int)), some (vi (o : Int)), some (vi (smF (fun k => smF (fun e => if dmI ((pth s.1 p).getD k 0) ((pth s.1 o).getD e 0) ≠ -1 then 1 else 0) (pth s.1 o).length) i + smF (fun e => if dmI ((pth s.1 p).getD i 0) ((pth s.1 o).getD e 0) ≠ -1 then 1 else 0) i2)), some (vi (i : Int)), some (vi (i2 : Int))]) (P := fun i2 v2 => v2 = up w 68 0 0) (by repeat' (first | exact Or.inl rfl | exact Or.inr rfl | exact Or.inr (lcg (by omega)) | exact trivial | constructor)) (rfl) (fun i2 v2 hi2 hP2 kn2 => ?_) (fun v2 hP2 => ?_)
    · try dsimp only at hP2 kn2
      try dsimp only
      subst hP2
      have be := (h.1.1.lt o).at i2
      have bd := dmI_in ((pth s.1 p).getD i 0) ((pth s.1 o).getD i2 0)
      have e2 : smF (fun e => if dmI ((pth s.1 p).getD i 0) ((pth s.1 o).getD e 0) ≠ -1 then (1 : Int) else 0) (i2 + 1) = smF (fun e => if dmI ((pth s.1 p).getD i 0) ((pth s.1 o).getD e 0) ≠ -1 then (1 : Int) else 0) i2 + (if dmI ((pth s.1 p).getD i 0) ((pth s.1 o).getD i2 0) ≠ -1 then 1 else 0) := rfl
      refine Go_ild5 dX12_touching_56 ?_
      refine Go_ald0 dX12_touching_58 ?_
      refine Go_ild2 dX12_touching_59 ?_
      refine Go_cV1 (d' := 0) (bc' := 0) (bs' := 0) rfl dX12_touching_60 mvX12_lengthOf rfl lkX12_70 (by first | assumption | rfl) rfl trivial (by decide) (by decide) (by decide) (Nat.le_of_ble_eq_true rfl) ?_
      refine e_X12_lengthOf hm.1 ho ?_
      refine Go_icmp_ge (tgt := 101) dX12_touching_63 (by decide) (by constructor <;> omega) (by constructor <;> omega) (fun h63 => by omega) (fun h63 => ?_)
      refine Go_ild3 dX12_touching_66 ?_
      refine Go_ald0 dX12_touching_67 ?_
      refine Go_ild1 dX12_touching_68 ?_
      refine Go_ild4 dX12_touching_69 ?_
      refine Go_cV2 (d' := 0) (bc' := 0) (bs' := 0) rfl dX12_touching_71 mvX12_siteOf rfl lkX12_74 (by first | assumption | rfl) rfl trivial (by decide) (by decide) (by decide) (Nat.le_of_ble_eq_true rfl) ?_
      refine e_X12_siteOf (k0 := i) hm.1 hp rfl hi ?_
      refine Go_ald0 dX12_touching_74 ?_
      refine Go_ild2 dX12_touching_75 ?_
      refine Go_ild5 dX12_touching_76 ?_
      refine Go_cV2 (d' := 0) (bc' := 0) (bs' := 0) rfl dX12_touching_78 mvX12_siteOf rfl lkX12_74 (by first | assumption | rfl) rfl trivial (by decide) (by decide) (by decide) (Nat.le_of_ble_eq_true rfl) ?_
      refine e_X12_siteOf (k0 := i2) hm.1 ho rfl hi2 ?_
      refine Go_cS2 (d' := 2) (bc' := 0) (bs' := 0) rfl dX12_touching_81 msX12_direction rfl lkX12_140 (by decide) (by decide) (by decide) (Nat.le_of_ble_eq_true rfl) ?_
      refine e_X12_direction (by omega) (by omega) (by constructor <;> omega) ?_
      refine Go_iconst dX12_touching_84 ?_
      refine Go_icmp_eq (tgt := 92) dX12_touching_85 (by decide) (by constructor <;> omega) (by constructor <;> omega) (fun h85 => ?_) (fun h85 => ?_)
      · refine Go_iconst dX12_touching_92 ?_
        refine Go_iadd dX12_touching_93 ?_
        refine Go_ist3 dX12_touching_94 rfl ?_
        refine Go_inc5 dX12_touching_95 rfl ?_
        refine Go_goto (tgt := 56) dX12_touching_98 (by decide) ?_
        refine Go_forget (ls' := _) ?_ (kn2 _ rfl)
        first | rw [if_pos h85] at e2 | rw [if_neg (fun x => x h85)] at e2
        rw [e2]
        exact (by repeat' (first | exact Or.inl rfl | exact Or.inr rfl | exact Or.inr (lcg (by omega)) | exact trivial | constructor))
      · refine Go_iconst dX12_touching_88 ?_
        refine Go_goto (tgt := 93) dX12_touching_89 (by decide) ?_
        refine Go_iadd dX12_touching_93 ?_
        refine Go_ist3 dX12_touching_94 rfl ?_
        refine Go_inc5 dX12_touching_95 rfl ?_
        refine Go_goto (tgt := 56) dX12_touching_98 (by decide) ?_
        refine Go_forget (ls' := _) ?_ (kn2 _ rfl)
        first | rw [if_pos h85] at e2 | rw [if_neg (fun x => x h85)] at e2
        rw [e2]
        exact (by repeat' (first | exact Or.inl rfl | exact Or.inr rfl | exact Or.inr (lcg (by omega)) | exact trivial | constructor))
    · try dsimp only at hP2
      try dsimp only
      subst hP2
      refine Go_ild5 dX12_touching_56 ?_
      refine Go_ald0 dX12_touching_58 ?_
      refine Go_ild2 dX12_touching_59 ?_
      refine Go_cV1 (d' := 0) (bc' := 0) (bs' := 0) rfl dX12_touching_60 mvX12_lengthOf rfl lkX12_70 (by first | assumption | rfl) rfl trivial (by decide) (by decide) (by decide) (Nat.le_of_ble_eq_true rfl) ?_
      refine e_X12_lengthOf hm.1 ho ?_
      refine Go_icmp_ge (tgt := 101) dX12_touching_63 (by decide) (by constructor <;> omega) (by constructor <;> omega) (fun h63 => ?_) (fun h63 => by omega)
      refine Go_inc4 dX12_touching_101 rfl ?_
      refine Go_goto (tgt := 43) dX12_touching_104 (by decide) ?_
      exact Go_forget (by repeat' (first | exact Or.inl rfl | exact Or.inr rfl | exact Or.inr (lcg (by omega)) | exact trivial | constructor)) (kn _ rfl)
  · try dsimp only at hP
    try dsimp only
    subst hP
    refine Go_ild4 dX12_touching_43 ?_
    refine Go_ald0 dX12_touching_45 ?_
    refine Go_ild1 dX12_touching_46 ?_
    refine Go_cV1 (d' := 0) (bc' := 0) (bs' := 0) rfl dX12_touching_47 mvX12_lengthOf rfl lkX12_70 (by first | assumption | rfl) rfl trivial (by decide) (by decide) (by decide) (Nat.le_of_ble_eq_true rfl) ?_
    refine e_X12_lengthOf hm.1 hp ?_
    refine Go_icmp_ge (tgt := 107) dX12_touching_50 (by decide) (by constructor <;> omega) (by constructor <;> omega) (fun h50 => ?_) (fun h50 => by omega)
    refine Go_ild3 dX12_touching_107 ?_
    refine Go_ireturn dX12_touching_108 rfl (by first | rfl | decide | exact nar_b | simp [narrow]) ?_
    exact kk
end Model7
