section Model4
variable {G : Gm} {w : Wd} {K : Kt} {X : Xt} {s : Sta} {sv : List Sta} {g : Nat → Option Sta} {tx : List Nat} {z z1 z2 z3 : Int} {p q k0 n : Nat} {l : List Nat}
/-- a path's record is written anew -/
theorem st_put {w w' : Wd} {a' b' c' : Int} (h : ST w 69 0 s) (hp : p < s.1.length) (ho : OKp (s.1.set p l)) (hl : PR w' p l) (hi : ∀ i, i ≠ 4 + p → (i < 9 + 60 * p ∨ 9 + 60 * p + 60 ≤ i) → 4 ≤ i ∨ i = 0 → w' 69 i = w 69 i) (h1 : w' 69 1 = a') (h2 : w' 69 2 = b') (h3 : w' 69 3 = c') : ST w' 69 0 (s.1.set p l, a', b', c') := by
  have h5 := h.1.1
  refine st_set h hp ho hl (hi 0 (by omega) (by omega) (Or.inr rfl)) (fun q hq hne => ?_) h1 h2 h3
  have o := h.rc.2.2 q hq
  have o60 := o.2.1
  exact ⟨by rw [hi (4 + q) (by omega) (by omega) (by omega)]; exact o.1, o60, fun k hk => by rw [hi (9 + 60 * q + k) (by omega) (by omega) (by omega)]; exact o.2.2 k hk⟩
theorem e_X12_back (h : MInv w s sv g tx) (h1 : inR z1)
    (k : ∀ w' (p : Nat), z1 = p → p < s.1.length → 2 ≤ (pth s.1 p).length → MX w w' 0 (s.1.set p ((pth s.1 p).take ((pth s.1 p).length - 1)), s.2.1, s.2.2.1, s.2.2.2) (pushS sv s) g tx → K (vi ((pth s.1 p).length - 1)) none w')
    (x1 : ∀ w', ¬ (0 ≤ z1 ∧ z1 < s.1.length) → MX w w' 1 s sv g tx → K (vi 0) none w') (x2 : ∀ w' (p : Nat), z1 = p → p < s.1.length → (pth s.1 p).length = 1 → MX w w' 2 s sv g tx → K (vi 0) none w') : Ev G yX12_back cX12_back 2 mX12_back none 2 0 0 [vr 68, vi z1] w K X := by
  have hm := thr0.MInv h
  have h5 := h.1.1.1
  refine Ev_intro mvX12_back.1 rfl (fun h => by cases h) (allc1 rfl) (Nat.le_of_ble_eq_true rfl) (Or.inl rfl) ?_
  show Go G cX12_back mX12_back none 2 0 0 0 [some (vr 68), some (vi z1)] [] w K X
  by_cases c : 0 ≤ z1 ∧ z1 < s.1.length
  case neg =>
    refine Go_ald0 dX12_back_0 ?_
    refine Go_iconst dX12_back_1 ?_
    refine pf11_0 dX12_back_2 flX12_59 (by first | assumption | rfl) ?_
    refine Go_ald0 dX12_back_5 ?_
    refine Go_ild1 dX12_back_6 ?_
    refine Go_cV1 (d' := 1) (bc' := 0) (bs' := 0) rfl dX12_back_7 mvX12_isPath rfl lkX12_66 (by first | assumption | rfl) rfl trivial (by decide) (by decide) (by decide) (Nat.le_of_ble_eq_true rfl) ?_
    refine e_X12_isPath hm.1 h1 ?_
    refine Go_ifb_ne (tgt := 19) dX12_back_10 (by decide)  (fun h10 => by exact absurd h10 c) (fun h10 => ?_)
    refine Go_ald0 dX12_back_13 ?_
    refine Go_iconst dX12_back_14 ?_
    refine Go_cV1 (d' := 0) (bc' := 0) (bs' := 0) rfl dX12_back_15 mvX12_fails rfl lkX12_78 (by first | assumption | rfl) rfl trivial (by decide) (by decide) (by decide) (Nat.le_of_ble_eq_true rfl) ?_
    refine e_X12_fails ?_
    refine Go_ireturn dX12_back_18 rfl (by first | rfl | decide | exact nar_b | simp [narrow]) ?_
    exact x1 _ c (MX_fail h)
  obtain ⟨p, rfl⟩ := Int.eq_ofNat_of_zero_le c.1
  have hp : p < s.1.length := by omega
  have hl := h.1.1.len hp
  refine Go_ald0 dX12_back_0 ?_
  refine Go_iconst dX12_back_1 ?_
  refine pf11_0 dX12_back_2 flX12_59 (by first | assumption | rfl) ?_
  refine Go_ald0 dX12_back_5 ?_
  refine Go_ild1 dX12_back_6 ?_
  refine Go_cV1 (d' := 1) (bc' := 0) (bs' := 0) rfl dX12_back_7 mvX12_isPath rfl lkX12_66 (by first | assumption | rfl) rfl trivial (by decide) (by decide) (by decide) (Nat.le_of_ble_eq_true rfl) ?_
  refine e_X12_isPath hm.1 h1 ?_
  refine Go_ifb_ne (tgt := 19) dX12_back_10 (by decide)  (fun h10 => ?_) (fun h10 => by exact absurd c h10)
  refine Go_ald0 dX12_back_19 ?_
  refine Go_ild1 dX12_back_20 ?_
  refine Go_cV1 (d' := 0) (bc' := 0) (bs' := 0) rfl dX12_back_21 mvX12_lengthOf rfl lkX12_70 (by first | assumption | rfl) rfl trivial (by decide) (by decide) (by decide) (Nat.le_of_ble_eq_true rfl) ?_
  refine e_X12_lengthOf hm.1 hp ?_
  refine Go_iconst dX12_back_24 ?_
  refine Go_icmp_ne (tgt := 34) dX12_back_25 (by decide) (by constructor <;> omega) (by constructor <;> omega) (fun h25 => ?_) (fun h25 => ?_)
  · refine Go_ald0 dX12_back_34 ?_
    refine Go_cVv0 (d' := 0) (bc' := 0) (bs' := 0) rfl dX12_back_35 mvX12_save rfl lkX12_81 (by first | assumption | rfl) rfl trivial (by decide) (by decide) (by decide) (Nat.le_of_ble_eq_true rfl) ?_
    refine e_X12_save hm.1 hm.2.1 (fun w1 v1 f1 g1 => ?_)
    have hm1 := MI_save hm v1 f1 g1
    have f9 : frm w w1 mcs := (frm.rfl.up (by decide) : frm w (up w 68 0 0) mcs).trans f1 (by decide)
    have t0 : w1 68 0 = 0 := by rw [g1 0 (by decide), up_s]
    have ha := st_a hm1.1
    refine Go_ald0 dX12_back_38 ?_
    refine gf11_1 dX12_back_39 flX12_7 ?_
    refine Go_iconst dX12_back_42 ?_
    refine Go_ild1 dX12_back_43 ?_
    refine Go_iadd dX12_back_44 ?_
    refine Go_dup2 dX12_back_45 ?_
    refine Go_iald dX12_back_46 (by first | assumption | rfl) trivial (by omega) (by omega) (by decide) ?_
    rw [show (4 + (p : Int)).toNat = 4 + p by omega, st_l hm1.1 hp]
    refine Go_iconst dX12_back_47 ?_
    refine Go_isub dX12_back_48 ?_
    refine Go_iast dX12_back_49 (by first | assumption | rfl) trivial (by omega) (by omega) (by decide) ?_
    rw [show (4 + (p : Int)).toNat = 4 + p by omega]
    refine Go_ald0 dX12_back_50 ?_
    refine Go_ild1 dX12_back_51 ?_
    refine Go_cV1 (d' := 0) (bc' := 0) (bs' := 0) rfl dX12_back_52 mvX12_lengthOf rfl lkX12_70 (by first | assumption | rfl) rfl trivial (by decide) (by decide) (by decide) (Nat.le_of_ble_eq_true rfl) ?_
    refine e_X12_lengthOfR (x := ((pth s.1 p).length : Int) - 1) (by omega) up_s ?_
    refine Go_ireturn dX12_back_55 rfl (by first | rfl | decide | exact nar_b | simp [narrow]) ?_
    refine k _ p rfl hp (by omega) (mx_of hm1 f9 t0 (A := [69]) (st_put hm1.1 hp (h.1.1.back hp (n := (pth s.1 p).length - 1) (by omega)) ⟨?_, by rw [List.length_take]; omega, fun k hk => ?_⟩ (fun i hi _ _ => up_k hi) ?_ ?_ ?_) (frm.rfl.up (by decide)) (by decide) (by rw [up_a (by decide)]) (by rw [up_a (by decide)]) (by rw [up_a (by decide)]))
    · rw [up_s, List.length_take]; omega
    · rw [List.length_take] at hk
      rw [up_k (by omega), gD_take (by omega)]; exact st_s hm1.1 hp (by omega)
    · rw [up_k (by omega)]; exact ha.1
    · rw [up_k (by omega)]; exact ha.2.1
    · rw [up_k (by omega)]; exact ha.2.2
  · refine Go_ald0 dX12_back_28 ?_
    refine Go_iconst dX12_back_29 ?_
    refine Go_cV1 (d' := 0) (bc' := 0) (bs' := 0) rfl dX12_back_30 mvX12_fails rfl lkX12_78 (by first | assumption | rfl) rfl trivial (by decide) (by decide) (by decide) (Nat.le_of_ble_eq_true rfl) ?_
    refine e_X12_fails ?_
    refine Go_ireturn dX12_back_33 rfl (by first | rfl | decide | exact nar_b | simp [narrow]) ?_
    exact x2 _ p rfl hp (by omega) (MX_fail h)
theorem slr_mk {f f' : Nat → Int} {ps : List (List Nat)} {p d x : Nat} (h : MK f f' ps) (hn : ND ps) (hx : x = (pth ps p).getD 0 0) (hx2 : x < 100) (hl : 1 ≤ (pth ps p).length) (ht : -1 ≤ stepT ps p d ∧ stepT ps p d < 100) : (if stepT ps p d = -1 then (1 : Int) else if (if (stepT ps p d).toNat = x then -1 else f (stepT ps p d).toNat) = -1 then 0 else if (if (stepT ps p d).toNat = x then -1 else f (stepT ps p d).toNat) = p then 2 else 3) = slithR ps p d := by
  unfold slithR
  rw [← hx]
  by_cases c : stepT ps p d = (x : Int)
  · have e1 : (stepT ps p d).toNat = x := by omega
    have e2 : ¬ stepT ps p d = -1 := by omega
    rw [if_pos c, if_neg e2, if_pos e1, if_pos rfl]
  · rw [if_neg c, ← rsn_mk h ht]
    by_cases c1 : stepT ps p d = -1
    · rw [if_pos c1, if_pos c1]
    · have e1 : ¬ (stepT ps p d).toNat = x := by omega
      rw [if_neg c1, if_neg c1, if_neg e1]
theorem e_X12_slither (h : MInv w s sv g tx) (h1 : inR z1) (h2 : inR z2)
    (k : ∀ w' (p d : Nat), z1 = p → p < s.1.length → z2 = d → d < 4 → MX w w' 0 (slithS s p d) (pushS sv s) g tx → K (vi (slithR s.1 p d)) none w')
    (x1 : ∀ w', ¬ (0 ≤ z1 ∧ z1 < s.1.length) → MX w w' 1 s sv g tx → K (vi 0) none w') (x2 : ∀ w', 0 ≤ z1 → z1 < s.1.length → ¬ (0 ≤ z2 ∧ z2 ≤ 3) → MX w w' 2 s sv g tx → K (vi 0) none w') : Ev G yX12_slither cX12_slither 6 mX12_slither none 2 0 0 [vr 68, vi z1, vi z2] w K X := by
  have hm := thr0.MInv h
  have h5 := h.1.1.1
  refine Ev_intro mvX12_slither.1 rfl (fun h => by cases h) (allc1 rfl) (Nat.le_of_ble_eq_true rfl) (Or.inl rfl) ?_
  show Go G cX12_slither mX12_slither none 2 0 0 0 [some (vr 68), some (vi z1), some (vi z2), none, none, none] [] w K X
  by_cases c : 0 ≤ z1 ∧ z1 < s.1.length
  case neg =>
    refine Go_ald0 dX12_slither_0 ?_
    refine Go_iconst dX12_slither_1 ?_
    refine pf11_0 dX12_slither_2 flX12_59 (by first | assumption | rfl) ?_
    refine Go_ald0 dX12_slither_5 ?_
    refine Go_ild1 dX12_slither_6 ?_
    refine Go_cV1 (d' := 1) (bc' := 0) (bs' := 0) rfl dX12_slither_7 mvX12_isPath rfl lkX12_66 (by first | assumption | rfl) rfl trivial (by decide) (by decide) (by decide) (Nat.le_of_ble_eq_true rfl) ?_
    refine e_X12_isPath hm.1 h1 ?_
    refine Go_ifb_ne (tgt := 19) dX12_slither_10 (by decide)  (fun h10 => by exact absurd h10 c) (fun h10 => ?_)
    refine Go_ald0 dX12_slither_13 ?_
    refine Go_iconst dX12_slither_14 ?_
    refine Go_cV1 (d' := 0) (bc' := 0) (bs' := 0) rfl dX12_slither_15 mvX12_fails rfl lkX12_78 (by first | assumption | rfl) rfl trivial (by decide) (by decide) (by decide) (Nat.le_of_ble_eq_true rfl) ?_
    refine e_X12_fails ?_
    refine Go_ireturn dX12_slither_18 rfl (by first | rfl | decide | exact nar_b | simp [narrow]) ?_
    exact x1 _ c (MX_fail h)
  by_cases c2 : 0 ≤ z2 ∧ z2 ≤ 3
  case neg =>
    refine Go_ald0 dX12_slither_0 ?_
    refine Go_iconst dX12_slither_1 ?_
    refine pf11_0 dX12_slither_2 flX12_59 (by first | assumption | rfl) ?_
    refine Go_ald0 dX12_slither_5 ?_
    refine Go_ild1 dX12_slither_6 ?_
    refine Go_cV1 (d' := 1) (bc' := 0) (bs' := 0) rfl dX12_slither_7 mvX12_isPath rfl lkX12_66 (by first | assumption | rfl) rfl trivial (by decide) (by decide) (by decide) (Nat.le_of_ble_eq_true rfl) ?_
    refine e_X12_isPath hm.1 h1 ?_
    refine Go_ifb_ne (tgt := 19) dX12_slither_10 (by decide)  (fun h10 => ?_) (fun h10 => by exact absurd c h10)
    refine Go_ild2 dX12_slither_19 ?_
    refine Go_iconst dX12_slither_20 ?_
    refine Go_iconst dX12_slither_21 ?_
    refine Go_cS3 (d' := 0) (bc' := 0) (bs' := 0) rfl dX12_slither_22 msX12_within rfl lkX12_62 (by decide) (by decide) (by decide) (Nat.le_of_ble_eq_true rfl) ?_
    refine e_X12_within h2 (by constructor <;> omega) (by constructor <;> omega) ?_
    refine Go_ifb_ne (tgt := 34) dX12_slither_25 (by decide)  (fun h25 => by exact absurd h25 c2) (fun h25 => ?_)
    refine Go_ald0 dX12_slither_28 ?_
    refine Go_iconst dX12_slither_29 ?_
    refine Go_cV1 (d' := 0) (bc' := 0) (bs' := 0) rfl dX12_slither_30 mvX12_fails rfl lkX12_78 (by first | assumption | rfl) rfl trivial (by decide) (by decide) (by decide) (Nat.le_of_ble_eq_true rfl) ?_
    refine e_X12_fails ?_
    refine Go_ireturn dX12_slither_33 rfl (by first | rfl | decide | exact nar_b | simp [narrow]) ?_
    exact x2 _ c.1 c.2 c2 (MX_fail h)
  obtain ⟨p, rfl⟩ := Int.eq_ofNat_of_zero_le c.1
  obtain ⟨d, rfl⟩ := Int.eq_ofNat_of_zero_le c2.1
  have hp : p < s.1.length := by omega
  have hd : d < 4 := by omega
  have hl := h.1.1.len hp
  have hh : hdL (pth s.1 p) < 100 := (h.1.1.lt p).at _
  have hz : (pth s.1 p).getD 0 0 < 100 := (h.1.1.lt p).at 0
  have bt := nbI_in (hdL (pth s.1 p)) d
  have eT : nbI (hdL (pth s.1 p)) d = stepT s.1 p d := rfl
  rw [eT] at bt
  have bs : 0 ≤ slithR s.1 p d ∧ slithR s.1 p d ≤ 3 := by
    have := rsn_in s.1 p (stepT s.1 p d)
    unfold slithR
    split <;> omega
  refine Go_ald0 dX12_slither_0 ?_
  refine Go_iconst dX12_slither_1 ?_
  refine pf11_0 dX12_slither_2 flX12_59 (by first | assumption | rfl) ?_
  refine Go_ald0 dX12_slither_5 ?_
  refine Go_ild1 dX12_slither_6 ?_
  refine Go_cV1 (d' := 1) (bc' := 0) (bs' := 0) rfl dX12_slither_7 mvX12_isPath rfl lkX12_66 (by first | assumption | rfl) rfl trivial (by decide) (by decide) (by decide) (Nat.le_of_ble_eq_true rfl) ?_
  refine e_X12_isPath hm.1 h1 ?_
  refine Go_ifb_ne (tgt := 19) dX12_slither_10 (by decide)  (fun h10 => ?_) (fun h10 => by exact absurd c h10)
  refine Go_ild2 dX12_slither_19 ?_
  refine Go_iconst dX12_slither_20 ?_
  refine Go_iconst dX12_slither_21 ?_
  refine Go_cS3 (d' := 0) (bc' := 0) (bs' := 0) rfl dX12_slither_22 msX12_within rfl lkX12_62 (by decide) (by decide) (by decide) (Nat.le_of_ble_eq_true rfl) ?_
  refine e_X12_within h2 (by constructor <;> omega) (by constructor <;> omega) ?_
  refine Go_ifb_ne (tgt := 34) dX12_slither_25 (by decide)  (fun h25 => ?_) (fun h25 => by exact absurd c2 h25)
  refine Go_ald0 dX12_slither_34 ?_
  refine Go_cVv0 (d' := 0) (bc' := 0) (bs' := 0) rfl dX12_slither_35 mvX12_save rfl lkX12_81 (by first | assumption | rfl) rfl trivial (by decide) (by decide) (by decide) (Nat.le_of_ble_eq_true rfl) ?_
  refine e_X12_save hm.1 hm.2.1 (fun w1 v1 f1 g1 => ?_)
  have hm1 := MI_save hm v1 f1 g1
  refine Go_ald0 dX12_slither_38 ?_
  refine Go_cVv0 (d' := 1) (bc' := 0) (bs' := 0) rfl dX12_slither_39 mvX12_lay rfl lkX12_114 (by first | assumption | rfl) rfl trivial (by decide) (by decide) (by decide) (Nat.le_of_ble_eq_true rfl) ?_
  refine e_X12_lay hm1.1 (fun w2 m2 f2 => ?_)
  have hm2 := (mfr.of f2 (by decide)).MInv hm1
  have f9 : frm w w2 mcs := ((frm.rfl.up (by decide) : frm w (up w 68 0 0) mcs).trans f1 (by decide)).trans f2 (by decide)
  have t0 : w2 68 0 = 0 := by rw [f2.at (by decide), g1 0 (by decide), up_s]
  have ha := st_a hm2.1
  refine Go_ald0 dX12_slither_42 ?_
  refine Go_ild1 dX12_slither_43 ?_
  refine Go_cV1 (d' := 1) (bc' := 0) (bs' := 0) rfl dX12_slither_44 mvX12_headOf rfl lkX12_121 (by first | assumption | rfl) rfl trivial (by decide) (by decide) (by decide) (Nat.le_of_ble_eq_true rfl) ?_
  refine e_X12_headOf hm2.1 hp ?_
  refine Go_ild2 dX12_slither_47 ?_
  refine Go_cS2 (d' := 1) (bc' := 0) (bs' := 0) rfl dX12_slither_48 msX12_next rfl lkX12_84 (by decide) (by decide) (by decide) (Nat.le_of_ble_eq_true rfl) ?_
  refine e_X12_next (by omega) (by omega) hd ?_
  rw [eT]
  refine Go_ist3 dX12_slither_51 rfl ?_
  refine Go_ald0 dX12_slither_52 ?_
  refine gf11_8 dX12_slither_53 flX12_25 ?_
  refine Go_ald0 dX12_slither_56 ?_
  refine Go_ild1 dX12_slither_57 ?_
  refine Go_iconst dX12_slither_58 ?_
  refine Go_cV2 (d' := 0) (bc' := 0) (bs' := 0) rfl dX12_slither_59 mvX12_siteOf rfl lkX12_74 (by first | assumption | rfl) rfl trivial (by decide) (by decide) (by decide) (Nat.le_of_ble_eq_true rfl) ?_
  refine e_X12_siteOf (k0 := 0) hm2.1 hp rfl (by omega) ?_
  refine Go_iconst dX12_slither_62 ?_
  refine Go_iast dX12_slither_63 (by first | assumption | rfl) trivial (by omega) (by omega) (by decide) ?_
  rw [Int.toNat_natCast]
  have ef : ∀ j, up w2 74 ((pth s.1 p).getD 0 0) (-1) 74 j = if j = (pth s.1 p).getD 0 0 then -1 else w2 74 j := fun j => by
    by_cases q : j = (pth s.1 p).getD 0 0
    · rw [if_pos q, q, up_s]
    · rw [if_neg q, up_k q]
  have hm3 := (mfr.rfl.upd (w := w2) (w' := w2) (a := 74) (k := (pth s.1 p).getD 0 0) (z := -1) (by decide) (Or.inl (by decide))).MInv hm2
  have f8 : frm w (up w2 74 ((pth s.1 p).getD 0 0) (-1)) mcs := f9.up (by decide)
  have t3 : up w2 74 ((pth s.1 p).getD 0 0) (-1) 68 0 = 0 := by rw [up_a (by decide)]; exact t0
  have ha3 := st_a hm3.1
  refine Go_ald0 dX12_slither_64 ?_
  refine Go_ild1 dX12_slither_65 ?_
  refine Go_ild3 dX12_slither_66 ?_
  refine Go_cV2 (d' := 0) (bc' := 0) (bs' := 0) rfl dX12_slither_67 mvX12_reason rfl lkX12_124 (by first | assumption | rfl) rfl trivial (by decide) (by decide) (by decide) (Nat.le_of_ble_eq_true rfl) ?_
  refine e_X12_reason bt (fun q => by rw [ef]; split; exact ⟨by decide, by decide⟩; exact mk_r m2 h5 bt.2 q) (by omega) ?_
  rw [ef, slr_mk m2 h.1.1.nd rfl hz hl.1 bt]
  generalize up w2 74 ((pth s.1 p).getD 0 0) (-1) = w3 at *
  refine Go_ist4 dX12_slither_70 rfl ?_
  by_cases r0 : slithR s.1 p d = 0
  · have o := h.1.1.slith (s := s) hp hd
    rw [slithS_t r0] at o
    have kk := fun w' => k w' p d rfl hp rfl hd
    rw [slithS_t r0] at kk
    have nn : 0 ≤ stepT s.1 p d := by
      unfold slithR at r0
      split at r0
      · omega
      · exact (rsn_0 h.1.1.nd bt r0).1
    refine Go_ild4 dX12_slither_72 ?_
    refine Go_if_eq (tgt := 90) dX12_slither_74 (by decide) (by constructor <;> omega) (fun h74 => ?_) (fun h74 => by omega)
    refine Go_ald0 dX12_slither_90 ?_
    refine Go_ild1 dX12_slither_91 ?_
    refine Go_cVv1 (d' := 1) (bc' := 0) (bs' := 0) rfl dX12_slither_92 mvX12_takeRow rfl lkX12_108 (by first | assumption | rfl) rfl trivial (by decide) (by decide) (by decide) (Nat.le_of_ble_eq_true rfl) ?_
    refine e_X12_takeRow (by omega) (hm3.1.rc.2.2 p hp) (fun w4 r4 f4 g4 => ?_)
    refine Go_iconst dX12_slither_95 ?_
    refine Go_ist5 dX12_slither_96 rfl ?_
    refine Go_upTo (n := (pth s.1 p).length - 1) (L := fun i => [some (vr 68), some (vi (p : Int)), some (vi (d : Int)), some (vi (stepT s.1 p d)), some (vi (slithR s.1 p d)), some (vi (i : Int))]) (P := fun i v => frm w4 v [78] ∧ (∀ j, i ≤ j → v 78 j = w4 78 j) ∧ ∀ j, j < i → v 78 j = ((pth s.1 p).getD (j + 1) 0 : Int)) (by repeat' (first | exact Or.inl rfl | exact Or.inr rfl | exact Or.inr (lcg (by omega)) | exact trivial | constructor)) (⟨frm.rfl, fun j hj => rfl, fun j hj => by omega⟩) (fun i v hi hP kn => ?_) (fun v hP => ?_)
    · try dsimp only at hP kn
      try dsimp only
      obtain ⟨f5, a1, a2⟩ := hP
      have e := r4.1
      have e2 : v 68 14 = ((pth s.1 p).length : Int) := by rw [f5.at (by decide)]; exact e
      have e3 := r4.2.2 (i + 1) (by omega)
      refine Go_ild5 dX12_slither_98 ?_
      refine Go_ald0 dX12_slither_100 ?_
      refine gf11_14 dX12_slither_101 flX12_101 (by first | assumption | rfl) ?_
      refine Go_iconst dX12_slither_104 ?_
      refine Go_isub dX12_slither_105 ?_
      refine Go_icmp_ge (tgt := 131) dX12_slither_106 (by decide) (by constructor <;> omega) (by constructor <;> omega) (fun h106 => by omega) (fun h106 => ?_)
      refine Go_ald0 dX12_slither_109 ?_
      refine gf11_13 dX12_slither_110 flX12_37 ?_
      refine Go_ild5 dX12_slither_113 ?_
      refine Go_ald0 dX12_slither_115 ?_
      refine gf11_13 dX12_slither_116 flX12_37 ?_
      refine Go_ild5 dX12_slither_119 ?_
      refine Go_iconst dX12_slither_121 ?_
      refine Go_iadd dX12_slither_122 ?_
      refine Go_iald dX12_slither_123 (by first | assumption | rfl) trivial (by omega) (by omega) (by decide) ?_
      rw [show ((i : Int) + 1).toNat = i + 1 by omega, a1 (i + 1) (by omega), e3]
      refine Go_iast dX12_slither_124 (by first | assumption | rfl) trivial (by omega) (by omega) (by decide) ?_
      refine Go_inc5 dX12_slither_125 rfl ?_
      refine Go_goto (tgt := 98) dX12_slither_128 (by decide) ?_
      rw [Int.toNat_natCast]
      refine Go_forget (by repeat' (first | exact Or.inl rfl | exact Or.inr rfl | exact Or.inr (lcg (by omega)) | exact trivial | constructor)) (kn _ ⟨f5.up (by simp), fun j hj => by rw [up_k (by omega)]; exact a1 j (by omega), fun j hj => ?_⟩)
      by_cases q : j = i
      · subst q; rw [up_s]
      · rw [up_k q]; exact a2 j (by omega)
    · try dsimp only at hP
      try dsimp only
      obtain ⟨f5, a1, a2⟩ := hP
      have e := r4.1
      have e2 : v 68 14 = ((pth s.1 p).length : Int) := by rw [f5.at (by decide)]; exact e
      refine Go_ild5 dX12_slither_98 ?_
      refine Go_ald0 dX12_slither_100 ?_
      refine gf11_14 dX12_slither_101 flX12_101 (by first | assumption | rfl) ?_
      refine Go_iconst dX12_slither_104 ?_
      refine Go_isub dX12_slither_105 ?_
      refine Go_icmp_ge (tgt := 131) dX12_slither_106 (by decide) (by constructor <;> omega) (by constructor <;> omega) (fun h106 => ?_) (fun h106 => by omega)
      refine Go_ald0 dX12_slither_131 ?_
      refine gf11_13 dX12_slither_132 flX12_37 ?_
      refine Go_ald0 dX12_slither_135 ?_
      refine gf11_14 dX12_slither_136 flX12_101 (by first | assumption | rfl) ?_
      refine Go_iconst dX12_slither_139 ?_
      refine Go_isub dX12_slither_140 ?_
      rw [e2]
      refine Go_ild3 dX12_slither_141 ?_
      refine Go_iast dX12_slither_142 (by first | assumption | rfl) trivial (by omega) (by omega) (by decide) ?_
      rw [show (((pth s.1 p).length : Int) - 1).toNat = (pth s.1 p).length - 1 by omega]
      have f6 : frm w3 (up v 78 ((pth s.1 p).length - 1) (stepT s.1 p d)) [68, 78] := (f4.trans f5 (by decide)).up (by decide)
      have dl : ((pth s.1 p).drop 1 ++ [(stepT s.1 p d).toNat]).length = (pth s.1 p).length := by rw [List.length_append, List.length_drop]; simp; omega
      have r6 : RW (up v 78 ((pth s.1 p).length - 1) (stepT s.1 p d)) ((pth s.1 p).drop 1 ++ [(stepT s.1 p d).toNat]) := ⟨by rw [up_a (by decide), dl]; exact e2, by rw [dl]; exact hl.2, fun j hj => by
        rw [dl] at hj
        rw [gD_app, List.length_drop]
        by_cases q : j = (pth s.1 p).length - 1
        · subst q; rw [up_s, if_neg (by omega), Nat.sub_self]; show _ = (((stepT s.1 p d).toNat : Nat) : Int); omega
        · rw [up_k q, if_pos (by omega), drop_getD, show 1 + j = j + 1 by omega]; exact a2 j (by omega)⟩
      refine Go_ald0 dX12_slither_143 ?_
      refine Go_ild1 dX12_slither_144 ?_
      refine Go_cVv1 (d' := 1) (bc' := 0) (bs' := 0) rfl dX12_slither_145 mvX12_giveRow rfl lkX12_111 (by first | assumption | rfl) rfl trivial (by decide) (by decide) (by decide) (Nat.le_of_ble_eq_true rfl) ?_
      refine e_X12_giveRow (by omega) r6 (fun w5 p5 f7 g5 => ?_)
      refine Go_ald0 dX12_slither_148 ?_
      refine gf11_1 dX12_slither_149 flX12_7 ?_
      refine Go_iconst dX12_slither_152 ?_
      refine Go_dup2 dX12_slither_153 ?_
      refine Go_iald dX12_slither_154 (by first | assumption | rfl) trivial (by omega) (by omega) (by decide) ?_
      refine Go_iconst dX12_slither_155 ?_
      refine Go_iadd dX12_slither_156 ?_
      refine Go_iast dX12_slither_157 (by first | assumption | rfl) trivial (by omega) (by omega) (by decide) ?_
      refine Go_iconst dX12_slither_158 ?_
      refine Go_ireturn dX12_slither_159 rfl (by first | rfl | decide | exact nar_b | simp [narrow]) ?_
      have e69 : ∀ j, up v 78 ((pth s.1 p).length - 1) (stepT s.1 p d) 69 j = w3 69 j := fun j => by rw [f6.at (by decide)]
      have e68 : ∀ j, j ≠ 14 → up v 78 ((pth s.1 p).length - 1) (stepT s.1 p d) 68 j = w3 68 j := fun j hj => by rw [up_a (by decide), f5.at (by decide)]; exact g4 j hj
      rw [show (1 : Int).toNat = 1 from rfl]
      refine kI r0.symm (kk _ (mx_of hm3 f8 t3 (A := [68, 69, 78]) (st_put hm3.1 hp o (p5.keep (by omega) (by omega)) (fun i i1 i2 i3 => by rw [up_k (by omega), g5 i i1 i2, e69]) ?_ ?_ ?_) (((f6.mono (by decide)).trans f7 (by decide)).up (by decide)) (by decide) ?_ ?_ ?_))
      · rw [up_s, g5 1 (by omega) (by omega), e69, ha3.1]
      · rw [up_k (by omega), g5 2 (by omega) (by omega), e69]; exact ha3.2.1
      · rw [up_k (by omega), g5 3 (by omega) (by omega), e69]; exact ha3.2.2
      · rw [up_a (by decide), f7.at (by decide)]; exact e68 0 (by decide)
      · rw [up_a (by decide), f7.at (by decide)]; exact e68 3 (by decide)
      · rw [up_a (by decide), f7.at (by decide)]; exact e68 7 (by decide)
  · have kk := fun w' => k w' p d rfl hp rfl hd
    rw [slithS_f r0] at kk
    have fin : MX w (up w3 69 2 (w3 69 2 + 1)) 0 (s.1, s.2.1, s.2.2.1 + 1, s.2.2.2) (pushS sv s) g tx := mx_of hm3 f8 t3 (A := [69]) (st_mk h.1.1 (by rw [up_k (by decide)]; exact (st_n hm3.1 :)) (by rw [up_k (by decide)]; exact ha3.1) (by rw [up_s, ha3.2.1]) (by rw [up_k (by decide)]; exact ha3.2.2) (fun q hq => by rw [up_k (by omega)]; exact (st_l hm3.1 hq :)) (fun q k hq hk => by rw [up_k (by omega)]; exact (st_s hm3.1 hq hk :))) (frm.rfl.up (by decide)) (by decide) (by rw [up_a (by decide)]) (by rw [up_a (by decide)]) (by rw [up_a (by decide)])
    refine Go_ild4 dX12_slither_72 ?_
    refine Go_if_eq (tgt := 90) dX12_slither_74 (by decide) (by constructor <;> omega) (fun h74 => by omega) (fun h74 => ?_)
    refine Go_ald0 dX12_slither_77 ?_
    refine gf11_1 dX12_slither_78 flX12_7 ?_
    refine Go_iconst dX12_slither_81 ?_
    refine Go_dup2 dX12_slither_82 ?_
    refine Go_iald dX12_slither_83 (by first | assumption | rfl) trivial (by omega) (by omega) (by decide) ?_
    refine Go_iconst dX12_slither_84 ?_
    refine Go_iadd dX12_slither_85 ?_
    refine Go_iast dX12_slither_86 (by first | assumption | rfl) trivial (by omega) (by omega) (by decide) ?_
    refine Go_ild4 dX12_slither_87 ?_
    refine Go_ireturn dX12_slither_89 rfl (by first | rfl | decide | exact nar_b | simp [narrow]) ?_
    rw [show (2 : Int).toNat = 2 from rfl]
    exact kk _ fin
theorem e_X12_reverseRow (h : RW w l) (hp : 1 ≤ l.length) (k : ∀ w', RW w' l.reverse → frm w w' [78] → K (vi 0) none w') : Ev G yX12_reverseRow cX12_reverseRow 3 mX12_reverseRow none 0 0 0 [vr 68] w K X := by
  obtain ⟨hn, h60, hj⟩ := h
  refine Ev_intro mvX12_reverseRow.1 rfl (fun h => by cases h) (allc1 rfl) (Nat.le_of_ble_eq_true rfl) (Or.inl rfl) ?_
  show Go G cX12_reverseRow mX12_reverseRow none 0 0 0 0 [some (vr 68), none, none] [] w K X
  refine Go_iconst dX12_reverseRow_0 ?_
  refine Go_ist1 dX12_reverseRow_1 rfl ?_
  refine Go_upTo (n := l.length / 2) (L := fun i => [some (vr 68), some (vi (i : Int)), none]) (P := fun i v => frm w v [78] ∧ ∀ j, j < l.length → v 78 j = if j < i ∨ l.length - 1 - j < i then (l.getD (l.length - 1 - j) 0 : Int) else (l.getD j 0 : Int)) (by repeat' (first | exact Or.inl rfl | exact Or.inr rfl | exact Or.inr (lcg (by omega)) | exact trivial | constructor)) (⟨frm.rfl, fun j q => by rw [if_neg (by omega)]; exact hj j q⟩) (fun i v hi hP kn => ?_) (fun v hP => ?_)
  · try dsimp only at hP kn
    try dsimp only
    obtain ⟨f1, hv⟩ := hP
    have e1 := hv i (by omega)
    have e2 := hv (l.length - 1 - i) (by omega)
    rw [if_neg (by omega)] at e1 e2
    have en : v 68 14 = (l.length : Int) := by rw [f1.at (by decide)]; exact hn
    refine Go_ild1 dX12_reverseRow_2 ?_
    refine Go_ald0 dX12_reverseRow_3 ?_
    refine gf11_14 dX12_reverseRow_4 flX12_101 (by first | assumption | rfl) ?_
    rw [en]
    refine Go_iconst dX12_reverseRow_7 ?_
    refine Go_idiv dX12_reverseRow_8 (by omega) (by omega) (by omega) (by omega) ?_
    refine Go_icmp_ge (tgt := 58) dX12_reverseRow_9 (by decide) (by constructor <;> omega) (by constructor <;> omega) (fun h9 => by omega) (fun h9 => ?_)
    refine Go_ald0 dX12_reverseRow_12 ?_
    refine gf11_13 dX12_reverseRow_13 flX12_37 ?_
    refine Go_ild1 dX12_reverseRow_16 ?_
    refine Go_iald dX12_reverseRow_17 (by first | assumption | rfl) trivial (by omega) (by omega) (by decide) ?_
    refine Go_ist2 dX12_reverseRow_18 rfl ?_
    refine Go_ald0 dX12_reverseRow_19 ?_
    refine gf11_13 dX12_reverseRow_20 flX12_37 ?_
    refine Go_ild1 dX12_reverseRow_23 ?_
    refine Go_ald0 dX12_reverseRow_24 ?_
    refine gf11_13 dX12_reverseRow_25 flX12_37 ?_
    refine Go_ald0 dX12_reverseRow_28 ?_
    refine gf11_14 dX12_reverseRow_29 flX12_101 (by first | assumption | rfl) ?_
    rw [en]
    refine Go_iconst dX12_reverseRow_32 ?_
    refine Go_isub dX12_reverseRow_33 ?_
    refine Go_ild1 dX12_reverseRow_34 ?_
    refine Go_isub dX12_reverseRow_35 ?_
    refine Go_iald dX12_reverseRow_36 (by first | assumption | rfl) trivial (by omega) (by omega) (by decide) ?_
    refine Go_iast dX12_reverseRow_37 (by first | assumption | rfl) trivial (by omega) (by omega) (by decide) ?_
    refine Go_ald0 dX12_reverseRow_38 ?_
    refine gf11_13 dX12_reverseRow_39 flX12_37 ?_
    refine Go_ald0 dX12_reverseRow_42 ?_
    refine gf11_14 dX12_reverseRow_43 flX12_101 (by first | assumption | rfl) ?_
    rw [up_a (by decide), en]
    refine Go_iconst dX12_reverseRow_46 ?_
    refine Go_isub dX12_reverseRow_47 ?_
    refine Go_ild1 dX12_reverseRow_48 ?_
    refine Go_isub dX12_reverseRow_49 ?_
    refine Go_ild2 dX12_reverseRow_50 ?_
    refine Go_iast dX12_reverseRow_51 (by first | assumption | rfl) trivial (by omega) (by omega) (by decide) ?_
    refine Go_inc1 dX12_reverseRow_52 rfl ?_
    refine Go_goto (tgt := 2) dX12_reverseRow_55 (by decide) ?_
    refine Go_forget (ls' := _) ?_ (kn _ ⟨(f1.up (by simp)).up (by simp), fun j q => ?_⟩)
    · exact (by repeat' (first | exact Or.inl rfl | exact Or.inr rfl | exact Or.inr (lcg (by omega)) | exact trivial | constructor))
    · rw [Int.toNat_natCast, show ((l.length : Int) - 1 - i).toNat = l.length - 1 - i by omega, e1, e2]
      by_cases q1 : j = l.length - 1 - i
      · subst q1; rw [up_s, if_pos (by omega), show l.length - 1 - (l.length - 1 - i) = i by omega]
      · rw [up_k q1]
        by_cases q2 : j = i
        · subst q2; rw [up_s, if_pos (by omega)]
        · rw [up_k q2, hv j q]
          by_cases q3 : j < i ∨ l.length - 1 - j < i
          · rw [if_pos q3, if_pos (by omega)]
          · rw [if_neg q3, if_neg (by omega)]
  · try dsimp only at hP
    try dsimp only
    obtain ⟨f1, hv⟩ := hP
    have en : v 68 14 = (l.length : Int) := by rw [f1.at (by decide)]; exact hn
    refine Go_ild1 dX12_reverseRow_2 ?_
    refine Go_ald0 dX12_reverseRow_3 ?_
    refine gf11_14 dX12_reverseRow_4 flX12_101 (by first | assumption | rfl) ?_
    rw [en]
    refine Go_iconst dX12_reverseRow_7 ?_
    refine Go_idiv dX12_reverseRow_8 (by omega) (by omega) (by omega) (by omega) ?_
    refine Go_icmp_ge (tgt := 58) dX12_reverseRow_9 (by decide) (by constructor <;> omega) (by constructor <;> omega) (fun h9 => ?_) (fun h9 => by omega)
    refine Go_return dX12_reverseRow_58 rfl ?_
    refine k _ ⟨by rw [en, List.length_reverse], by rw [List.length_reverse]; exact h60, fun j q => ?_⟩ f1
    rw [List.length_reverse] at q
    rw [hv j q, gD_rev q]
    by_cases q3 : j < l.length / 2 ∨ l.length - 1 - j < l.length / 2
    · rw [if_pos q3]
    · rw [if_neg q3, show l.length - 1 - j = j by omega]
theorem e_X12_reverse (h : MInv w s sv g tx) (h1 : inR z1)
    (k : ∀ w' (p : Nat), z1 = p → p < s.1.length → MX w w' 0 (s.1.set p (pth s.1 p).reverse, s.2.1, s.2.2.1, s.2.2.2) (pushS sv s) g tx → K (vi (hdL (pth s.1 p).reverse)) none w')
    (x1 : ∀ w', ¬ (0 ≤ z1 ∧ z1 < s.1.length) → MX w w' 1 s sv g tx → K (vi 0) none w') : Ev G yX12_reverse cX12_reverse 2 mX12_reverse none 2 0 0 [vr 68, vi z1] w K X := by
  have hm := thr0.MInv h
  have h5 := h.1.1.1
  refine Ev_intro mvX12_reverse.1 rfl (fun h => by cases h) (allc1 rfl) (Nat.le_of_ble_eq_true rfl) (Or.inl rfl) ?_
  show Go G cX12_reverse mX12_reverse none 2 0 0 0 [some (vr 68), some (vi z1)] [] w K X
  by_cases c : 0 ≤ z1 ∧ z1 < s.1.length
  case neg =>
    refine Go_ald0 dX12_reverse_0 ?_
    refine Go_iconst dX12_reverse_1 ?_
    refine pf11_0 dX12_reverse_2 flX12_59 (by first | assumption | rfl) ?_
    refine Go_ald0 dX12_reverse_5 ?_
    refine Go_ild1 dX12_reverse_6 ?_
    refine Go_cV1 (d' := 1) (bc' := 0) (bs' := 0) rfl dX12_reverse_7 mvX12_isPath rfl lkX12_66 (by first | assumption | rfl) rfl trivial (by decide) (by decide) (by decide) (Nat.le_of_ble_eq_true rfl) ?_
    refine e_X12_isPath hm.1 h1 ?_
    refine Go_ifb_ne (tgt := 19) dX12_reverse_10 (by decide)  (fun h10 => by exact absurd h10 c) (fun h10 => ?_)
    refine Go_ald0 dX12_reverse_13 ?_
    refine Go_iconst dX12_reverse_14 ?_
    refine Go_cV1 (d' := 0) (bc' := 0) (bs' := 0) rfl dX12_reverse_15 mvX12_fails rfl lkX12_78 (by first | assumption | rfl) rfl trivial (by decide) (by decide) (by decide) (Nat.le_of_ble_eq_true rfl) ?_
    refine e_X12_fails ?_
    refine Go_ireturn dX12_reverse_18 rfl (by first | rfl | decide | exact nar_b | simp [narrow]) ?_
    exact x1 _ c (MX_fail h)
  obtain ⟨p, rfl⟩ := Int.eq_ofNat_of_zero_le c.1
  have hp : p < s.1.length := by omega
  have hl := h.1.1.len hp
  have o := h.1.1.rev hp
  refine Go_ald0 dX12_reverse_0 ?_
  refine Go_iconst dX12_reverse_1 ?_
  refine pf11_0 dX12_reverse_2 flX12_59 (by first | assumption | rfl) ?_
  refine Go_ald0 dX12_reverse_5 ?_
  refine Go_ild1 dX12_reverse_6 ?_
  refine Go_cV1 (d' := 1) (bc' := 0) (bs' := 0) rfl dX12_reverse_7 mvX12_isPath rfl lkX12_66 (by first | assumption | rfl) rfl trivial (by decide) (by decide) (by decide) (Nat.le_of_ble_eq_true rfl) ?_
  refine e_X12_isPath hm.1 h1 ?_
  refine Go_ifb_ne (tgt := 19) dX12_reverse_10 (by decide)  (fun h10 => ?_) (fun h10 => by exact absurd c h10)
  refine Go_ald0 dX12_reverse_19 ?_
  refine Go_cVv0 (d' := 0) (bc' := 0) (bs' := 0) rfl dX12_reverse_20 mvX12_save rfl lkX12_81 (by first | assumption | rfl) rfl trivial (by decide) (by decide) (by decide) (Nat.le_of_ble_eq_true rfl) ?_
  refine e_X12_save hm.1 hm.2.1 (fun w1 v1 f1 g1 => ?_)
  have hm1 := MI_save hm v1 f1 g1
  have f9 : frm w w1 mcs := (frm.rfl.up (by decide) : frm w (up w 68 0 0) mcs).trans f1 (by decide)
  have t0 : w1 68 0 = 0 := by rw [g1 0 (by decide), up_s]
  have ha := st_a hm1.1
  refine Go_ald0 dX12_reverse_23 ?_
  refine Go_ild1 dX12_reverse_24 ?_
  refine Go_cVv1 (d' := 1) (bc' := 0) (bs' := 0) rfl dX12_reverse_25 mvX12_takeRow rfl lkX12_108 (by first | assumption | rfl) rfl trivial (by decide) (by decide) (by decide) (Nat.le_of_ble_eq_true rfl) ?_
  refine e_X12_takeRow (by omega) (hm1.1.rc.2.2 p hp) (fun w2 r2 f2 g2 => ?_)
  refine Go_ald0 dX12_reverse_28 ?_
  refine Go_cVv0 (d' := 0) (bc' := 0) (bs' := 0) rfl dX12_reverse_29 mvX12_reverseRow rfl lkX12_137 (by first | assumption | rfl) rfl trivial (by decide) (by decide) (by decide) (Nat.le_of_ble_eq_true rfl) ?_
  refine e_X12_reverseRow r2 hl.1 (fun w3 r3 f3 => ?_)
  refine Go_ald0 dX12_reverse_32 ?_
  refine Go_ild1 dX12_reverse_33 ?_
  refine Go_cVv1 (d' := 1) (bc' := 0) (bs' := 0) rfl dX12_reverse_34 mvX12_giveRow rfl lkX12_111 (by first | assumption | rfl) rfl trivial (by decide) (by decide) (by decide) (Nat.le_of_ble_eq_true rfl) ?_
  refine e_X12_giveRow (by omega) r3 (fun w4 p4 f4 g4 => ?_)
  have e69 : ∀ j, w3 69 j = w1 69 j := fun j => by rw [f3.at (by decide), f2.at (by decide)]
  have m4 : ST w4 69 0 (s.1.set p (pth s.1 p).reverse, s.2.1, s.2.2.1, s.2.2.2) := st_put hm1.1 hp o p4 (fun i i1 i2 _ => by rw [g4 i i1 i2, e69]) (by rw [g4 1 (by omega) (by omega), e69]; exact ha.1) (by rw [g4 2 (by omega) (by omega), e69]; exact ha.2.1) (by rw [g4 3 (by omega) (by omega), e69]; exact ha.2.2)
  have ep : pth (s.1.set p (pth s.1 p).reverse) p = (pth s.1 p).reverse := by rw [pth_set hp, if_pos rfl]
  refine Go_ald0 dX12_reverse_37 ?_
  refine Go_ild1 dX12_reverse_38 ?_
  refine Go_cV1 (d' := 1) (bc' := 0) (bs' := 0) rfl dX12_reverse_39 mvX12_headOf rfl lkX12_121 (by first | assumption | rfl) rfl trivial (by decide) (by decide) (by decide) (Nat.le_of_ble_eq_true rfl) ?_
  refine e_X12_headOf m4 (by rw [List.length_set]; exact hp) ?_
  rw [ep]
  refine Go_ireturn dX12_reverse_42 rfl (by first | rfl | decide | exact nar_b | simp [narrow]) ?_
  exact k _ p rfl hp (mx_of hm1 f9 t0 (A := [68, 69, 78]) m4 (((f2.mono (by decide)).trans f3 (by decide)).trans f4 (by decide)) (by decide) (by rw [f4.at (by decide), f3.at (by decide), g2 0 (by decide)]) (by rw [f4.at (by decide), f3.at (by decide), g2 3 (by decide)]) (by rw [f4.at (by decide), f3.at (by decide), g2 7 (by decide)]))
theorem e_X12_remove (h : MInv w s sv g tx) (h1 : inR z1)
    (k : ∀ w' (p : Nat), z1 = p → p < s.1.length → MX w w' 0 (s.1.eraseIdx p, s.2.1, s.2.2.1, s.2.2.2) (pushS sv s) g tx → K (vi ((s.1.eraseIdx p).length)) none w')
    (x1 : ∀ w', ¬ (0 ≤ z1 ∧ z1 < s.1.length) → MX w w' 1 s sv g tx → K (vi 0) none w') : Ev G yX12_remove cX12_remove 2 mX12_remove none 3 0 0 [vr 68, vi z1] w K X := by
  have hm := thr0.MInv h
  have h5 := h.1.1.1
  refine Ev_intro mvX12_remove.1 rfl (fun h => by cases h) (allc1 rfl) (Nat.le_of_ble_eq_true rfl) (Or.inl rfl) ?_
  show Go G cX12_remove mX12_remove none 3 0 0 0 [some (vr 68), some (vi z1)] [] w K X
  by_cases c : 0 ≤ z1 ∧ z1 < s.1.length
  case neg =>
    refine Go_ald0 dX12_remove_0 ?_
    refine Go_iconst dX12_remove_1 ?_
    refine pf11_0 dX12_remove_2 flX12_59 (by first | assumption | rfl) ?_
    refine Go_ald0 dX12_remove_5 ?_
    refine Go_ild1 dX12_remove_6 ?_
    refine Go_cV1 (d' := 1) (bc' := 0) (bs' := 0) rfl dX12_remove_7 mvX12_isPath rfl lkX12_66 (by first | assumption | rfl) rfl trivial (by decide) (by decide) (by decide) (Nat.le_of_ble_eq_true rfl) ?_
    refine e_X12_isPath hm.1 h1 ?_
    refine Go_ifb_ne (tgt := 19) dX12_remove_10 (by decide)  (fun h10 => by exact absurd h10 c) (fun h10 => ?_)
    refine Go_ald0 dX12_remove_13 ?_
    refine Go_iconst dX12_remove_14 ?_
    refine Go_cV1 (d' := 0) (bc' := 0) (bs' := 0) rfl dX12_remove_15 mvX12_fails rfl lkX12_78 (by first | assumption | rfl) rfl trivial (by decide) (by decide) (by decide) (Nat.le_of_ble_eq_true rfl) ?_
    refine e_X12_fails ?_
    refine Go_ireturn dX12_remove_18 rfl (by first | rfl | decide | exact nar_b | simp [narrow]) ?_
    exact x1 _ c (MX_fail h)
  obtain ⟨p, rfl⟩ := Int.eq_ofNat_of_zero_le c.1
  have hp : p < s.1.length := by omega
  have le : (s.1.eraseIdx p).length = s.1.length - 1 := by rw [List.length_eraseIdx, if_pos hp]
  refine Go_ald0 dX12_remove_0 ?_
  refine Go_iconst dX12_remove_1 ?_
  refine pf11_0 dX12_remove_2 flX12_59 (by first | assumption | rfl) ?_
  refine Go_ald0 dX12_remove_5 ?_
  refine Go_ild1 dX12_remove_6 ?_
  refine Go_cV1 (d' := 1) (bc' := 0) (bs' := 0) rfl dX12_remove_7 mvX12_isPath rfl lkX12_66 (by first | assumption | rfl) rfl trivial (by decide) (by decide) (by decide) (Nat.le_of_ble_eq_true rfl) ?_
  refine e_X12_isPath hm.1 h1 ?_
  refine Go_ifb_ne (tgt := 19) dX12_remove_10 (by decide)  (fun h10 => ?_) (fun h10 => by exact absurd c h10)
  refine Go_ald0 dX12_remove_19 ?_
  refine Go_cVv0 (d' := 0) (bc' := 0) (bs' := 0) rfl dX12_remove_20 mvX12_save rfl lkX12_81 (by first | assumption | rfl) rfl trivial (by decide) (by decide) (by decide) (Nat.le_of_ble_eq_true rfl) ?_
  refine e_X12_save hm.1 hm.2.1 (fun w1 v1 f1 g1 => ?_)
  have hm1 := MI_save hm v1 f1 g1
  have f9 : frm w w1 mcs := (frm.rfl.up (by decide) : frm w (up w 68 0 0) mcs).trans f1 (by decide)
  have t0 : w1 68 0 = 0 := by rw [g1 0 (by decide), up_s]
  have ha := st_a hm1.1
  refine Go_ald0 dX12_remove_23 ?_
  refine Go_ild1 dX12_remove_24 ?_
  refine Go_cVv1 (d' := 2) (bc' := 0) (bs' := 0) rfl dX12_remove_25 mvX12_dropPath rfl lkX12_143 (by first | assumption | rfl) rfl trivial (by decide) (by decide) (by decide) (Nat.le_of_ble_eq_true rfl) ?_
  refine e_X12_dropPath hm1.1.rc hp (fun w2 r2 f2 g2 g3 => ?_)
  have m2 : ST w2 69 0 (s.1.eraseIdx p, s.2.1, s.2.2.1, s.2.2.2) := RC.st r2 (h.1.1.erase hp) le (fun q hq => pth_erase) (by rw [g3 1 (by omega) (by omega)]; exact ha.1) (by rw [g3 2 (by omega) (by omega)]; exact ha.2.1) (by rw [g3 3 (by omega) (by omega)]; exact ha.2.2)
  refine Go_ald0 dX12_remove_28 ?_
  refine gf11_1 dX12_remove_29 flX12_7 ?_
  refine Go_iconst dX12_remove_32 ?_
  refine Go_iald dX12_remove_33 (by first | assumption | rfl) trivial (by omega) (by omega) (by decide) ?_
  rw [show (0 : Int).toNat = 0 from rfl, st_n m2]
  refine Go_ireturn dX12_remove_34 rfl (by first | rfl | decide | exact nar_b | simp [narrow]) ?_
  exact k _ p rfl hp (mx_of hm1 f9 t0 (A := [68, 69, 78]) m2 f2 (by decide) (g2 0 (by decide)) (g2 3 (by decide)) (g2 7 (by decide)))
theorem e_X12_split (h : MInv w s sv g tx) (h1 : inR z1) (h2 : inR z2)
    (k : ∀ w' (p j : Nat), z1 = p → p < s.1.length → z2 = j → j + 1 < (pth s.1 p).length → s.1.length < 5 → MX w w' 0 (s.1.set p ((pth s.1 p).take (j + 1)) ++ [(pth s.1 p).drop (j + 1)], s.2.1, s.2.2.1, s.2.2.2) (pushS sv s) g tx → K (vi s.1.length) none w')
    (x1 : ∀ w', (∀ p j : Nat, z1 = p → p < s.1.length → z2 = j → ¬ j + 1 < (pth s.1 p).length) → MX w w' 1 s sv g tx → K (vi 0) none w') (x2 : ∀ w' (p j : Nat), z1 = p → p < s.1.length → z2 = j → j + 1 < (pth s.1 p).length → s.1.length = 5 → MX w w' 2 s sv g tx → K (vi 0) none w') : Ev G yX12_split cX12_split 4 mX12_split none 3 0 0 [vr 68, vi z1, vi z2] w K X := by
  have hm := thr0.MInv h
  have h5 := h.1.1.1
  refine Ev_intro mvX12_split.1 rfl (fun h => by cases h) (allc1 rfl) (Nat.le_of_ble_eq_true rfl) (Or.inl rfl) ?_
  show Go G cX12_split mX12_split none 3 0 0 0 [some (vr 68), some (vi z1), some (vi z2), none] [] w K X
  refine Go_ald0 dX12_split_0 ?_
  refine Go_iconst dX12_split_1 ?_
  refine pf11_0 dX12_split_2 flX12_59 (by first | assumption | rfl) ?_
  refine Go_ald0 dX12_split_5 ?_
  refine Go_ild1 dX12_split_6 ?_
  refine Go_ild2 dX12_split_7 ?_
  refine Go_cV2 (d' := 2) (bc' := 0) (bs' := 0) rfl dX12_split_8 mvX12_isSite rfl lkX12_131 (by first | assumption | rfl) rfl trivial (by decide) (by decide) (by decide) (Nat.le_of_ble_eq_true rfl) ?_
  refine e_X12_isSite hm.1 h1 h2 (fun p j e hp e2 hj => ?_) (fun q => ?_)
  · subst e e2
    have hl := h.1.1.len hp
    by_cases c : j + 1 < (pth s.1 p).length
    case neg =>
      refine Go_if_eq (tgt := 25) dX12_split_11 (by decide) (by constructor <;> omega) (fun h11 => by omega) (fun h11 => ?_)
      refine Go_ild2 dX12_split_14 ?_
      refine Go_ald0 dX12_split_15 ?_
      refine Go_ild1 dX12_split_16 ?_
      refine Go_cV1 (d' := 0) (bc' := 0) (bs' := 0) rfl dX12_split_17 mvX12_lengthOf rfl lkX12_70 (by first | assumption | rfl) rfl trivial (by decide) (by decide) (by decide) (Nat.le_of_ble_eq_true rfl) ?_
      refine e_X12_lengthOf hm.1 hp ?_
      refine Go_iconst dX12_split_20 ?_
      refine Go_isub dX12_split_21 ?_
      refine Go_icmp_ne (tgt := 31) dX12_split_22 (by decide) (by constructor <;> omega) (by constructor <;> omega) (fun h22 => by omega) (fun h22 => ?_)
      refine Go_ald0 dX12_split_25 ?_
      refine Go_iconst dX12_split_26 ?_
      refine Go_cV1 (d' := 0) (bc' := 0) (bs' := 0) rfl dX12_split_27 mvX12_fails rfl lkX12_78 (by first | assumption | rfl) rfl trivial (by decide) (by decide) (by decide) (Nat.le_of_ble_eq_true rfl) ?_
      refine e_X12_fails ?_
      refine Go_ireturn dX12_split_30 rfl (by first | rfl | decide | exact nar_b | simp [narrow]) ?_
      exact x1 _ (fun p' j' e hp' e2 hj' => by have e3 : p = p' := (by omega); subst e3; omega) (MX_fail h)
    by_cases c5 : s.1.length = 5
    · have e0 := st_n hm.1
      refine Go_if_eq (tgt := 25) dX12_split_11 (by decide) (by constructor <;> omega) (fun h11 => by omega) (fun h11 => ?_)
      refine Go_ild2 dX12_split_14 ?_
      refine Go_ald0 dX12_split_15 ?_
      refine Go_ild1 dX12_split_16 ?_
      refine Go_cV1 (d' := 0) (bc' := 0) (bs' := 0) rfl dX12_split_17 mvX12_lengthOf rfl lkX12_70 (by first | assumption | rfl) rfl trivial (by decide) (by decide) (by decide) (Nat.le_of_ble_eq_true rfl) ?_
      refine e_X12_lengthOf hm.1 hp ?_
      refine Go_iconst dX12_split_20 ?_
      refine Go_isub dX12_split_21 ?_
      refine Go_icmp_ne (tgt := 31) dX12_split_22 (by decide) (by constructor <;> omega) (by constructor <;> omega) (fun h22 => ?_) (fun h22 => by omega)
      refine Go_ald0 dX12_split_31 ?_
      refine gf11_1 dX12_split_32 flX12_7 ?_
      refine Go_iconst dX12_split_35 ?_
      refine Go_iald dX12_split_36 (by first | assumption | rfl) trivial (by omega) (by omega) (by decide) ?_
      rw [show (0 : Int).toNat = 0 from rfl, e0]
      refine Go_iconst dX12_split_37 ?_
      refine Go_icmp_ne (tgt := 47) dX12_split_38 (by decide) (by constructor <;> omega) (by constructor <;> omega) (fun h38 => by omega) (fun h38 => ?_)
      refine Go_ald0 dX12_split_41 ?_
      refine Go_iconst dX12_split_42 ?_
      refine Go_cV1 (d' := 0) (bc' := 0) (bs' := 0) rfl dX12_split_43 mvX12_fails rfl lkX12_78 (by first | assumption | rfl) rfl trivial (by decide) (by decide) (by decide) (Nat.le_of_ble_eq_true rfl) ?_
      refine e_X12_fails ?_
      refine Go_ireturn dX12_split_46 rfl (by first | rfl | decide | exact nar_b | simp [narrow]) ?_
      exact x2 _ p j rfl hp rfl c c5 (MX_fail h)
    · have e0 := st_n hm.1
      have oS := h.1.1.split (by omega) hp c
      have lt : ((pth s.1 p).take (j + 1)).length = j + 1 := by rw [List.length_take]; omega
      refine Go_if_eq (tgt := 25) dX12_split_11 (by decide) (by constructor <;> omega) (fun h11 => by omega) (fun h11 => ?_)
      refine Go_ild2 dX12_split_14 ?_
      refine Go_ald0 dX12_split_15 ?_
      refine Go_ild1 dX12_split_16 ?_
      refine Go_cV1 (d' := 0) (bc' := 0) (bs' := 0) rfl dX12_split_17 mvX12_lengthOf rfl lkX12_70 (by first | assumption | rfl) rfl trivial (by decide) (by decide) (by decide) (Nat.le_of_ble_eq_true rfl) ?_
      refine e_X12_lengthOf hm.1 hp ?_
      refine Go_iconst dX12_split_20 ?_
      refine Go_isub dX12_split_21 ?_
      refine Go_icmp_ne (tgt := 31) dX12_split_22 (by decide) (by constructor <;> omega) (by constructor <;> omega) (fun h22 => ?_) (fun h22 => by omega)
      refine Go_ald0 dX12_split_31 ?_
      refine gf11_1 dX12_split_32 flX12_7 ?_
      refine Go_iconst dX12_split_35 ?_
      refine Go_iald dX12_split_36 (by first | assumption | rfl) trivial (by omega) (by omega) (by decide) ?_
      rw [show (0 : Int).toNat = 0 from rfl, e0]
      refine Go_iconst dX12_split_37 ?_
      refine Go_icmp_ne (tgt := 47) dX12_split_38 (by decide) (by constructor <;> omega) (by constructor <;> omega) (fun h38 => ?_) (fun h38 => by omega)
      refine Go_ald0 dX12_split_47 ?_
      refine Go_cVv0 (d' := 0) (bc' := 0) (bs' := 0) rfl dX12_split_48 mvX12_save rfl lkX12_81 (by first | assumption | rfl) rfl trivial (by decide) (by decide) (by decide) (Nat.le_of_ble_eq_true rfl) ?_
      refine e_X12_save hm.1 hm.2.1 (fun w1 v1 f1 g1 => ?_)
      have hm1 := MI_save hm v1 f1 g1
      have f9 : frm w w1 mcs := (frm.rfl.up (by decide) : frm w (up w 68 0 0) mcs).trans f1 (by decide)
      have t0 : w1 68 0 = 0 := by rw [g1 0 (by decide), up_s]
      have ha := st_a hm1.1
      refine Go_ald0 dX12_split_51 ?_
      refine Go_ald0 dX12_split_52 ?_
      refine Go_ild1 dX12_split_53 ?_
      refine Go_cV1 (d' := 0) (bc' := 0) (bs' := 0) rfl dX12_split_54 mvX12_lengthOf rfl lkX12_70 (by first | assumption | rfl) rfl trivial (by decide) (by decide) (by decide) (Nat.le_of_ble_eq_true rfl) ?_
      refine e_X12_lengthOf hm1.1 hp ?_
      refine Go_ild2 dX12_split_57 ?_
      refine Go_isub dX12_split_58 ?_
      refine Go_iconst dX12_split_59 ?_
      refine Go_isub dX12_split_60 ?_
      refine pf11_14 dX12_split_61 flX12_101 (by first | assumption | rfl) ?_
      rw [show ((pth s.1 p).length : Int) - (j : Int) - 1 = (((pth s.1 p).drop (j + 1)).length : Nat) by rw [List.length_drop]; omega]
      refine Go_iconst dX12_split_64 ?_
      refine Go_ist3 dX12_split_65 rfl ?_
      refine Go_upTo (n := ((pth s.1 p).drop (j + 1)).length) (L := fun i => [some (vr 68), some (vi (p : Int)), some (vi (j : Int)), some (vi (i : Int))]) (P := fun i v => v 68 14 = (((pth s.1 p).drop (j + 1)).length : Int) ∧ frm w1 v [68, 78] ∧ (∀ j, j ≠ 14 → v 68 j = w1 68 j) ∧ ∀ m, m < i → v 78 m = (((pth s.1 p).drop (j + 1)).getD m 0 : Int)) (by repeat' (first | exact Or.inl rfl | exact Or.inr rfl | exact Or.inr (lcg (by omega)) | exact trivial | constructor)) (⟨up_s, frm.rfl.up (by simp), fun j hj => up_k hj, fun j hj => by omega⟩) (fun i v hi hP kn => ?_) (fun v hP => ?_)
      · try dsimp only at hP kn
        try dsimp only
        obtain ⟨a1, f2, a2, a3⟩ := hP
        have hs := hm1.1.frm f2 (by decide)
        have dl : ((pth s.1 p).drop (j + 1)).length = (pth s.1 p).length - (j + 1) := List.length_drop
        refine Go_ild3 dX12_split_66 ?_
        refine Go_ald0 dX12_split_67 ?_
        refine gf11_14 dX12_split_68 flX12_101 (by first | assumption | rfl) ?_
        refine Go_icmp_ge (tgt := 96) dX12_split_71 (by decide) (by constructor <;> omega) (by constructor <;> omega) (fun h71 => by omega) (fun h71 => ?_)
        refine Go_ald0 dX12_split_74 ?_
        refine gf11_13 dX12_split_75 flX12_37 ?_
        refine Go_ild3 dX12_split_78 ?_
        refine Go_ald0 dX12_split_79 ?_
        refine Go_ild1 dX12_split_80 ?_
        refine Go_ild2 dX12_split_81 ?_
        refine Go_iconst dX12_split_82 ?_
        refine Go_iadd dX12_split_83 ?_
        refine Go_ild3 dX12_split_84 ?_
        refine Go_iadd dX12_split_85 ?_
        refine Go_cV2 (d' := 0) (bc' := 0) (bs' := 0) rfl dX12_split_86 mvX12_siteOf rfl lkX12_74 (by first | assumption | rfl) rfl trivial (by decide) (by decide) (by decide) (Nat.le_of_ble_eq_true rfl) ?_
        refine e_X12_siteOf (k0 := j + 1 + i) hs hp (by omega) (by omega) ?_
        refine Go_iast dX12_split_89 (by first | assumption | rfl) trivial (by omega) (by omega) (by decide) ?_
        refine Go_inc3 dX12_split_90 rfl ?_
        refine Go_goto (tgt := 66) dX12_split_93 (by decide) ?_
        rw [Int.toNat_natCast]
        refine Go_forget (by repeat' (first | exact Or.inl rfl | exact Or.inr rfl | exact Or.inr (lcg (by omega)) | exact trivial | constructor)) (kn _ ⟨by rw [up_a (by decide)]; exact a1, f2.up (by simp), fun m hm => by rw [up_a (by decide)]; exact a2 m hm, fun m hm => ?_⟩)
        by_cases q : m = i
        · subst q; rw [up_s, drop_getD]
        · rw [up_k q]; exact a3 m (by omega)
      · try dsimp only at hP
        try dsimp only
        obtain ⟨a1, f2, a2, a3⟩ := hP
        have hs := hm1.1.frm f2 (by decide)
        have dl : ((pth s.1 p).drop (j + 1)).length = (pth s.1 p).length - (j + 1) := List.length_drop
        have hsa := st_a hs
        refine Go_ild3 dX12_split_66 ?_
        refine Go_ald0 dX12_split_67 ?_
        refine gf11_14 dX12_split_68 flX12_101 (by first | assumption | rfl) ?_
        refine Go_icmp_ge (tgt := 96) dX12_split_71 (by decide) (by constructor <;> omega) (by constructor <;> omega) (fun h71 => ?_) (fun h71 => by omega)
        refine Go_ald0 dX12_split_96 ?_
        refine gf11_1 dX12_split_97 flX12_7 ?_
        refine Go_iconst dX12_split_100 ?_
        refine Go_ild1 dX12_split_101 ?_
        refine Go_iadd dX12_split_102 ?_
        refine Go_ild2 dX12_split_103 ?_
        refine Go_iconst dX12_split_104 ?_
        refine Go_iadd dX12_split_105 ?_
        refine Go_iast dX12_split_106 (by first | assumption | rfl) trivial (by omega) (by omega) (by decide) ?_
        rw [show (4 + (p : Int)).toNat = 4 + p by omega]
        have oB : OKp (s.1.set p ((pth s.1 p).take (j + 1))) := h.1.1.back hp (n := j + 1) (by omega)
        have m3 : ST (up v 69 (4 + p) ((j : Int) + 1)) 69 0 (s.1.set p ((pth s.1 p).take (j + 1)), s.2.1, s.2.2.1, s.2.2.2) := st_put hs hp oB ⟨by rw [up_s, lt]; omega, by rw [lt]; omega, fun m hm => by rw [lt] at hm; rw [up_k (by omega), gD_take hm]; exact st_s hs hp (by omega)⟩ (fun i hi _ _ => up_k hi) (by rw [up_k (by omega)]; exact hsa.1) (by rw [up_k (by omega)]; exact hsa.2.1) (by rw [up_k (by omega)]; exact hsa.2.2)
        have r3 : RW (up v 69 (4 + p) ((j : Int) + 1)) ((pth s.1 p).drop (j + 1)) := ⟨by rw [up_a (by decide)]; exact a1, by omega, fun m hm => by rw [up_a (by decide)]; exact a3 m hm⟩
        have ls : (s.1.set p ((pth s.1 p).take (j + 1))).length = s.1.length := List.length_set
        have rc3 := m3.rc
        rw [ls] at rc3
        refine Go_ald0 dX12_split_107 ?_
        refine Go_cV0 (d' := 1) (bc' := 0) (bs' := 0) rfl dX12_split_108 mvX12_addPath rfl lkX12_117 (by first | assumption | rfl) rfl trivial (by decide) (by decide) (by decide) (Nat.le_of_ble_eq_true rfl) ?_
        refine e_X12_addPath rc3 (by omega) r3 (fun w4 r4 f4 g4 => ?_)
        refine Go_ireturn dX12_split_111 rfl (by first | rfl | decide | exact nar_b | simp [narrow]) ?_
        have m3a := st_a m3
        refine k _ p j rfl hp rfl c (by omega) (mx_of hm1 f9 t0 (A := [68, 69, 78]) (RC.st r4 oS (by rw [List.length_append, ls]; rfl) (fun q hq => by rw [pth_app, ls]) ?_ ?_ ?_) (((f2.mono (by decide)).up (by decide)).trans f4 (by decide)) (by decide) ?_ ?_ ?_)
        · rw [g4 1 (by omega) (by omega)]; exact m3a.1
        · rw [g4 2 (by omega) (by omega)]; exact m3a.2.1
        · rw [g4 3 (by omega) (by omega)]; exact m3a.2.2
        · rw [f4.at (by decide), up_a (by decide), a2 0 (by decide)]
        · rw [f4.at (by decide), up_a (by decide), a2 3 (by decide)]
        · rw [f4.at (by decide), up_a (by decide), a2 7 (by decide)]
  · skip
    refine Go_if_eq (tgt := 25) dX12_split_11 (by decide) (by constructor <;> omega) (fun h11 => ?_) (fun h11 => by omega)
    refine Go_ald0 dX12_split_25 ?_
    refine Go_iconst dX12_split_26 ?_
    refine Go_cV1 (d' := 0) (bc' := 0) (bs' := 0) rfl dX12_split_27 mvX12_fails rfl lkX12_78 (by first | assumption | rfl) rfl trivial (by decide) (by decide) (by decide) (Nat.le_of_ble_eq_true rfl) ?_
    refine e_X12_fails ?_
    refine Go_ireturn dX12_split_30 rfl (by first | rfl | decide | exact nar_b | simp [narrow]) ?_
    exact x1 _ (fun p j e hp e2 hj => q p j e hp e2 (by omega)) (MX_fail h)
theorem e_X12_join (h : MInv w s sv g tx) (h1 : inR z1) (h2 : inR z2)
    (k : ∀ w' (p o : Nat), z1 = p → p < s.1.length → z2 = o → o < s.1.length → p ≠ o → nbr (hdL (pth s.1 p)) (hdL (pth s.1 o)) → (pth s.1 p).length + (pth s.1 o).length ≤ 60 → MX w w' 0 (weldP s.1 p o, s.2.1, s.2.2.1, s.2.2.2) (pushS sv s) g tx → K (vi (((pth s.1 p).length : Int) + (pth s.1 o).length)) none w')
    (x1 : ∀ w', ¬ (0 ≤ z1 ∧ z1 < s.1.length ∧ 0 ≤ z2 ∧ z2 < s.1.length) → MX w w' 1 s sv g tx → K (vi 0) none w')
    (x2 : ∀ w', 0 ≤ z1 → z1 < s.1.length → z1 = z2 → MX w w' 2 s sv g tx → K (vi 0) none w')
    (x3 : ∀ w' (p o : Nat), z1 = p → p < s.1.length → z2 = o → o < s.1.length → p ≠ o → ¬ (nbr (hdL (pth s.1 p)) (hdL (pth s.1 o)) ∧ (pth s.1 p).length + (pth s.1 o).length ≤ 60) → MX w w' 3 s sv g tx → K (vi 0) none w') : Ev G yX12_join cX12_join 6 mX12_join none 3 0 0 [vr 68, vi z1, vi z2] w K X := by
  have hm := thr0.MInv h
  have h5 := h.1.1.1
  obtain ⟨a1, a2⟩ := id h1
  obtain ⟨b1, b2⟩ := id h2
  refine Ev_intro mvX12_join.1 rfl (fun h => by cases h) (allc1 rfl) (Nat.le_of_ble_eq_true rfl) (Or.inl rfl) ?_
  show Go G cX12_join mX12_join none 3 0 0 0 [some (vr 68), some (vi z1), some (vi z2), none, none, none] [] w K X
  by_cases c : 0 ≤ z1 ∧ z1 < s.1.length ∧ 0 ≤ z2 ∧ z2 < s.1.length
  case neg =>
    refine Go_ald0 dX12_join_0 ?_
    refine Go_iconst dX12_join_1 ?_
    refine pf11_0 dX12_join_2 flX12_59 (by first | assumption | rfl) ?_
    refine Go_ald0 dX12_join_5 ?_
    refine Go_ild1 dX12_join_6 ?_
    refine Go_cV1 (d' := 1) (bc' := 0) (bs' := 0) rfl dX12_join_7 mvX12_isPath rfl lkX12_66 (by first | assumption | rfl) rfl trivial (by decide) (by decide) (by decide) (Nat.le_of_ble_eq_true rfl) ?_
    refine e_X12_isPath hm.1 h1 ?_
    refine Go_ifb_eq (tgt := 21) dX12_join_10 (by decide)  (fun h10 => ?_) (fun h10 => ?_)
    · refine Go_ald0 dX12_join_21 ?_
      refine Go_iconst dX12_join_22 ?_
      refine Go_cV1 (d' := 0) (bc' := 0) (bs' := 0) rfl dX12_join_23 mvX12_fails rfl lkX12_78 (by first | assumption | rfl) rfl trivial (by decide) (by decide) (by decide) (Nat.le_of_ble_eq_true rfl) ?_
      refine e_X12_fails ?_
      refine Go_ireturn dX12_join_26 rfl (by first | rfl | decide | exact nar_b | simp [narrow]) ?_
      exact x1 _ c (MX_fail h)
    · refine Go_ald0 dX12_join_13 ?_
      refine Go_ild2 dX12_join_14 ?_
      refine Go_cV1 (d' := 1) (bc' := 0) (bs' := 0) rfl dX12_join_15 mvX12_isPath rfl lkX12_66 (by first | assumption | rfl) rfl trivial (by decide) (by decide) (by decide) (Nat.le_of_ble_eq_true rfl) ?_
      refine e_X12_isPath hm.1 h2 ?_
      refine Go_ifb_ne (tgt := 27) dX12_join_18 (by decide)  (fun h18 => by exact absurd ⟨by omega, by omega, by omega, by omega⟩ c) (fun h18 => ?_)
      refine Go_ald0 dX12_join_21 ?_
      refine Go_iconst dX12_join_22 ?_
      refine Go_cV1 (d' := 0) (bc' := 0) (bs' := 0) rfl dX12_join_23 mvX12_fails rfl lkX12_78 (by first | assumption | rfl) rfl trivial (by decide) (by decide) (by decide) (Nat.le_of_ble_eq_true rfl) ?_
      refine e_X12_fails ?_
      refine Go_ireturn dX12_join_26 rfl (by first | rfl | decide | exact nar_b | simp [narrow]) ?_
      exact x1 _ c (MX_fail h)
  obtain ⟨p, rfl⟩ := Int.eq_ofNat_of_zero_le c.1
  obtain ⟨o, rfl⟩ := Int.eq_ofNat_of_zero_le c.2.2.1
  have hp : p < s.1.length := by omega
  have ho : o < s.1.length := by omega
  by_cases c2 : p = o
  · skip
    refine Go_ald0 dX12_join_0 ?_
    refine Go_iconst dX12_join_1 ?_
    refine pf11_0 dX12_join_2 flX12_59 (by first | assumption | rfl) ?_
    refine Go_ald0 dX12_join_5 ?_
    refine Go_ild1 dX12_join_6 ?_
    refine Go_cV1 (d' := 1) (bc' := 0) (bs' := 0) rfl dX12_join_7 mvX12_isPath rfl lkX12_66 (by first | assumption | rfl) rfl trivial (by decide) (by decide) (by decide) (Nat.le_of_ble_eq_true rfl) ?_
    refine e_X12_isPath hm.1 h1 ?_
    refine Go_ifb_eq (tgt := 21) dX12_join_10 (by decide)  (fun h10 => by exact absurd ⟨c.1, c.2.1⟩ h10) (fun h10 => ?_)
    refine Go_ald0 dX12_join_13 ?_
    refine Go_ild2 dX12_join_14 ?_
    refine Go_cV1 (d' := 1) (bc' := 0) (bs' := 0) rfl dX12_join_15 mvX12_isPath rfl lkX12_66 (by first | assumption | rfl) rfl trivial (by decide) (by decide) (by decide) (Nat.le_of_ble_eq_true rfl) ?_
    refine e_X12_isPath hm.1 h2 ?_
    refine Go_ifb_ne (tgt := 27) dX12_join_18 (by decide)  (fun h18 => ?_) (fun h18 => by exact absurd c.2.2 h18)
    refine Go_ild1 dX12_join_27 ?_
    refine Go_ild2 dX12_join_28 ?_
    refine Go_icmp_ne (tgt := 38) dX12_join_29 (by decide) (by constructor <;> omega) (by constructor <;> omega) (fun h29 => by omega) (fun h29 => ?_)
    refine Go_ald0 dX12_join_32 ?_
    refine Go_iconst dX12_join_33 ?_
    refine Go_cV1 (d' := 0) (bc' := 0) (bs' := 0) rfl dX12_join_34 mvX12_fails rfl lkX12_78 (by first | assumption | rfl) rfl trivial (by decide) (by decide) (by decide) (Nat.le_of_ble_eq_true rfl) ?_
    refine e_X12_fails ?_
    refine Go_ireturn dX12_join_37 rfl (by first | rfl | decide | exact nar_b | simp [narrow]) ?_
    exact x2 _ c.1 c.2.1 (by omega) (MX_fail h)
  have l1 := h.1.1.len hp
  have l2 := h.1.1.len ho
  have g1 : hdL (pth s.1 p) < 100 := (h.1.1.lt p).at _
  have g2 : hdL (pth s.1 o) < 100 := (h.1.1.lt o).at _
  have dn := dmI_nbr (hdL (pth s.1 p)) (hdL (pth s.1 o))
  have di := dmI_in (hdL (pth s.1 p)) (hdL (pth s.1 o))
  by_cases c3 : nbr (hdL (pth s.1 p)) (hdL (pth s.1 o)) ∧ (pth s.1 p).length + (pth s.1 o).length ≤ 60
  case neg =>
    refine Go_ald0 dX12_join_0 ?_
    refine Go_iconst dX12_join_1 ?_
    refine pf11_0 dX12_join_2 flX12_59 (by first | assumption | rfl) ?_
    refine Go_ald0 dX12_join_5 ?_
    refine Go_ild1 dX12_join_6 ?_
    refine Go_cV1 (d' := 1) (bc' := 0) (bs' := 0) rfl dX12_join_7 mvX12_isPath rfl lkX12_66 (by first | assumption | rfl) rfl trivial (by decide) (by decide) (by decide) (Nat.le_of_ble_eq_true rfl) ?_
    refine e_X12_isPath hm.1 h1 ?_
    refine Go_ifb_eq (tgt := 21) dX12_join_10 (by decide)  (fun h10 => by exact absurd ⟨c.1, c.2.1⟩ h10) (fun h10 => ?_)
    refine Go_ald0 dX12_join_13 ?_
    refine Go_ild2 dX12_join_14 ?_
    refine Go_cV1 (d' := 1) (bc' := 0) (bs' := 0) rfl dX12_join_15 mvX12_isPath rfl lkX12_66 (by first | assumption | rfl) rfl trivial (by decide) (by decide) (by decide) (Nat.le_of_ble_eq_true rfl) ?_
    refine e_X12_isPath hm.1 h2 ?_
    refine Go_ifb_ne (tgt := 27) dX12_join_18 (by decide)  (fun h18 => ?_) (fun h18 => by exact absurd c.2.2 h18)
    refine Go_ild1 dX12_join_27 ?_
    refine Go_ild2 dX12_join_28 ?_
    refine Go_icmp_ne (tgt := 38) dX12_join_29 (by decide) (by constructor <;> omega) (by constructor <;> omega) (fun h29 => ?_) (fun h29 => by omega)
    refine Go_ald0 dX12_join_38 ?_
    refine Go_ild1 dX12_join_39 ?_
    refine Go_cV1 (d' := 0) (bc' := 0) (bs' := 0) rfl dX12_join_40 mvX12_lengthOf rfl lkX12_70 (by first | assumption | rfl) rfl trivial (by decide) (by decide) (by decide) (Nat.le_of_ble_eq_true rfl) ?_
    refine e_X12_lengthOf hm.1 hp ?_
    refine Go_ald0 dX12_join_43 ?_
    refine Go_ild2 dX12_join_44 ?_
    refine Go_cV1 (d' := 0) (bc' := 0) (bs' := 0) rfl dX12_join_45 mvX12_lengthOf rfl lkX12_70 (by first | assumption | rfl) rfl trivial (by decide) (by decide) (by decide) (Nat.le_of_ble_eq_true rfl) ?_
    refine e_X12_lengthOf hm.1 ho ?_
    refine Go_iadd dX12_join_48 ?_
    refine Go_ist3 dX12_join_49 rfl ?_
    refine Go_ald0 dX12_join_50 ?_
    refine Go_ild1 dX12_join_51 ?_
    refine Go_cV1 (d' := 1) (bc' := 0) (bs' := 0) rfl dX12_join_52 mvX12_headOf rfl lkX12_121 (by first | assumption | rfl) rfl trivial (by decide) (by decide) (by decide) (Nat.le_of_ble_eq_true rfl) ?_
    refine e_X12_headOf hm.1 hp ?_
    refine Go_ald0 dX12_join_55 ?_
    refine Go_ild2 dX12_join_56 ?_
    refine Go_cV1 (d' := 1) (bc' := 0) (bs' := 0) rfl dX12_join_57 mvX12_headOf rfl lkX12_121 (by first | assumption | rfl) rfl trivial (by decide) (by decide) (by decide) (Nat.le_of_ble_eq_true rfl) ?_
    refine e_X12_headOf hm.1 ho ?_
    refine Go_cS2 (d' := 2) (bc' := 0) (bs' := 0) rfl dX12_join_60 msX12_direction rfl lkX12_140 (by decide) (by decide) (by decide) (Nat.le_of_ble_eq_true rfl) ?_
    refine e_X12_direction (by omega) (by omega) (by constructor <;> omega) ?_
    refine Go_iconst dX12_join_63 ?_
    refine Go_icmp_eq (tgt := 73) dX12_join_64 (by decide) (by constructor <;> omega) (by constructor <;> omega) (fun h64 => ?_) (fun h64 => ?_)
    · refine Go_ald0 dX12_join_73 ?_
      refine Go_iconst dX12_join_74 ?_
      refine Go_cV1 (d' := 0) (bc' := 0) (bs' := 0) rfl dX12_join_75 mvX12_fails rfl lkX12_78 (by first | assumption | rfl) rfl trivial (by decide) (by decide) (by decide) (Nat.le_of_ble_eq_true rfl) ?_
      refine e_X12_fails ?_
      refine Go_ireturn dX12_join_78 rfl (by first | rfl | decide | exact nar_b | simp [narrow]) ?_
      exact x3 _ p o rfl hp rfl ho c2 c3 (MX_fail h)
    · refine Go_ild3 dX12_join_67 ?_
      refine Go_bipush dX12_join_68 (by decide +kernel) ?_
      refine Go_icmp_le (tgt := 79) dX12_join_70 (by decide) (by constructor <;> omega) (by constructor <;> omega) (fun h70 => by exact absurd ⟨dn.mp h64, by omega⟩ c3) (fun h70 => ?_)
      refine Go_ald0 dX12_join_73 ?_
      refine Go_iconst dX12_join_74 ?_
      refine Go_cV1 (d' := 0) (bc' := 0) (bs' := 0) rfl dX12_join_75 mvX12_fails rfl lkX12_78 (by first | assumption | rfl) rfl trivial (by decide) (by decide) (by decide) (Nat.le_of_ble_eq_true rfl) ?_
      refine e_X12_fails ?_
      refine Go_ireturn dX12_join_78 rfl (by first | rfl | decide | exact nar_b | simp [narrow]) ?_
      exact x3 _ p o rfl hp rfl ho c2 c3 (MX_fail h)
  have oW : OKp (weldP s.1 p o) := h.1.1.weld hp ho c2 c3.1 c3.2
  have wl : (weldL s.1 p o).length = (pth s.1 p).length + (pth s.1 o).length := by unfold weldL; rw [List.length_append, List.length_reverse]
  have wlen : (weldP s.1 p o).length = s.1.length - 1 := by unfold weldP; rw [List.length_eraseIdx, List.length_set, if_pos ho]
  have dne := dn.mpr c3.1
  refine Go_ald0 dX12_join_0 ?_
  refine Go_iconst dX12_join_1 ?_
  refine pf11_0 dX12_join_2 flX12_59 (by first | assumption | rfl) ?_
  refine Go_ald0 dX12_join_5 ?_
  refine Go_ild1 dX12_join_6 ?_
  refine Go_cV1 (d' := 1) (bc' := 0) (bs' := 0) rfl dX12_join_7 mvX12_isPath rfl lkX12_66 (by first | assumption | rfl) rfl trivial (by decide) (by decide) (by decide) (Nat.le_of_ble_eq_true rfl) ?_
  refine e_X12_isPath hm.1 h1 ?_
  refine Go_ifb_eq (tgt := 21) dX12_join_10 (by decide)  (fun h10 => by exact absurd ⟨c.1, c.2.1⟩ h10) (fun h10 => ?_)
  refine Go_ald0 dX12_join_13 ?_
  refine Go_ild2 dX12_join_14 ?_
  refine Go_cV1 (d' := 1) (bc' := 0) (bs' := 0) rfl dX12_join_15 mvX12_isPath rfl lkX12_66 (by first | assumption | rfl) rfl trivial (by decide) (by decide) (by decide) (Nat.le_of_ble_eq_true rfl) ?_
  refine e_X12_isPath hm.1 h2 ?_
  refine Go_ifb_ne (tgt := 27) dX12_join_18 (by decide)  (fun h18 => ?_) (fun h18 => by exact absurd c.2.2 h18)
  refine Go_ild1 dX12_join_27 ?_
  refine Go_ild2 dX12_join_28 ?_
  refine Go_icmp_ne (tgt := 38) dX12_join_29 (by decide) (by constructor <;> omega) (by constructor <;> omega) (fun h29 => ?_) (fun h29 => by omega)
  refine Go_ald0 dX12_join_38 ?_
  refine Go_ild1 dX12_join_39 ?_
  refine Go_cV1 (d' := 0) (bc' := 0) (bs' := 0) rfl dX12_join_40 mvX12_lengthOf rfl lkX12_70 (by first | assumption | rfl) rfl trivial (by decide) (by decide) (by decide) (Nat.le_of_ble_eq_true rfl) ?_
  refine e_X12_lengthOf hm.1 hp ?_
  refine Go_ald0 dX12_join_43 ?_
  refine Go_ild2 dX12_join_44 ?_
  refine Go_cV1 (d' := 0) (bc' := 0) (bs' := 0) rfl dX12_join_45 mvX12_lengthOf rfl lkX12_70 (by first | assumption | rfl) rfl trivial (by decide) (by decide) (by decide) (Nat.le_of_ble_eq_true rfl) ?_
  refine e_X12_lengthOf hm.1 ho ?_
  refine Go_iadd dX12_join_48 ?_
  refine Go_ist3 dX12_join_49 rfl ?_
  refine Go_ald0 dX12_join_50 ?_
  refine Go_ild1 dX12_join_51 ?_
  refine Go_cV1 (d' := 1) (bc' := 0) (bs' := 0) rfl dX12_join_52 mvX12_headOf rfl lkX12_121 (by first | assumption | rfl) rfl trivial (by decide) (by decide) (by decide) (Nat.le_of_ble_eq_true rfl) ?_
  refine e_X12_headOf hm.1 hp ?_
  refine Go_ald0 dX12_join_55 ?_
  refine Go_ild2 dX12_join_56 ?_
  refine Go_cV1 (d' := 1) (bc' := 0) (bs' := 0) rfl dX12_join_57 mvX12_headOf rfl lkX12_121 (by first | assumption | rfl) rfl trivial (by decide) (by decide) (by decide) (Nat.le_of_ble_eq_true rfl) ?_
  refine e_X12_headOf hm.1 ho ?_
  refine Go_cS2 (d' := 2) (bc' := 0) (bs' := 0) rfl dX12_join_60 msX12_direction rfl lkX12_140 (by decide) (by decide) (by decide) (Nat.le_of_ble_eq_true rfl) ?_
  refine e_X12_direction (by omega) (by omega) (by constructor <;> omega) ?_
  refine Go_iconst dX12_join_63 ?_
  refine Go_icmp_eq (tgt := 73) dX12_join_64 (by decide) (by constructor <;> omega) (by constructor <;> omega) (fun h64 => by omega) (fun h64 => ?_)
  refine Go_ild3 dX12_join_67 ?_
  refine Go_bipush dX12_join_68 (by decide +kernel) ?_
  refine Go_icmp_le (tgt := 79) dX12_join_70 (by decide) (by constructor <;> omega) (by constructor <;> omega) (fun h70 => ?_) (fun h70 => by omega)
  refine Go_ald0 dX12_join_79 ?_
  refine Go_cVv0 (d' := 0) (bc' := 0) (bs' := 0) rfl dX12_join_80 mvX12_save rfl lkX12_81 (by first | assumption | rfl) rfl trivial (by decide) (by decide) (by decide) (Nat.le_of_ble_eq_true rfl) ?_
  refine e_X12_save hm.1 hm.2.1 (fun w1 v1 f1 g1 => ?_)
  have hm1 := MI_save hm v1 f1 g1
  have f9 : frm w w1 mcs := (frm.rfl.up (by decide) : frm w (up w 68 0 0) mcs).trans f1 (by decide)
  have t0 : w1 68 0 = 0 := by rw [g1 0 (by decide), up_s]
  have ha := st_a hm1.1
  refine Go_ald0 dX12_join_83 ?_
  refine Go_ild1 dX12_join_84 ?_
  refine Go_cV1 (d' := 0) (bc' := 0) (bs' := 0) rfl dX12_join_85 mvX12_lengthOf rfl lkX12_70 (by first | assumption | rfl) rfl trivial (by decide) (by decide) (by decide) (Nat.le_of_ble_eq_true rfl) ?_
  refine e_X12_lengthOf hm1.1 hp ?_
  refine Go_ist4 dX12_join_88 rfl ?_
  refine Go_ild4 dX12_join_90 ?_
  refine Go_ist5 dX12_join_92 rfl ?_
  refine Go_upTo (n := (pth s.1 o).length) (L := fun i => [some (vr 68), some (vi (p : Int)), some (vi (o : Int)), some (vi (((pth s.1 p).length : Int) + ((pth s.1 o).length : Int))), some (vi ((pth s.1 p).length : Int)), some (vi (((pth s.1 p).length : Int) + i))]) (P := fun i v => frm w1 v [69] ∧ (∀ j, (j < 9 + 60 * p + (pth s.1 p).length ∨ 9 + 60 * p + 60 ≤ j) → v 69 j = w1 69 j) ∧ ∀ m, m < i → v 69 (9 + 60 * p + ((pth s.1 p).length + m)) = ((pth s.1 o).reverse.getD m 0 : Int)) (by repeat' (first | exact Or.inl rfl | exact Or.inr rfl | exact Or.inr (lcg (by omega)) | exact trivial | constructor)) (⟨frm.rfl, fun j hj => rfl, fun j hj => by omega⟩) (fun i v hi hP kn => ?_) (fun v hP => ?_)
  · try dsimp only at hP kn
    try dsimp only
    obtain ⟨f2, a3, a4⟩ := hP
    have e9 : v 69 (9 + 60 * o + ((pth s.1 o).length - 1 - i)) = ((pth s.1 o).getD ((pth s.1 o).length - 1 - i) 0 : Int) := by
      rw [a3 _ (by omega)]
      exact st_s hm1.1 ho (by omega)
    refine Go_ild5 dX12_join_94 ?_
    refine Go_ild3 dX12_join_96 ?_
    refine Go_icmp_ge (tgt := 124) dX12_join_97 (by decide) (by constructor <;> omega) (by constructor <;> omega) (fun h97 => by omega) (fun h97 => ?_)
    refine Go_ald0 dX12_join_100 ?_
    refine Go_ild1 dX12_join_101 ?_
    refine Go_ild5 dX12_join_102 ?_
    refine Go_ald0 dX12_join_104 ?_
    refine Go_ild2 dX12_join_105 ?_
    refine Go_ild3 dX12_join_106 ?_
    refine Go_iconst dX12_join_107 ?_
    refine Go_isub dX12_join_108 ?_
    refine Go_ild5 dX12_join_109 ?_
    refine Go_isub dX12_join_111 ?_
    refine Go_cV2 (d' := 0) (bc' := 0) (bs' := 0) rfl dX12_join_112 mvX12_siteOf rfl lkX12_74 (by first | assumption | rfl) rfl trivial (by decide) (by decide) (by decide) (Nat.le_of_ble_eq_true rfl) ?_
    refine e_X12_siteOfR (k0 := (pth s.1 o).length - 1 - i) (by omega) (by omega) (by omega) e9 ?_
    refine Go_cVv3 (d' := 0) (bc' := 0) (bs' := 0) rfl dX12_join_115 mvX12_setSite rfl lkX12_104 (by first | assumption | rfl) rfl trivial (by decide) (by decide) (by decide) (Nat.le_of_ble_eq_true rfl) ?_
    refine e_X12_setSite (k0 := (pth s.1 p).length + i) (by omega) (by omega) (by omega) ?_
    refine Go_inc5 dX12_join_118 rfl ?_
    refine Go_goto (tgt := 94) dX12_join_121 (by decide) ?_
    refine Go_forget (by repeat' (first | exact Or.inl rfl | exact Or.inr rfl | exact Or.inr (lcg (by omega)) | exact trivial | constructor)) (kn _ ⟨f2.up (by simp), fun j hj => by rw [up_k (by omega)]; exact a3 j hj, fun m hm => ?_⟩)
    by_cases q : m = i
    · subst q; rw [up_s, gD_rev (by omega)]
    · rw [up_k (by omega)]; exact a4 m (by omega)
  · try dsimp only at hP
    try dsimp only
    obtain ⟨f2, a3, a4⟩ := hP
    refine Go_ild5 dX12_join_94 ?_
    refine Go_ild3 dX12_join_96 ?_
    refine Go_icmp_ge (tgt := 124) dX12_join_97 (by decide) (by constructor <;> omega) (by constructor <;> omega) (fun h97 => ?_) (fun h97 => by omega)
    refine Go_ald0 dX12_join_124 ?_
    refine gf11_1 dX12_join_125 flX12_7 ?_
    refine Go_iconst dX12_join_128 ?_
    refine Go_ild1 dX12_join_129 ?_
    refine Go_iadd dX12_join_130 ?_
    refine Go_ild3 dX12_join_131 ?_
    refine Go_iast dX12_join_132 (by first | assumption | rfl) trivial (by omega) (by omega) (by decide) ?_
    rw [show (4 + (p : Int)).toNat = 4 + p by omega]
    have rc3 : RC (up v 69 (4 + p) (((pth s.1 p).length : Int) + ((pth s.1 o).length : Int))) s.1.length (fun q => if q = p then weldL s.1 p o else pth s.1 q) := by
      refine ⟨by rw [up_k (by omega), a3 0 (by omega)]; exact st_n hm1.1, h5, fun q hq => ?_⟩
      try dsimp only
      by_cases e : q = p
      · subst e
        rw [if_pos rfl]
        refine ⟨by rw [up_s, wl]; rfl, by omega, fun m hm => ?_⟩
        rw [wl] at hm
        rw [up_k (by omega)]
        unfold weldL
        rw [gD_app]
        by_cases q2 : m < (pth s.1 q).length
        · rw [if_pos q2, a3 _ (by omega)]; exact st_s hm1.1 hq q2
        · rw [if_neg q2]
          have := a4 (m - (pth s.1 q).length) (by omega)
          rw [show (pth s.1 q).length + (m - (pth s.1 q).length) = m by omega] at this
          exact this
      · rw [if_neg e]
        have r := hm1.1.rc.2.2 q hq
        have r60 := r.2.1
        exact ⟨by rw [up_k (by omega), a3 _ (by omega)]; exact r.1, r60, fun m hm => by rw [up_k (by omega), a3 _ (by omega)]; exact r.2.2 m hm⟩
    refine Go_ald0 dX12_join_133 ?_
    refine Go_ild2 dX12_join_134 ?_
    refine Go_cVv1 (d' := 2) (bc' := 0) (bs' := 0) rfl dX12_join_135 mvX12_dropPath rfl lkX12_143 (by first | assumption | rfl) rfl trivial (by decide) (by decide) (by decide) (Nat.le_of_ble_eq_true rfl) ?_
    refine e_X12_dropPath rc3 ho (fun w4 r4 f4 g4 g5 => ?_)
    refine Go_ild3 dX12_join_138 ?_
    refine Go_ireturn dX12_join_139 rfl (by first | rfl | decide | exact nar_b | simp [narrow]) ?_
    refine k _ p o rfl hp rfl ho c2 c3.1 c3.2 (mx_of hm1 f9 t0 (A := [68, 69, 78]) (RC.st r4 oW wlen (fun q hq => ?_) ?_ ?_ ?_) (((f2.mono (by decide)).up (by decide)).trans f4 (by decide)) (by decide) ?_ ?_ ?_)
    · unfold weldP
      rw [pth_erase]
      by_cases e : q < o
      · rw [if_pos e, if_pos e, pth_set hp]
      · rw [if_neg e, if_neg e, pth_set hp]
    · rw [g5 1 (by omega) (by omega), up_k (by omega), a3 1 (by omega)]; exact ha.1
    · rw [g5 2 (by omega) (by omega), up_k (by omega), a3 2 (by omega)]; exact ha.2.1
    · rw [g5 3 (by omega) (by omega), up_k (by omega), a3 3 (by omega)]; exact ha.2.2
    · rw [g4 0 (by decide), up_a (by decide), f2.at (by decide)]
    · rw [g4 3 (by decide), up_a (by decide), f2.at (by decide)]
    · rw [g4 7 (by decide), up_a (by decide), f2.at (by decide)]
end Model4
