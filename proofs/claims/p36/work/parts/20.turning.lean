theorem tA_frm {w w' : Wd} {A : List Nat} (f : frm w w' A) (h : 3 ∉ A) (p : Nat) : tA w' p = tA w p := by unfold tA; rw [f 3 h]
/-- turned by quarters -/
def rcN (c r : Int) : Nat → Int × Int
  | 0 => (c, r)
  | n + 1 => (-(rcN c r n).2, (rcN c r n).1)
def swI (s p q : Nat) : Int := numI ((p : Int) % 10 + (rcN ((s : Int) % 10 - (p : Int) % 10) ((s : Int) / 10 - (p : Int) / 10) q).1) ((p : Int) / 10 + (rcN ((s : Int) % 10 - (p : Int) % 10) ((s : Int) / 10 - (p : Int) / 10) q).2)
theorem swI_in (s p q : Nat) : -1 ≤ swI s p q ∧ swI s p q < 100 := numI_in _ _
theorem rcN_in {c r : Int} (h : -9 ≤ c ∧ c ≤ 9 ∧ -9 ≤ r ∧ r ≤ 9) (n : Nat) : -9 ≤ (rcN c r n).1 ∧ (rcN c r n).1 ≤ 9 ∧ -9 ≤ (rcN c r n).2 ∧ (rcN c r n).2 ≤ 9 := by
  induction n with
  | zero => exact h
  | succ n ih => show -9 ≤ -(rcN c r n).2 ∧ -(rcN c r n).2 ≤ 9 ∧ -9 ≤ (rcN c r n).1 ∧ (rcN c r n).1 ≤ 9; omega
/-- what is in the way of a site -/
def tcl (ps : List (List Nat)) (p pl q m : Nat) : Int :=
  if swI ((pth ps p).getD m 0) ((pth ps p).getD pl 0) q = -1 then 1
  else if ow ps (swI ((pth ps p).getD m 0) ((pth ps p).getD pl 0) q).toNat = -1 then 9
  else if ow ps (swI ((pth ps p).getD m 0) ((pth ps p).getD pl 0) q).toNat = p then (if plc ps (swI ((pth ps p).getD m 0) ((pth ps p).getD pl 0) q).toNat ≤ pl then 2 else 9) else 3
def tmn (ps : List (List Nat)) (p pl q n : Nat) : Int := mnF (fun j => tcl ps p pl q (pl + 1 + j)) 9 n
def whyT (ps : List (List Nat)) (p pl q : Nat) : Int := if tmn ps p pl q ((pth ps p).length - (pl + 1)) = 9 then 0 else tmn ps p pl q ((pth ps p).length - (pl + 1))
theorem tcl_in (ps : List (List Nat)) (p pl q m : Nat) : 1 ≤ tcl ps p pl q m ∧ tcl ps p pl q m ≤ 9 := by unfold tcl; repeat' split; all_goals omega
theorem mnF_le {f : Nat → Int} {a : Int} {n j : Nat} (hj : j < n) : mnF f a n ≤ f j := by
  induction n with
  | zero => omega
  | succ n ih =>
    show (if f n < mnF f a n then f n else mnF f a n) ≤ f j
    by_cases e : j = n
    · subst e; split <;> omega
    · have := ih (by omega); split <;> omega
theorem mnF_le0 {f : Nat → Int} {a : Int} (n : Nat) : mnF f a n ≤ a := by
  induction n with
  | zero => exact Int.le_refl _
  | succ n ih => show (if f n < mnF f a n then f n else mnF f a n) ≤ a; split <;> omega
theorem mnF_ge {f : Nat → Int} {a c : Int} {n : Nat} (ha : c ≤ a) (h : ∀ j, j < n → c ≤ f j) : c ≤ mnF f a n := by
  induction n with
  | zero => exact ha
  | succ n ih =>
    have := ih (fun j hj => h j (by omega))
    have h2 := h n (by omega)
    show c ≤ (if f n < mnF f a n then f n else mnF f a n)
    split <;> omega
theorem mnF_at {f : Nat → Int} {a c : Int} {n j : Nat} (hj : j < n) (e : f j = c) (ha : c ≤ a) (h : ∀ j, j < n → c ≤ f j) : mnF f a n = c := by
  have h1 := mnF_le (f := f) (a := a) hj
  have h2 := mnF_ge ha h
  omega
theorem whyT_off {ps : List (List Nat)} {p pl q m : Nat} (h1 : pl < m) (h2 : m < (pth ps p).length) (h : swI ((pth ps p).getD m 0) ((pth ps p).getD pl 0) q = -1) : whyT ps p pl q = 1 := by
  have e : tmn ps p pl q ((pth ps p).length - (pl + 1)) = 1 := by
    refine mnF_at (j := m - (pl + 1)) (by omega) ?_ (by omega) (fun j _ => (tcl_in _ _ _ _ _).1)
    show tcl ps p pl q (pl + 1 + (m - (pl + 1))) = 1
    rw [show pl + 1 + (m - (pl + 1)) = m by omega]
    unfold tcl
    rw [if_pos h]
  unfold whyT
  rw [e]
  rfl
/-- the sites once turned -/
def lnd (v : Wd) (l : List Nat) (pl q : Nat) : Prop := ∀ m, pl < m → m < l.length → v 50 m = swI (l.getD m 0) (l.getD pl 0) q
section Turning
variable {G : Gm} {w : Wd} {K : Kt} {X : Xt} {t : Nat} {l : List Nat} {ps : List (List Nat)}
theorem e_X10_swung {s p q : Nat} (hs : s < 100) (hp : p < 100) (hq : q ≤ 3) (k : K (vi (swI s p q)) none w) : Ev G yX10_swung cX10_swung 7 mX10_swung none 1 0 0 [vi (s : Int), vi (p : Int), vi (q : Int)] w K X := by
  have b0 : -9 ≤ (s : Int) % 10 - (p : Int) % 10 ∧ (s : Int) % 10 - (p : Int) % 10 ≤ 9 ∧ -9 ≤ (s : Int) / 10 - (p : Int) / 10 ∧ (s : Int) / 10 - (p : Int) / 10 ≤ 9 := by omega
  refine Ev_intro msX10_swung.1 rfl (fun h => by cases h) (allc1 rfl) (Nat.le_of_ble_eq_true rfl) (Or.inl rfl) ?_
  show Go G cX10_swung mX10_swung none 1 0 0 0 [some (vi (s : Int)), some (vi (p : Int)), some (vi (q : Int)), none, none, none, none] [] w K X
  refine Go_ild0 dX10_swung_0 ?_
  refine Go_cS1 (d' := 0) (bc' := 0) (bs' := 0) rfl dX10_swung_1 msX2_column rfl lkX10_45 (by decide) (by decide) (by decide) (Nat.le_of_ble_eq_true rfl) ?_
  refine e_X2_column (by omega) (by omega) ?_
  refine Go_ild1 dX10_swung_4 ?_
  refine Go_cS1 (d' := 0) (bc' := 0) (bs' := 0) rfl dX10_swung_5 msX2_column rfl lkX10_45 (by decide) (by decide) (by decide) (Nat.le_of_ble_eq_true rfl) ?_
  refine e_X2_column (by omega) (by omega) ?_
  refine Go_isub dX10_swung_8 ?_
  refine Go_ist3 dX10_swung_9 rfl ?_
  refine Go_ild0 dX10_swung_10 ?_
  refine Go_cS1 (d' := 0) (bc' := 0) (bs' := 0) rfl dX10_swung_11 msX2_row rfl lkX10_50 (by decide) (by decide) (by decide) (Nat.le_of_ble_eq_true rfl) ?_
  refine e_X2_row (by omega) (by omega) ?_
  refine Go_ild1 dX10_swung_14 ?_
  refine Go_cS1 (d' := 0) (bc' := 0) (bs' := 0) rfl dX10_swung_15 msX2_row rfl lkX10_50 (by decide) (by decide) (by decide) (Nat.le_of_ble_eq_true rfl) ?_
  refine e_X2_row (by omega) (by omega) ?_
  refine Go_isub dX10_swung_18 ?_
  refine Go_ist4 dX10_swung_19 rfl ?_
  refine Go_iconst dX10_swung_21 ?_
  refine Go_ist5 dX10_swung_22 rfl ?_
  refine Go_upTo (n := q) (L := fun i => [some (vi (s : Int)), some (vi (p : Int)), some (vi (q : Int)), some (vi (rcN ((s : Int) % 10 - (p : Int) % 10) ((s : Int) / 10 - (p : Int) / 10) i).1), some (vi (rcN ((s : Int) % 10 - (p : Int) % 10) ((s : Int) / 10 - (p : Int) / 10) i).2), some (vi (i : Int)), none]) (P := fun i v => v = w) ?_ rfl (fun i v hi hP kn => ?_) (fun v hP => ?_)
  · exact (by repeat' (first | exact Or.inl rfl | exact Or.inr rfl | exact Or.inr (lcg (by omega)) | exact trivial | constructor))
  · try dsimp only at hP kn
    try dsimp only
    subst hP
    refine Go_ild5 dX10_swung_24 ?_
    refine Go_ild2 dX10_swung_26 ?_
    refine Go_icmp_ge (tgt := 47) dX10_swung_27 (by decide) (by constructor <;> omega) (by constructor <;> omega) (fun h27 => by omega) (fun h27 => ?_)
    refine Go_ild3 dX10_swung_30 ?_
    refine Go_ist6 dX10_swung_31 rfl ?_
    refine Go_ild4 dX10_swung_33 ?_
    refine Go_ineg dX10_swung_35 ?_
    refine Go_ist3 dX10_swung_36 rfl ?_
    refine Go_ild6 dX10_swung_37 ?_
    refine Go_ist4 dX10_swung_39 rfl ?_
    refine Go_inc5 dX10_swung_41 rfl ?_
    refine Go_goto (tgt := 24) dX10_swung_44 (by decide) ?_
    exact Go_forget (by repeat' (first | exact Or.inl rfl | exact Or.inr rfl | exact Or.inr (lcg (by omega)) | exact trivial | constructor)) (kn _ rfl)
  · try dsimp only at hP
    try dsimp only
    subst hP
    have b := rcN_in b0 q
    refine Go_ild5 dX10_swung_24 ?_
    refine Go_ild2 dX10_swung_26 ?_
    refine Go_icmp_ge (tgt := 47) dX10_swung_27 (by decide) (by constructor <;> omega) (by constructor <;> omega) (fun h27 => ?_) (fun h27 => by omega)
    refine Go_ild1 dX10_swung_47 ?_
    refine Go_cS1 (d' := 0) (bc' := 0) (bs' := 0) rfl dX10_swung_48 msX2_column rfl lkX10_45 (by decide) (by decide) (by decide) (Nat.le_of_ble_eq_true rfl) ?_
    refine e_X2_column (by omega) (by omega) ?_
    refine Go_ild3 dX10_swung_51 ?_
    refine Go_iadd dX10_swung_52 ?_
    refine Go_ild1 dX10_swung_53 ?_
    refine Go_cS1 (d' := 0) (bc' := 0) (bs' := 0) rfl dX10_swung_54 msX2_row rfl lkX10_50 (by decide) (by decide) (by decide) (Nat.le_of_ble_eq_true rfl) ?_
    refine e_X2_row (by omega) (by omega) ?_
    refine Go_ild4 dX10_swung_57 ?_
    refine Go_iadd dX10_swung_59 ?_
    refine Go_cS2 (d' := 0) (bc' := 0) (bs' := 0) rfl dX10_swung_60 msX2_number rfl lkX10_53 (by decide) (by decide) (by decide) (Nat.le_of_ble_eq_true rfl) ?_
    refine e_X2_number (by constructor <;> omega) (by constructor <;> omega) ?_
    refine Go_ireturn dX10_swung_63 rfl (by first | rfl | decide | exact nar_b | simp [narrow]) ?_
    exact k
theorem e_X10_land {pl q : Nat} (h : TR w t l) (hl : LT l) (hp : pl < l.length) (hq : q ≤ 3) (h50 : t + 1 < 45)
    (kt : ∀ w', lnd w' l pl q → (∀ m, pl < m → m < l.length → swI (l.getD m 0) (l.getD pl 0) q ≠ -1) → frm w w' [50] → K (vi 1) none w')
    (kf : ∀ w' m, pl < m → m < l.length → swI (l.getD m 0) (l.getD pl 0) q = -1 → frm w w' [50] → K (vi 0) none w') : Ev G yX10_land cX10_land 6 mX10_land none 2 0 0 [vr 49, vr t, vi (pl : Int), vi (q : Int)] w K X := by
  have hts1 := h.1
  have h60 := h.2.2.1
  have bp := hl.at pl
  refine Ev_intro mvX10_land.1 rfl (fun h => by cases h) (allc1 rfl) (Nat.le_of_ble_eq_true rfl) (Or.inl rfl) ?_
  show Go G cX10_land mX10_land none 2 0 0 0 [some (vr 49), some (vr t), some (vi (pl : Int)), some (vi (q : Int)), none, none] [] w K X
  refine Go_ald1 dX10_land_0 ?_
  refine Go_ild2 dX10_land_1 ?_
  refine Go_cV1 (d' := 1) (bc' := 0) (bs' := 0) rfl dX10_land_2 mvX9_at rfl lkX10_38 (by first | assumption | rfl) rfl trivial (by decide) (by decide) (by decide) (Nat.le_of_ble_eq_true rfl) ?_
  refine e_X9_atN (j := pl) h rfl hp ?_
  refine Go_ist4 dX10_land_5 rfl ?_
  refine Go_ild2 dX10_land_7 ?_
  refine Go_iconst dX10_land_8 ?_
  refine Go_iadd dX10_land_9 ?_
  refine Go_ist5 dX10_land_10 rfl ?_
  refine Go_upTo (n := l.length - (pl + 1)) (L := fun i => [some (vr 49), some (vr t), some (vi (pl : Int)), some (vi (q : Int)), some (vi (l.getD pl 0 : Int)), some (vi ((pl : Int) + 1 + i))]) (P := fun i v => frm w v [50] ∧ ∀ m, pl < m → m < pl + 1 + i → v 50 m = swI (l.getD m 0) (l.getD pl 0) q ∧ swI (l.getD m 0) (l.getD pl 0) q ≠ -1) (by repeat' (first | exact Or.inl rfl | exact Or.inr rfl | exact Or.inr (lcg (by omega)) | exact trivial | constructor)) (⟨frm.rfl, fun m h1 h2 => by omega⟩) (fun i v hi hP kn => ?_) (fun v hP => ?_)
  · try dsimp only at hP kn
    try dsimp only
    obtain ⟨f1, hv⟩ := hP
    have h1 := h.frm f1 (by simp; omega) (by simp; omega)
    have bi := hl.at (pl + 1 + i)
    have bs := swI_in (l.getD (pl + 1 + i) 0) (l.getD pl 0) q
    refine Go_ild5 dX10_land_12 ?_
    refine Go_ald1 dX10_land_14 ?_
    refine Go_cV0 (d' := 0) (bc' := 0) (bs' := 0) rfl dX10_land_15 mvX9_length rfl lkX10_25 (by first | assumption | rfl) rfl trivial (by decide) (by decide) (by decide) (Nat.le_of_ble_eq_true rfl) ?_
    refine e_X9_length h1 ?_
    refine Go_icmp_ge (tgt := 59) dX10_land_18 (by decide) (by constructor <;> omega) (by constructor <;> omega) (fun h18 => by omega) (fun h18 => ?_)
    refine Go_ald0 dX10_land_21 ?_
    refine gf9_0 dX10_land_22 flX10_9 ?_
    refine Go_ild5 dX10_land_25 ?_
    refine Go_ald1 dX10_land_27 ?_
    refine Go_ild5 dX10_land_28 ?_
    refine Go_cV1 (d' := 1) (bc' := 0) (bs' := 0) rfl dX10_land_30 mvX9_at rfl lkX10_38 (by first | assumption | rfl) rfl trivial (by decide) (by decide) (by decide) (Nat.le_of_ble_eq_true rfl) ?_
    refine e_X9_atN (j := pl + 1 + i) h1 (by omega) (by omega) ?_
    refine Go_ild4 dX10_land_33 ?_
    refine Go_ild3 dX10_land_35 ?_
    refine Go_cS3 (d' := 1) (bc' := 0) (bs' := 0) rfl dX10_land_36 msX10_swung rfl lkX10_41 (by decide) (by decide) (by decide) (Nat.le_of_ble_eq_true rfl) ?_
    refine e_X10_swung bi bp hq ?_
    refine Go_iast dX10_land_39 (by first | assumption | rfl) trivial (by omega) (by omega) (by decide) ?_
    refine Go_ald0 dX10_land_40 ?_
    refine gf9_0 dX10_land_41 flX10_9 ?_
    refine Go_ild5 dX10_land_44 ?_
    refine Go_iald dX10_land_46 (by first | assumption | rfl) trivial (by omega) (by omega) (by decide) ?_
    refine Go_iconst dX10_land_47 ?_
    rw [show ((pl : Int) + 1 + (i : Int)).toNat = pl + 1 + i by omega, up_s]
    refine Go_icmp_ne (tgt := 53) dX10_land_48 (by decide) (by constructor <;> omega) (by constructor <;> omega) (fun h48 => ?_) (fun h48 => ?_)
    · refine Go_inc5 dX10_land_53 rfl ?_
      refine Go_goto (tgt := 12) dX10_land_56 (by decide) ?_
      refine Go_forget (by repeat' (first | exact Or.inl rfl | exact Or.inr rfl | exact Or.inr (lcg (by omega)) | exact trivial | constructor)) (kn _ ⟨f1.up (by simp), fun m q1 q2 => ?_⟩)
      by_cases e : m = pl + 1 + i
      · subst e; rw [up_s]; exact ⟨rfl, h48⟩
      · rw [up_k e]; exact hv m q1 (by omega)
    · refine Go_iconst dX10_land_51 ?_
      refine Go_ireturn dX10_land_52 rfl (by first | rfl | decide | exact nar_b | simp [narrow]) ?_
      refine kf _ (pl + 1 + i) (by omega) (by omega) (by omega) (f1.up (by simp))
  · try dsimp only at hP
    try dsimp only
    obtain ⟨f1, hv⟩ := hP
    have h1 := h.frm f1 (by simp; omega) (by simp; omega)
    refine Go_ild5 dX10_land_12 ?_
    refine Go_ald1 dX10_land_14 ?_
    refine Go_cV0 (d' := 0) (bc' := 0) (bs' := 0) rfl dX10_land_15 mvX9_length rfl lkX10_25 (by first | assumption | rfl) rfl trivial (by decide) (by decide) (by decide) (Nat.le_of_ble_eq_true rfl) ?_
    refine e_X9_length h1 ?_
    refine Go_icmp_ge (tgt := 59) dX10_land_18 (by decide) (by constructor <;> omega) (by constructor <;> omega) (fun h18 => ?_) (fun h18 => by omega)
    refine Go_iconst dX10_land_59 ?_
    refine Go_ireturn dX10_land_60 rfl (by first | rfl | decide | exact nar_b | simp [narrow]) ?_
    exact kt _ (fun m q1 q2 => (hv m q1 (by omega)).1) (fun m q1 q2 => (hv m q1 (by omega)).2) f1
theorem e_X10_refusal {p pl q : Nat} (h : BD w ps) (ho : OKp ps) (hp : p < ps.length) (hpl : pl < (pth ps p).length) (hq : q ≤ 3)
    (k : ∀ w', (whyT ps p pl q = 0 → lnd w' (pth ps p) pl q) → frm w w' [50] → K (vi (whyT ps p pl q)) none w') : Ev G yX10_refusal cX10_refusal 9 mX10_refusal none 3 0 0 [vr 49, vr 2, vi (p : Int), vi (pl : Int), vi (q : Int)] w K X := by
  have h5 := ho.1
  have h3 := h.1.2.2.1 p (by omega)
  have hts := bts_sh h3.1
  have hT := h.1.2.2.2.2 p hp
  have hl := ho.lt p
  have hl60 := hT.2.2.1
  have hts1 := hts.1
  refine Ev_intro mvX10_refusal.1 rfl (fun h => by cases h) (allc1 rfl) (Nat.le_of_ble_eq_true rfl) (Or.inl rfl) ?_
  show Go G cX10_refusal mX10_refusal none 3 0 0 0 [some (vr 49), some (vr 2), some (vi (p : Int)), some (vi (pl : Int)), some (vi (q : Int)), none, none, none, none] [] w K X
  refine Go_ald1 dX10_refusal_0 ?_
  refine Go_ild2 dX10_refusal_1 ?_
  refine Go_cV1 (d' := 0) (bc' := 0) (bs' := 0) rfl dX10_refusal_2 mvX0_trail rfl lkX10_15 (by first | assumption | rfl) rfl trivial (by decide) (by decide) (by decide) (Nat.le_of_ble_eq_true rfl) ?_
  refine e_X0_trail h.1 (by omega) ?_
  refine Go_ast5 dX10_refusal_5 rfl ?_
  refine Go_ald0 dX10_refusal_7 ?_
  refine Go_ald5 dX10_refusal_8 ?_
  refine Go_ild3 dX10_refusal_10 ?_
  refine Go_ild4 dX10_refusal_11 ?_
  refine Go_cV3 (d' := 2) (bc' := 0) (bs' := 0) rfl dX10_refusal_13 mvX10_land rfl lkX10_21 (by first | assumption | rfl) rfl trivial (by decide) (by decide) (by decide) (Nat.le_of_ble_eq_true rfl) ?_
  refine e_X10_land hT hl hpl hq (by omega) (fun w1 v1 n1 f1 => ?_) (fun w1 m m1 m2 m3 f1 => ?_)
  · have h1 := h.frm f1 (by simp)
    have hT1 := hT.frm f1 (by simp; omega) (by simp; omega)
    have hM := h1.2.1
    refine Go_if_ne (tgt := 21) dX10_refusal_16 (by decide) (by constructor <;> omega) (fun h16 => ?_) (fun h16 => by omega)
    refine Go_iconst dX10_refusal_21 ?_
    refine Go_ist6 dX10_refusal_22 rfl ?_
    refine Go_ild3 dX10_refusal_24 ?_
    refine Go_iconst dX10_refusal_25 ?_
    refine Go_iadd dX10_refusal_26 ?_
    refine Go_ist7 dX10_refusal_27 rfl ?_
    refine Go_upTo (n := (pth ps p).length - (pl + 1)) (L := fun i => [some (vr 49), some (vr 2), some (vi (p : Int)), some (vi (pl : Int)), some (vi (q : Int)), some (vr (tA w p)), some (vi (if tmn ps p pl q i = 9 then 0 else 3)), some (vi ((pl : Int) + 1 + i)), none]) (P := fun i v => v = w1 ∧ (tmn ps p pl q i = 9 ∨ tmn ps p pl q i = 3)) (by repeat' (first | exact Or.inl rfl | exact Or.inr rfl | exact Or.inr (lcg (by omega)) | exact trivial | constructor)) (⟨rfl, Or.inl rfl⟩) (fun i v hi hP kn => ?_) (fun v hP => ?_)
    · try dsimp only at hP kn
      try dsimp only
      obtain ⟨rfl, hP⟩ := hP
      have e := v1 (pl + 1 + i) (by omega) (by omega)
      have ne := n1 (pl + 1 + i) (by omega) (by omega)
      have bs := swI_in ((pth ps p).getD (pl + 1 + i) 0) ((pth ps p).getD pl 0) q
      have bo := ow_in ps (swI ((pth ps p).getD (pl + 1 + i) 0) ((pth ps p).getD pl 0) q).toNat
      have bp := ho.plc (swI ((pth ps p).getD (pl + 1 + i) 0) ((pth ps p).getD pl 0) q).toNat
      have hs : tmn ps p pl q (i + 1) = if tcl ps p pl q (pl + 1 + i) < tmn ps p pl q i then tcl ps p pl q (pl + 1 + i) else tmn ps p pl q i := rfl
      have ht : tcl ps p pl q (pl + 1 + i) = if ow ps (swI ((pth ps p).getD (pl + 1 + i) 0) ((pth ps p).getD pl 0) q).toNat = -1 then 9 else if ow ps (swI ((pth ps p).getD (pl + 1 + i) 0) ((pth ps p).getD pl 0) q).toNat = p then (if plc ps (swI ((pth ps p).getD (pl + 1 + i) 0) ((pth ps p).getD pl 0) q).toNat ≤ pl then 2 else 9) else 3 := by unfold tcl; rw [if_neg ne]
      have eo : owI ps (v 50 (pl + 1 + i)) = ow ps (swI ((pth ps p).getD (pl + 1 + i) 0) ((pth ps p).getD pl 0) q).toNat := by rw [e]; unfold owI; rw [if_pos (by omega)]
      have ep : plI ps (v 50 (pl + 1 + i)) = plc ps (swI ((pth ps p).getD (pl + 1 + i) 0) ((pth ps p).getD pl 0) q).toNat := by rw [e]; unfold plI; rw [if_pos (by omega)]
      have all2 : ∀ j, j < (pth ps p).length - (pl + 1) → 2 ≤ tcl ps p pl q (pl + 1 + j) := fun j hj => by
        have := n1 (pl + 1 + j) (by omega) (by omega)
        unfold tcl
        rw [if_neg this]
        repeat' split
        all_goals omega
      refine Go_ild7 dX10_refusal_29 ?_
      refine Go_ald5 dX10_refusal_31 ?_
      refine Go_cV0 (d' := 0) (bc' := 0) (bs' := 0) rfl dX10_refusal_33 mvX9_length rfl lkX10_25 (by first | assumption | rfl) rfl trivial (by decide) (by decide) (by decide) (Nat.le_of_ble_eq_true rfl) ?_
      refine e_X9_length hT1 ?_
      refine Go_icmp_ge (tgt := 96) dX10_refusal_36 (by decide) (by constructor <;> omega) (by constructor <;> omega) (fun h36 => by omega) (fun h36 => ?_)
      refine Go_ald1 dX10_refusal_39 ?_
      refine Go_ald0 dX10_refusal_40 ?_
      refine gf9_0 dX10_refusal_41 flX10_9 ?_
      refine Go_ild7 dX10_refusal_44 ?_
      refine Go_iald dX10_refusal_46 (by first | assumption | rfl) trivial (by omega) (by omega) (by decide) ?_
      rw [show ((pl : Int) + 1 + (i : Int)).toNat = pl + 1 + i by omega]
      refine Go_cV1 (d' := 1) (bc' := 0) (bs' := 0) rfl dX10_refusal_47 mvX0_pathAt rfl lkX10_31 (by first | assumption | rfl) rfl trivial (by decide) (by decide) (by decide) (Nat.le_of_ble_eq_true rfl) ?_
      refine e_X0_pathAt hM (by rw [e]; constructor <;> omega) ?_
      rw [eo]
      refine Go_ist8 dX10_refusal_50 rfl ?_
      refine Go_ild8 dX10_refusal_52 ?_
      refine Go_ild2 dX10_refusal_54 ?_
      refine Go_icmp_ne (tgt := 75) dX10_refusal_55 (by decide) (by constructor <;> omega) (by constructor <;> omega) (fun h55 => ?_) (fun h55 => ?_)
      · refine Go_ild8 dX10_refusal_75 ?_
        refine Go_iconst dX10_refusal_77 ?_
        refine Go_icmp_eq (tgt := 90) dX10_refusal_78 (by decide) (by constructor <;> omega) (by constructor <;> omega) (fun h78 => ?_) (fun h78 => ?_)
        · refine Go_inc7 dX10_refusal_90 rfl ?_
          refine Go_goto (tgt := 29) dX10_refusal_93 (by decide) ?_
          refine Go_forget (ls' := _) ?_ (kn _ ⟨rfl, ?_⟩)
          · repeat' split at ht
            all_goals (rw [ht] at hs)
            all_goals (repeat' split at hs)
            all_goals first | omega | (rcases hP with hP | hP <;> (try rw [hP] at hs ⊢) <;> first | omega | (rw [hs]; exact (by repeat' (first | exact Or.inl rfl | exact Or.inr rfl | exact Or.inr (lcg (by omega)) | exact trivial | constructor))))
          · repeat' split at ht
            all_goals (rw [ht] at hs)
            all_goals (repeat' split at hs)
            all_goals omega
        · refine Go_ild8 dX10_refusal_81 ?_
          refine Go_ild2 dX10_refusal_83 ?_
          refine Go_icmp_eq (tgt := 90) dX10_refusal_84 (by decide) (by constructor <;> omega) (by constructor <;> omega) (fun h84 => ?_) (fun h84 => ?_)
          · refine Go_inc7 dX10_refusal_90 rfl ?_
            refine Go_goto (tgt := 29) dX10_refusal_93 (by decide) ?_
            refine Go_forget (ls' := _) ?_ (kn _ ⟨rfl, ?_⟩)
            · repeat' split at ht
              all_goals (rw [ht] at hs)
              all_goals (repeat' split at hs)
              all_goals first | omega | (rcases hP with hP | hP <;> (try rw [hP] at hs ⊢) <;> first | omega | (rw [hs]; exact (by repeat' (first | exact Or.inl rfl | exact Or.inr rfl | exact Or.inr (lcg (by omega)) | exact trivial | constructor))))
            · repeat' split at ht
              all_goals (rw [ht] at hs)
              all_goals (repeat' split at hs)
              all_goals omega
          · refine Go_iconst dX10_refusal_87 ?_
            refine Go_ist6 dX10_refusal_88 rfl ?_
            refine Go_inc7 dX10_refusal_90 rfl ?_
            refine Go_goto (tgt := 29) dX10_refusal_93 (by decide) ?_
            refine Go_forget (ls' := _) ?_ (kn _ ⟨rfl, ?_⟩)
            · repeat' split at ht
              all_goals (rw [ht] at hs)
              all_goals (repeat' split at hs)
              all_goals first | omega | (rcases hP with hP | hP <;> (try rw [hP] at hs ⊢) <;> first | omega | (rw [hs]; exact (by repeat' (first | exact Or.inl rfl | exact Or.inr rfl | exact Or.inr (lcg (by omega)) | exact trivial | constructor))))
            · repeat' split at ht
              all_goals (rw [ht] at hs)
              all_goals (repeat' split at hs)
              all_goals omega
      · refine Go_ald1 dX10_refusal_58 ?_
        refine Go_ald0 dX10_refusal_59 ?_
        refine gf9_0 dX10_refusal_60 flX10_9 ?_
        refine Go_ild7 dX10_refusal_63 ?_
        refine Go_iald dX10_refusal_65 (by first | assumption | rfl) trivial (by omega) (by omega) (by decide) ?_
        rw [show ((pl : Int) + 1 + (i : Int)).toNat = pl + 1 + i by omega]
        refine Go_cV1 (d' := 1) (bc' := 0) (bs' := 0) rfl dX10_refusal_66 mvX0_placeAt rfl lkX10_35 (by first | assumption | rfl) rfl trivial (by decide) (by decide) (by decide) (Nat.le_of_ble_eq_true rfl) ?_
        refine e_X0_placeAt hM (by rw [e]; constructor <;> omega) ?_
        rw [ep]
        refine Go_ild3 dX10_refusal_69 ?_
        refine Go_icmp_gt (tgt := 75) dX10_refusal_70 (by decide) (by constructor <;> omega) (by constructor <;> omega) (fun h70 => ?_) (fun h70 => ?_)
        · refine Go_ild8 dX10_refusal_75 ?_
          refine Go_iconst dX10_refusal_77 ?_
          refine Go_icmp_eq (tgt := 90) dX10_refusal_78 (by decide) (by constructor <;> omega) (by constructor <;> omega) (fun h78 => ?_) (fun h78 => ?_)
          · refine Go_inc7 dX10_refusal_90 rfl ?_
            refine Go_goto (tgt := 29) dX10_refusal_93 (by decide) ?_
            refine Go_forget (ls' := _) ?_ (kn _ ⟨rfl, ?_⟩)
            · repeat' split at ht
              all_goals (rw [ht] at hs)
              all_goals (repeat' split at hs)
              all_goals first | omega | (rcases hP with hP | hP <;> (try rw [hP] at hs ⊢) <;> first | omega | (rw [hs]; exact (by repeat' (first | exact Or.inl rfl | exact Or.inr rfl | exact Or.inr (lcg (by omega)) | exact trivial | constructor))))
            · repeat' split at ht
              all_goals (rw [ht] at hs)
              all_goals (repeat' split at hs)
              all_goals omega
          · refine Go_ild8 dX10_refusal_81 ?_
            refine Go_ild2 dX10_refusal_83 ?_
            refine Go_icmp_eq (tgt := 90) dX10_refusal_84 (by decide) (by constructor <;> omega) (by constructor <;> omega) (fun h84 => ?_) (fun h84 => ?_)
            · refine Go_inc7 dX10_refusal_90 rfl ?_
              refine Go_goto (tgt := 29) dX10_refusal_93 (by decide) ?_
              refine Go_forget (ls' := _) ?_ (kn _ ⟨rfl, ?_⟩)
              · repeat' split at ht
                all_goals (rw [ht] at hs)
                all_goals (repeat' split at hs)
                all_goals first | omega | (rcases hP with hP | hP <;> (try rw [hP] at hs ⊢) <;> first | omega | (rw [hs]; exact (by repeat' (first | exact Or.inl rfl | exact Or.inr rfl | exact Or.inr (lcg (by omega)) | exact trivial | constructor))))
              · repeat' split at ht
                all_goals (rw [ht] at hs)
                all_goals (repeat' split at hs)
                all_goals omega
            · refine Go_iconst dX10_refusal_87 ?_
              refine Go_ist6 dX10_refusal_88 rfl ?_
              refine Go_inc7 dX10_refusal_90 rfl ?_
              refine Go_goto (tgt := 29) dX10_refusal_93 (by decide) ?_
              refine Go_forget (ls' := _) ?_ (kn _ ⟨rfl, ?_⟩)
              · repeat' split at ht
                all_goals (rw [ht] at hs)
                all_goals (repeat' split at hs)
                all_goals first | omega | (rcases hP with hP | hP <;> (try rw [hP] at hs ⊢) <;> first | omega | (rw [hs]; exact (by repeat' (first | exact Or.inl rfl | exact Or.inr rfl | exact Or.inr (lcg (by omega)) | exact trivial | constructor))))
              · repeat' split at ht
                all_goals (rw [ht] at hs)
                all_goals (repeat' split at hs)
                all_goals omega
        · refine Go_iconst dX10_refusal_73 ?_
          refine Go_ireturn dX10_refusal_74 rfl (by first | rfl | decide | exact nar_b | simp [narrow]) ?_
          refine kI (Eq.symm ?_) (k _ (fun z => absurd z ?_) f1)
          have e2 : tmn ps p pl q ((pth ps p).length - (pl + 1)) = 2 := mnF_at (j := i) hi (by show tcl ps p pl q (pl + 1 + i) = 2; rw [ht, if_neg (by omega), if_pos h55, if_pos (by omega)]) (by omega) all2
          · unfold whyT; rw [e2]; rfl
          · have e2 : tmn ps p pl q ((pth ps p).length - (pl + 1)) = 2 := mnF_at (j := i) hi (by show tcl ps p pl q (pl + 1 + i) = 2; rw [ht, if_neg (by omega), if_pos h55, if_pos (by omega)]) (by omega) all2
            unfold whyT; rw [e2]; decide
    · try dsimp only at hP
      try dsimp only
      obtain ⟨rfl, hP⟩ := hP
      refine Go_ild7 dX10_refusal_29 ?_
      refine Go_ald5 dX10_refusal_31 ?_
      refine Go_cV0 (d' := 0) (bc' := 0) (bs' := 0) rfl dX10_refusal_33 mvX9_length rfl lkX10_25 (by first | assumption | rfl) rfl trivial (by decide) (by decide) (by decide) (Nat.le_of_ble_eq_true rfl) ?_
      refine e_X9_length hT1 ?_
      refine Go_icmp_ge (tgt := 96) dX10_refusal_36 (by decide) (by constructor <;> omega) (by constructor <;> omega) (fun h36 => ?_) (fun h36 => by omega)
      refine Go_ild6 dX10_refusal_96 ?_
      refine Go_ireturn dX10_refusal_98 rfl (by first | rfl | decide | exact nar_b | simp [narrow]) ?_
      refine kI (Eq.symm ?_) (k _ (fun _ => v1) f1)
      unfold whyT
      rcases hP with hP | hP <;> rw [hP] <;> rfl
  · skip
    refine Go_if_ne (tgt := 21) dX10_refusal_16 (by decide) (by constructor <;> omega) (fun h16 => by omega) (fun h16 => ?_)
    refine Go_iconst dX10_refusal_19 ?_
    refine Go_ireturn dX10_refusal_20 rfl (by first | rfl | decide | exact nar_b | simp [narrow]) ?_
    refine kI (Eq.symm (whyT_off m1 m2 m3)) (k _ (fun z => ?_) f1)
    rw [whyT_off m1 m2 m3] at z
    cases z
end Turning
