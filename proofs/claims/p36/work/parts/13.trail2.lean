/-- the head, the steps and the sums of a path -/
def hdL (l : List Nat) : Nat := l.getD (l.length - 1) 0
def gI (l : List Nat) (j : Nat) : Int := (l.getD j 0 : Int)
def colJ (l : List Nat) (j : Nat) : Int := (l.getD j 0 : Int) % 10
def rowJ (l : List Nat) (j : Nat) : Int := (l.getD j 0 : Int) / 10
def stJ (l : List Nat) (j : Nat) : Int := dirI (l.getD j 0) (l.getD (j + 1) 0)
def cornF (l : List Nat) (j : Nat) : Int := if 1 ≤ j ∧ stJ l j ≠ stJ l (j - 1) then 1 else 0
def cornL (l : List Nat) : Int := smF (cornF l) (l.length - 1)
def widL (f : Nat → Int) (n : Nat) : Int := mxF f 0 n - mnF f 10 n + 1
def momL (l : List Nat) : Int := (l.length : Int) * smF (fun j => colJ l j * colJ l j + rowJ l j * rowJ l j) l.length - smF (colJ l) l.length * smF (colJ l) l.length - smF (rowJ l) l.length * smF (rowJ l) l.length
theorem colJ_in {l : List Nat} (j : Nat) : 0 ≤ colJ l j ∧ colJ l j ≤ 9 := by unfold colJ; omega
theorem rowJ_in {l : List Nat} (h : LT l) (j : Nat) : 0 ≤ rowJ l j ∧ rowJ l j ≤ 9 := by have := h.at j; unfold rowJ; omega
theorem stJ_in (l : List Nat) (j : Nat) : 0 ≤ stJ l j ∧ stJ l j < 4 := dirI_in _ _
theorem LT_atI {l : List Nat} (h : LT l) (z : Int) : -1 ≤ atI l z ∧ atI l z < 100 := by
  have := h.at z.toNat
  unfold atI
  split <;> omega
section Tr2
variable {G : Gm} {w : Wd} {K : Kt} {X : Xt} {t : Nat} {l : List Nat}
theorem e_X9_atN {z : Int} {j : Nat} (h : TR w t l) (hz : z = (j : Int)) (hj : j < l.length) (k : K (vi (l.getD j 0 : Int)) none w) : Ev G yX9_at cX9_at 2 mX9_at none 1 0 0 [vr t, vi z] w K X := by
  have := h.2.2.1
  exact e_X9_at h (by constructor <;> omega) (by rw [atI_nat hz hj]; exact k)
theorem e_X9_headN (h : TR w t l) (hp : 1 ≤ l.length) (k : K (vi (hdL l : Int)) none w) : Ev G yX9_head cX9_head 1 mX9_head none 2 0 0 [vr t] w K X :=
  e_X9_head h (by rw [atI_nat (j := l.length - 1) (by omega) (by omega)]; exact k)
theorem e_X9_tailN (h : TR w t l) (hp : 1 ≤ l.length) (k : K (vi (l.getD 0 0 : Int)) none w) : Ev G yX9_tail cX9_tail 1 mX9_tail none 2 0 0 [vr t] w K X :=
  e_X9_tail h (by have e : atI l 0 = (l.getD 0 0 : Int) := atI_nat (j := 0) rfl (by omega); rw [e]; exact k)
theorem e_X9_stepAtN {z : Int} {j : Nat} (h : TR w t l) (hx : LT l) (hz : z = (j : Int)) (hj : j + 1 < l.length) (k : K (vi (stJ l j)) none w) : Ev G yX9_stepAt cX9_stepAt 2 mX9_stepAt none 3 0 0 [vr t, vi z] w K X := by
  have h9 := h
  obtain ⟨ht, hn, hl, hj⟩ := h
  have b1 := hx.at j
  have b2 := hx.at (j + 1)
  refine Ev_intro mvX9_stepAt.1 rfl (fun h => by cases h) (allc1 rfl) (Nat.le_of_ble_eq_true rfl) (Or.inl rfl) ?_
  show Go G cX9_stepAt mX9_stepAt none 3 0 0 0 [some (vr t), some (vi z)] [] w K X
  refine Go_ald0 dX9_stepAt_0 ?_
  refine Go_ild1 dX9_stepAt_1 ?_
  refine Go_cV1 (d' := 1) (bc' := 0) (bs' := 0) rfl dX9_stepAt_2 mvX9_at rfl lkX9_23 (by first | assumption | rfl) rfl trivial (by decide) (by decide) (by decide) (Nat.le_of_ble_eq_true rfl) ?_
  refine e_X9_atN (j := j) h9 (by omega) (by omega) ?_
  refine Go_ald0 dX9_stepAt_5 ?_
  refine Go_ild1 dX9_stepAt_6 ?_
  refine Go_iconst dX9_stepAt_7 ?_
  refine Go_iadd dX9_stepAt_8 ?_
  refine Go_cV1 (d' := 1) (bc' := 0) (bs' := 0) rfl dX9_stepAt_9 mvX9_at rfl lkX9_23 (by first | assumption | rfl) rfl trivial (by decide) (by decide) (by decide) (Nat.le_of_ble_eq_true rfl) ?_
  refine e_X9_atN (j := j + 1) h9 (by omega) (by omega) ?_
  refine Go_cS2 (d' := 2) (bc' := 0) (bs' := 0) rfl dX9_stepAt_12 msX2_direction rfl lkX9_42 (by decide) (by decide) (by decide) (Nat.le_of_ble_eq_true rfl) ?_
  refine e_X2_direction (by omega) (by omega) (by constructor <;> omega) ?_
  refine Go_ireturn dX9_stepAt_15 rfl (by first | rfl | decide | exact nar_b | simp [narrow]) ?_
  exact k
theorem e_X9_copyFrom {s f : Nat} (ht : SH t = (1, 8)) (h : TR w s l) (h1 : s ≠ t) (h2 : s + 1 ≠ t) (h3 : s ≠ t + 1) (hf : f ≤ l.length) (k : ∀ w', TR w' t (l.drop f) → frm w w' [t, t + 1] → K (vi 0) none w') : Ev G yX9_copyFrom cX9_copyFrom 4 mX9_copyFrom none 2 0 0 [vr t, vr s, vi (f : Int)] w K X := by
  have hl := h.2.2.1
  refine Ev_intro mvX9_copyFrom.1 rfl (fun h => by cases h) (allc1 rfl) (Nat.le_of_ble_eq_true rfl) (Or.inl rfl) ?_
  show Go G cX9_copyFrom mX9_copyFrom none 2 0 0 0 [some (vr t), some (vr s), some (vi (f : Int)), none] [] w K X
  refine Go_ald0 dX9_copyFrom_0 ?_
  refine Go_cVv0 (d' := 0) (bc' := 0) (bs' := 0) rfl dX9_copyFrom_1 mvX9_clear rfl lkX9_27 (by first | assumption | rfl) rfl trivial (by decide) (by decide) (by decide) (Nat.le_of_ble_eq_true rfl) ?_
  refine e_X9_clear ht (fun w1 t1 f1 => ?_)
  refine Go_ild2 dX9_copyFrom_4 ?_
  refine Go_ist3 dX9_copyFrom_5 rfl ?_
  refine Go_upTo (n := l.length - f) (L := fun i => [some (vr t), some (vr s), some (vi (f : Int)), some (vi ((f : Int) + i))]) (P := fun i v => TR v t ((l.drop f).take i) ∧ frm w v [t, t + 1]) (by repeat' (first | exact Or.inl rfl | exact Or.inr rfl | exact Or.inr (lcg (by omega)) | exact trivial | constructor)) (⟨t1, f1⟩) (fun i v hi hP kn => ?_) (fun v hP => ?_)
  · try dsimp only at hP kn
    try dsimp only
    obtain ⟨ht2, f2⟩ := hP
    have hs := h.frm f2 (by simp; omega) (by simp; omega)
    have e := hs.2.1
    have hs1 := hs.1
    have eL : ((l.drop f).take i).length = i := by rw [List.length_take, List.length_drop]; omega
    refine Go_ild3 dX9_copyFrom_6 ?_
    refine Go_ald1 dX9_copyFrom_7 ?_
    refine gf8_1 dX9_copyFrom_8 flX9_15 (by first | assumption | rfl) ?_
    refine Go_icmp_ge (tgt := 29) dX9_copyFrom_11 (by decide) (by constructor <;> omega) (by constructor <;> omega) (fun h11 => by omega) (fun h11 => ?_)
    refine Go_ald0 dX9_copyFrom_14 ?_
    refine Go_ald1 dX9_copyFrom_15 ?_
    refine Go_ild3 dX9_copyFrom_16 ?_
    refine Go_cV1 (d' := 1) (bc' := 0) (bs' := 0) rfl dX9_copyFrom_17 mvX9_at rfl lkX9_23 (by first | assumption | rfl) rfl trivial (by decide) (by decide) (by decide) (Nat.le_of_ble_eq_true rfl) ?_
    refine e_X9_atN (j := f + i) hs (by omega) (by omega) ?_
    refine Go_cVv1 (d' := 1) (bc' := 0) (bs' := 0) rfl dX9_copyFrom_20 mvX9_push rfl lkX9_30 (by first | assumption | rfl) rfl trivial (by decide) (by decide) (by decide) (Nat.le_of_ble_eq_true rfl) ?_
    refine e_X9_push ht2 (by omega) (fun w3 t3 f3 => ?_)
    refine Go_inc3 dX9_copyFrom_23 rfl ?_
    refine Go_goto (tgt := 6) dX9_copyFrom_26 (by decide) ?_
    refine Go_forget (ls' := _) ?_ (kn w3 ⟨?_, f2.trans f3 (fun _ h => h)⟩)
    · exact (by repeat' (first | exact Or.inl rfl | exact Or.inr rfl | exact Or.inr (lcg (by omega)) | exact trivial | constructor))
    · rw [← take_getD (by rw [List.length_drop]; omega), drop_getD]; exact t3
  · try dsimp only at hP
    try dsimp only
    obtain ⟨ht2, f2⟩ := hP
    have hs := h.frm f2 (by simp; omega) (by simp; omega)
    have e := hs.2.1
    have hs1 := hs.1
    refine Go_ild3 dX9_copyFrom_6 ?_
    refine Go_ald1 dX9_copyFrom_7 ?_
    refine gf8_1 dX9_copyFrom_8 flX9_15 (by first | assumption | rfl) ?_
    refine Go_icmp_ge (tgt := 29) dX9_copyFrom_11 (by decide) (by constructor <;> omega) (by constructor <;> omega) (fun h11 => ?_) (fun h11 => by omega)
    refine Go_return dX9_copyFrom_29 rfl ?_
    refine k _ ?_ f2
    rw [← List.take_of_length_le (l := l.drop f) (i := l.length - f) (by rw [List.length_drop]; exact Nat.le_refl _)]
    exact ht2
theorem e_X9_flip (h : TR w t l) (hp : 1 ≤ l.length) (k : ∀ w', TR w' t l.reverse → frm w w' [t, t + 1] → K (vi 0) none w') : Ev G yX9_flip cX9_flip 4 mX9_flip none 0 0 0 [vr t] w K X := by
  obtain ⟨ht, hn, hl0, hj⟩ := h
  have ht1 := sh_t1 ht
  refine Ev_intro mvX9_flip.1 rfl (fun h => by cases h) (allc1 rfl) (Nat.le_of_ble_eq_true rfl) (Or.inl rfl) ?_
  show Go G cX9_flip mX9_flip none 0 0 0 0 [some (vr t), none, none, none] [] w K X
  refine Go_iconst dX9_flip_0 ?_
  refine Go_ist1 dX9_flip_1 rfl ?_
  refine Go_ald0 dX9_flip_2 ?_
  refine gf8_1 dX9_flip_3 flX9_15 (by first | assumption | rfl) ?_
  refine Go_iconst dX9_flip_6 ?_
  refine Go_isub dX9_flip_7 ?_
  refine Go_ist2 dX9_flip_8 rfl ?_
  refine Go_upTo (n := l.length / 2) (L := fun i => [some (vr t), some (vi (i : Int)), some (vi ((l.length : Int) - 1 - i)), none]) (P := fun i v => frm w v [t + 1] ∧ ∀ j, j < l.length → v (t + 1) j = if j < i ∨ l.length - 1 - j < i then (l.getD (l.length - 1 - j) 0 : Int) else (l.getD j 0 : Int)) (by repeat' (first | exact Or.inl rfl | exact Or.inr rfl | exact Or.inr (lcg (by omega)) | exact trivial | constructor)) (⟨frm.rfl, fun j q => by rw [if_neg (by omega)]; exact hj j q⟩) (fun i v hi hP kn => ?_) (fun v hP => ?_)
  · try dsimp only at hP kn
    try dsimp only
    obtain ⟨f1, hv⟩ := hP
    have e1 := hv i (by omega)
    have e2 := hv (l.length - 1 - i) (by omega)
    rw [if_neg (by omega)] at e1 e2
    refine Go_ild1 dX9_flip_9 ?_
    refine Go_ild2 dX9_flip_10 ?_
    refine Go_icmp_ge (tgt := 49) dX9_flip_11 (by decide) (by constructor <;> omega) (by constructor <;> omega) (fun h11 => by omega) (fun h11 => ?_)
    refine Go_ald0 dX9_flip_14 ?_
    refine gf8_0 dX9_flip_15 flX9_9 (by first | assumption | rfl) ?_
    refine Go_ild1 dX9_flip_18 ?_
    refine Go_iald dX9_flip_19 ht1 trivial (by omega) (by omega) (by decide) ?_
    refine Go_ist3 dX9_flip_20 rfl ?_
    refine Go_ald0 dX9_flip_21 ?_
    refine gf8_0 dX9_flip_22 flX9_9 (by first | assumption | rfl) ?_
    refine Go_ild1 dX9_flip_25 ?_
    refine Go_ald0 dX9_flip_26 ?_
    refine gf8_0 dX9_flip_27 flX9_9 (by first | assumption | rfl) ?_
    refine Go_ild2 dX9_flip_30 ?_
    refine Go_iald dX9_flip_31 ht1 trivial (by omega) (by omega) (by decide) ?_
    refine Go_iast dX9_flip_32 ht1 trivial (by omega) (by omega) (by decide) ?_
    refine Go_ald0 dX9_flip_33 ?_
    refine gf8_0 dX9_flip_34 flX9_9 (by first | assumption | rfl) ?_
    refine Go_ild2 dX9_flip_37 ?_
    refine Go_ild3 dX9_flip_38 ?_
    refine Go_iast dX9_flip_39 ht1 trivial (by omega) (by omega) (by decide) ?_
    refine Go_inc1 dX9_flip_40 rfl ?_
    refine Go_inc2 dX9_flip_43 rfl ?_
    refine Go_goto (tgt := 9) dX9_flip_46 (by decide) ?_
    refine Go_forget (ls' := _) ?_ (kn _ ⟨(f1.up (by simp)).up (by simp), fun j q => ?_⟩)
    · repeat' (first | exact Or.inl rfl | exact Or.inr rfl | exact Or.inr (lcg (by omega)) | exact trivial | constructor)
    · rw [Int.toNat_natCast, show ((l.length : Int) - 1 - i).toNat = l.length - 1 - i by omega, e1, e2]
      by_cases q1 : j = l.length - 1 - i
      · subst q1; rw [up_s, if_pos (by omega), show l.length - 1 - (l.length - 1 - i) = i by omega]
      · rw [up_k q1]
        by_cases q2 : j = i
        · subst q2; rw [up_s, if_pos (by omega)]
        · rw [up_k q2, hv j q]
          by_cases q3 : j < i ∨ l.length - 1 - j < i
          · rw [if_pos q3, if_pos (by omega)]
          · rw [if_neg q3, if_neg (by omega)]
  · try dsimp only at hP
    try dsimp only
    obtain ⟨f1, hv⟩ := hP
    refine Go_ild1 dX9_flip_9 ?_
    refine Go_ild2 dX9_flip_10 ?_
    refine Go_icmp_ge (tgt := 49) dX9_flip_11 (by decide) (by constructor <;> omega) (by constructor <;> omega) (fun h11 => ?_) (fun h11 => by omega)
    refine Go_return dX9_flip_49 rfl ?_
    refine k _ ⟨ht, by rw [f1.at (by simp), hn]; simp, by simp; exact hl0, fun j q => ?_⟩ (f1.mono (by simp))
    rw [List.length_reverse] at q
    rw [hv j q, gD_rev q]
    by_cases q3 : j < l.length / 2 ∨ l.length - 1 - j < l.length / 2
    · rw [if_pos q3]
    · rw [if_neg q3, show l.length - 1 - j = j by omega]
theorem e_X9_corners (h : TR w t l) (hx : LT l) (hp : 1 ≤ l.length) (k : K (vi (cornL l)) none w) : Ev G yX9_corners cX9_corners 3 mX9_corners none 4 0 0 [vr t] w K X := by
  have hl := h.2.2.1
  have ht := h.1
  unfold cornL at k
  refine Ev_intro mvX9_corners.1 rfl (fun h => by cases h) (allc1 rfl) (Nat.le_of_ble_eq_true rfl) (Or.inl rfl) ?_
  show Go G cX9_corners mX9_corners none 4 0 0 0 [some (vr t), none, none] [] w K X
  by_cases h1 : l.length = 1
  · rw [h1] at k
    refine Go_iconst dX9_corners_0 ?_
    refine Go_ist1 dX9_corners_1 rfl ?_
    refine Go_iconst dX9_corners_2 ?_
    refine Go_ist2 dX9_corners_3 rfl ?_
    refine Go_ild2 dX9_corners_4 ?_
    refine Go_ald0 dX9_corners_5 ?_
    refine Go_cV0 (d' := 0) (bc' := 0) (bs' := 0) rfl dX9_corners_6 mvX9_steps rfl lkX9_48 (by first | assumption | rfl) rfl trivial (by decide) (by decide) (by decide) (Nat.le_of_ble_eq_true rfl) ?_
    refine e_X9_steps h ?_
    refine Go_icmp_ge (tgt := 36) dX9_corners_9 (by decide) (by constructor <;> omega) (by constructor <;> omega) (fun h9 => ?_) (fun h9 => by omega)
    refine Go_ild1 dX9_corners_36 ?_
    refine Go_ireturn dX9_corners_37 rfl (by first | rfl | decide | exact nar_b | simp [narrow]) ?_
    exact k
  refine Go_iconst dX9_corners_0 ?_
  refine Go_ist1 dX9_corners_1 rfl ?_
  refine Go_iconst dX9_corners_2 ?_
  refine Go_ist2 dX9_corners_3 rfl ?_
  refine Go_upTo (n := l.length - 2) (L := fun i => [some (vr t), some (vi (smF (cornF l) (i + 1))), some (vi ((i : Int) + 1))]) (P := fun i v => v = w) (by repeat' (first | exact Or.inl rfl | exact Or.inr rfl | exact Or.inr (lcg (by omega)) | exact trivial | constructor)) (rfl) (fun i v hi hP kn => ?_) (fun v hP => ?_)
  · try dsimp only at hP kn
    try dsimp only
    subst hP
    have hs : smF (cornF l) (i + 2) = smF (cornF l) (i + 1) + (if 1 ≤ i + 1 ∧ stJ l (i + 1) ≠ stJ l i then 1 else 0) := rfl
    have b1 := stJ_in l (i + 1)
    have b2 := stJ_in l i
    refine Go_ild2 dX9_corners_4 ?_
    refine Go_ald0 dX9_corners_5 ?_
    refine Go_cV0 (d' := 0) (bc' := 0) (bs' := 0) rfl dX9_corners_6 mvX9_steps rfl lkX9_48 (by first | assumption | rfl) rfl trivial (by decide) (by decide) (by decide) (Nat.le_of_ble_eq_true rfl) ?_
    refine e_X9_steps h ?_
    refine Go_icmp_ge (tgt := 36) dX9_corners_9 (by decide) (by constructor <;> omega) (by constructor <;> omega) (fun h9 => by omega) (fun h9 => ?_)
    refine Go_ald0 dX9_corners_12 ?_
    refine Go_ild2 dX9_corners_13 ?_
    refine Go_cV1 (d' := 3) (bc' := 0) (bs' := 0) rfl dX9_corners_14 mvX9_stepAt rfl lkX9_52 (by first | assumption | rfl) rfl trivial (by decide) (by decide) (by decide) (Nat.le_of_ble_eq_true rfl) ?_
    refine e_X9_stepAtN (j := i + 1) h hx (by omega) (by omega) ?_
    refine Go_ald0 dX9_corners_17 ?_
    refine Go_ild2 dX9_corners_18 ?_
    refine Go_iconst dX9_corners_19 ?_
    refine Go_isub dX9_corners_20 ?_
    refine Go_cV1 (d' := 3) (bc' := 0) (bs' := 0) rfl dX9_corners_21 mvX9_stepAt rfl lkX9_52 (by first | assumption | rfl) rfl trivial (by decide) (by decide) (by decide) (Nat.le_of_ble_eq_true rfl) ?_
    refine e_X9_stepAtN (j := i) h hx (by omega) (by omega) ?_
    refine Go_icmp_eq (tgt := 30) dX9_corners_24 (by decide) (by constructor <;> omega) (by constructor <;> omega) (fun h24 => ?_) (fun h24 => ?_)
    · refine Go_inc2 dX9_corners_30 rfl ?_
      refine Go_goto (tgt := 4) dX9_corners_33 (by decide) ?_
      refine Go_forget (ls' := _) ?_ (kn _ rfl)
      repeat' (first | exact Or.inl rfl | exact Or.inr rfl | exact Or.inr (lcg (by rw [hs]; simp [*]; done)) | exact Or.inr (lcg (by omega)) | exact trivial | constructor)
    · refine Go_inc1 dX9_corners_27 rfl ?_
      refine Go_inc2 dX9_corners_30 rfl ?_
      refine Go_goto (tgt := 4) dX9_corners_33 (by decide) ?_
      refine Go_forget (ls' := _) ?_ (kn _ rfl)
      repeat' (first | exact Or.inl rfl | exact Or.inr rfl | exact Or.inr (lcg (by rw [hs]; simp [*]; done)) | exact Or.inr (lcg (by omega)) | exact trivial | constructor)
  · try dsimp only at hP
    try dsimp only
    subst hP
    refine Go_ild2 dX9_corners_4 ?_
    refine Go_ald0 dX9_corners_5 ?_
    refine Go_cV0 (d' := 0) (bc' := 0) (bs' := 0) rfl dX9_corners_6 mvX9_steps rfl lkX9_48 (by first | assumption | rfl) rfl trivial (by decide) (by decide) (by decide) (Nat.le_of_ble_eq_true rfl) ?_
    refine e_X9_steps h ?_
    refine Go_icmp_ge (tgt := 36) dX9_corners_9 (by decide) (by constructor <;> omega) (by constructor <;> omega) (fun h9 => ?_) (fun h9 => by omega)
    refine Go_ild1 dX9_corners_36 ?_
    refine Go_ireturn dX9_corners_37 rfl (by first | rfl | decide | exact nar_b | simp [narrow]) ?_
    rw [show l.length - 1 = l.length - 2 + 1 by omega] at k
    exact k
theorem e_X9_width (h : TR w t l) (hx : LT l) (k : K (vi (widL (colJ l) l.length)) none w) : Ev G yX9_width cX9_width 4 mX9_width none 1 0 0 [vr t] w K X := by
  obtain ⟨ht, hn, hl0, hj⟩ := h
  have ht1 := sh_t1 ht
  refine Ev_intro mvX9_width.1 rfl (fun h => by cases h) (allc1 rfl) (Nat.le_of_ble_eq_true rfl) (Or.inl rfl) ?_
  show Go G cX9_width mX9_width none 1 0 0 0 [some (vr t), none, none, none] [] w K X
  refine Go_bipush dX9_width_0 (by decide +kernel) ?_
  refine Go_ist1 dX9_width_2 rfl ?_
  refine Go_iconst dX9_width_3 ?_
  refine Go_ist2 dX9_width_4 rfl ?_
  refine Go_iconst dX9_width_5 ?_
  refine Go_ist3 dX9_width_6 rfl ?_
  refine Go_upTo (n := l.length) (L := fun i => [some (vr t), some (vi (mnF (colJ l) 10 i)), some (vi (mxF (colJ l) 0 i)), some (vi (i : Int))]) (P := fun i v => v = w) (by repeat' (first | exact Or.inl rfl | exact Or.inr rfl | exact Or.inr (lcg (by omega)) | exact trivial | constructor)) (rfl) (fun i v hi hP kn => ?_) (fun v hP => ?_)
  · try dsimp only at hP kn
    try dsimp only
    subst hP
    have e := hj i hi
    have b := hx.at i
    have b1 := mnF_in (f := colJ l) (a := 10) (lo := 0) (hi := 10) (n := i) (by omega) (fun j _ => by have := hx.at j; unfold colJ; omega)
    have b2 := mxF_in (f := colJ l) (a := 0) (lo := 0) (hi := 10) (n := i) (by omega) (fun j _ => by have := hx.at j; unfold colJ; omega)
    refine Go_ild3 dX9_width_7 ?_
    refine Go_ald0 dX9_width_8 ?_
    refine gf8_1 dX9_width_9 flX9_15 (by first | assumption | rfl) ?_
    refine Go_icmp_ge (tgt := 49) dX9_width_12 (by decide) (by constructor <;> omega) (by constructor <;> omega) (fun h12 => by omega) (fun h12 => ?_)
    refine Go_ild1 dX9_width_15 ?_
    refine Go_ald0 dX9_width_16 ?_
    refine gf8_0 dX9_width_17 flX9_9 (by first | assumption | rfl) ?_
    refine Go_ild3 dX9_width_20 ?_
    refine Go_iald dX9_width_21 ht1 trivial (by omega) (by omega) (by decide) ?_
    rw [Int.toNat_natCast, e]
    refine Go_cS1 (d' := 0) (bc' := 0) (bs' := 0) rfl dX9_width_22 msX2_column rfl lkX9_55 (by decide) (by decide) (by decide) (Nat.le_of_ble_eq_true rfl) ?_
    refine e_X2_column (by omega) (by omega) ?_
    refine Go_mmin dX9_width_25 lkX9_58 (by decide) (by constructor <;> omega) (by constructor <;> omega) (Nat.le_of_ble_eq_true rfl) ?_
    refine Go_ist1 dX9_width_28 rfl ?_
    refine Go_ild2 dX9_width_29 ?_
    refine Go_ald0 dX9_width_30 ?_
    refine gf8_0 dX9_width_31 flX9_9 (by first | assumption | rfl) ?_
    refine Go_ild3 dX9_width_34 ?_
    refine Go_iald dX9_width_35 ht1 trivial (by omega) (by omega) (by decide) ?_
    rw [Int.toNat_natCast, e]
    refine Go_cS1 (d' := 0) (bc' := 0) (bs' := 0) rfl dX9_width_36 msX2_column rfl lkX9_55 (by decide) (by decide) (by decide) (Nat.le_of_ble_eq_true rfl) ?_
    refine e_X2_column (by omega) (by omega) ?_
    refine Go_mmax dX9_width_39 lkX9_63 (by decide) (by constructor <;> omega) (by constructor <;> omega) (Nat.le_of_ble_eq_true rfl) ?_
    refine Go_ist2 dX9_width_42 rfl ?_
    refine Go_inc3 dX9_width_43 rfl ?_
    refine Go_goto (tgt := 7) dX9_width_46 (by decide) ?_
    exact Go_forget (by repeat' (first | exact Or.inl rfl | exact Or.inr rfl | exact Or.inr (lcg (by omega)) | exact trivial | constructor)) (kn _ rfl)
  · try dsimp only at hP
    try dsimp only
    subst hP
    refine Go_ild3 dX9_width_7 ?_
    refine Go_ald0 dX9_width_8 ?_
    refine gf8_1 dX9_width_9 flX9_15 (by first | assumption | rfl) ?_
    refine Go_icmp_ge (tgt := 49) dX9_width_12 (by decide) (by constructor <;> omega) (by constructor <;> omega) (fun h12 => ?_) (fun h12 => by omega)
    refine Go_ild2 dX9_width_49 ?_
    refine Go_ild1 dX9_width_50 ?_
    refine Go_isub dX9_width_51 ?_
    refine Go_iconst dX9_width_52 ?_
    refine Go_iadd dX9_width_53 ?_
    refine Go_ireturn dX9_width_54 rfl (by first | rfl | decide | exact nar_b | simp [narrow]) ?_
    exact k
theorem e_X9_height (h : TR w t l) (hx : LT l) (k : K (vi (widL (rowJ l) l.length)) none w) : Ev G yX9_height cX9_height 4 mX9_height none 1 0 0 [vr t] w K X := by
  obtain ⟨ht, hn, hl0, hj⟩ := h
  have ht1 := sh_t1 ht
  refine Ev_intro mvX9_height.1 rfl (fun h => by cases h) (allc1 rfl) (Nat.le_of_ble_eq_true rfl) (Or.inl rfl) ?_
  show Go G cX9_height mX9_height none 1 0 0 0 [some (vr t), none, none, none] [] w K X
  refine Go_bipush dX9_height_0 (by decide +kernel) ?_
  refine Go_ist1 dX9_height_2 rfl ?_
  refine Go_iconst dX9_height_3 ?_
  refine Go_ist2 dX9_height_4 rfl ?_
  refine Go_iconst dX9_height_5 ?_
  refine Go_ist3 dX9_height_6 rfl ?_
  refine Go_upTo (n := l.length) (L := fun i => [some (vr t), some (vi (mnF (rowJ l) 10 i)), some (vi (mxF (rowJ l) 0 i)), some (vi (i : Int))]) (P := fun i v => v = w) (by repeat' (first | exact Or.inl rfl | exact Or.inr rfl | exact Or.inr (lcg (by omega)) | exact trivial | constructor)) (rfl) (fun i v hi hP kn => ?_) (fun v hP => ?_)
  · try dsimp only at hP kn
    try dsimp only
    subst hP
    have e := hj i hi
    have b := hx.at i
    have b1 := mnF_in (f := rowJ l) (a := 10) (lo := 0) (hi := 10) (n := i) (by omega) (fun j _ => by have := hx.at j; unfold rowJ; omega)
    have b2 := mxF_in (f := rowJ l) (a := 0) (lo := 0) (hi := 10) (n := i) (by omega) (fun j _ => by have := hx.at j; unfold rowJ; omega)
    refine Go_ild3 dX9_height_7 ?_
    refine Go_ald0 dX9_height_8 ?_
    refine gf8_1 dX9_height_9 flX9_15 (by first | assumption | rfl) ?_
    refine Go_icmp_ge (tgt := 49) dX9_height_12 (by decide) (by constructor <;> omega) (by constructor <;> omega) (fun h12 => by omega) (fun h12 => ?_)
    refine Go_ild1 dX9_height_15 ?_
    refine Go_ald0 dX9_height_16 ?_
    refine gf8_0 dX9_height_17 flX9_9 (by first | assumption | rfl) ?_
    refine Go_ild3 dX9_height_20 ?_
    refine Go_iald dX9_height_21 ht1 trivial (by omega) (by omega) (by decide) ?_
    rw [Int.toNat_natCast, e]
    refine Go_cS1 (d' := 0) (bc' := 0) (bs' := 0) rfl dX9_height_22 msX2_row rfl lkX9_66 (by decide) (by decide) (by decide) (Nat.le_of_ble_eq_true rfl) ?_
    refine e_X2_row (by omega) (by omega) ?_
    refine Go_mmin dX9_height_25 lkX9_58 (by decide) (by constructor <;> omega) (by constructor <;> omega) (Nat.le_of_ble_eq_true rfl) ?_
    refine Go_ist1 dX9_height_28 rfl ?_
    refine Go_ild2 dX9_height_29 ?_
    refine Go_ald0 dX9_height_30 ?_
    refine gf8_0 dX9_height_31 flX9_9 (by first | assumption | rfl) ?_
    refine Go_ild3 dX9_height_34 ?_
    refine Go_iald dX9_height_35 ht1 trivial (by omega) (by omega) (by decide) ?_
    rw [Int.toNat_natCast, e]
    refine Go_cS1 (d' := 0) (bc' := 0) (bs' := 0) rfl dX9_height_36 msX2_row rfl lkX9_66 (by decide) (by decide) (by decide) (Nat.le_of_ble_eq_true rfl) ?_
    refine e_X2_row (by omega) (by omega) ?_
    refine Go_mmax dX9_height_39 lkX9_63 (by decide) (by constructor <;> omega) (by constructor <;> omega) (Nat.le_of_ble_eq_true rfl) ?_
    refine Go_ist2 dX9_height_42 rfl ?_
    refine Go_inc3 dX9_height_43 rfl ?_
    refine Go_goto (tgt := 7) dX9_height_46 (by decide) ?_
    exact Go_forget (by repeat' (first | exact Or.inl rfl | exact Or.inr rfl | exact Or.inr (lcg (by omega)) | exact trivial | constructor)) (kn _ rfl)
  · try dsimp only at hP
    try dsimp only
    subst hP
    refine Go_ild3 dX9_height_7 ?_
    refine Go_ald0 dX9_height_8 ?_
    refine gf8_1 dX9_height_9 flX9_15 (by first | assumption | rfl) ?_
    refine Go_icmp_ge (tgt := 49) dX9_height_12 (by decide) (by constructor <;> omega) (by constructor <;> omega) (fun h12 => ?_) (fun h12 => by omega)
    refine Go_ild2 dX9_height_49 ?_
    refine Go_ild1 dX9_height_50 ?_
    refine Go_isub dX9_height_51 ?_
    refine Go_iconst dX9_height_52 ?_
    refine Go_iadd dX9_height_53 ?_
    refine Go_ireturn dX9_height_54 rfl (by first | rfl | decide | exact nar_b | simp [narrow]) ?_
    exact k
theorem e_X9_moment (h : TR w t l) (hx : LT l) (k : K (vi (momL l)) none w) : Ev G yX9_moment cX9_moment 7 mX9_moment none 1 0 0 [vr t] w K X := by
  obtain ⟨ht, hn, hl0, hj⟩ := h
  have ht1 := sh_t1 ht
  unfold momL at k
  refine Ev_intro mvX9_moment.1 rfl (fun h => by cases h) (allc1 rfl) (Nat.le_of_ble_eq_true rfl) (Or.inl rfl) ?_
  show Go G cX9_moment mX9_moment none 1 0 0 0 [some (vr t), none, none, none, none, none, none] [] w K X
  refine Go_iconst dX9_moment_0 ?_
  refine Go_ist1 dX9_moment_1 rfl ?_
  refine Go_iconst dX9_moment_2 ?_
  refine Go_ist2 dX9_moment_3 rfl ?_
  refine Go_iconst dX9_moment_4 ?_
  refine Go_ist3 dX9_moment_5 rfl ?_
  refine Go_iconst dX9_moment_6 ?_
  refine Go_ist4 dX9_moment_7 rfl ?_
  refine Go_upTo (n := l.length) (L := fun i => [some (vr t), some (vi (smF (colJ l) i)), some (vi (smF (rowJ l) i)), some (vi (smF (fun j => colJ l j * colJ l j + rowJ l j * rowJ l j) i)), some (vi (i : Int)), none, none]) (P := fun i v => v = w) (by repeat' (first | exact Or.inl rfl | exact Or.inr rfl | exact Or.inr (lcg (by omega)) | exact trivial | constructor)) (rfl) (fun i v hi hP kn => ?_) (fun v hP => ?_)
  · try dsimp only at hP kn
    try dsimp only
    subst hP
    have e := hj i hi
    have b := hx.at i
    refine Go_ild4 dX9_moment_9 ?_
    refine Go_ald0 dX9_moment_11 ?_
    refine gf8_1 dX9_moment_12 flX9_15 (by first | assumption | rfl) ?_
    refine Go_icmp_ge (tgt := 72) dX9_moment_15 (by decide) (by constructor <;> omega) (by constructor <;> omega) (fun h15 => by omega) (fun h15 => ?_)
    refine Go_ald0 dX9_moment_18 ?_
    refine gf8_0 dX9_moment_19 flX9_9 (by first | assumption | rfl) ?_
    refine Go_ild4 dX9_moment_22 ?_
    refine Go_iald dX9_moment_24 ht1 trivial (by omega) (by omega) (by decide) ?_
    rw [Int.toNat_natCast, e]
    refine Go_cS1 (d' := 0) (bc' := 0) (bs' := 0) rfl dX9_moment_25 msX2_column rfl lkX9_55 (by decide) (by decide) (by decide) (Nat.le_of_ble_eq_true rfl) ?_
    refine e_X2_column (by omega) (by omega) ?_
    refine Go_ist5 dX9_moment_28 rfl ?_
    refine Go_ald0 dX9_moment_30 ?_
    refine gf8_0 dX9_moment_31 flX9_9 (by first | assumption | rfl) ?_
    refine Go_ild4 dX9_moment_34 ?_
    refine Go_iald dX9_moment_36 ht1 trivial (by omega) (by omega) (by decide) ?_
    rw [Int.toNat_natCast, e]
    refine Go_cS1 (d' := 0) (bc' := 0) (bs' := 0) rfl dX9_moment_37 msX2_row rfl lkX9_66 (by decide) (by decide) (by decide) (Nat.le_of_ble_eq_true rfl) ?_
    refine e_X2_row (by omega) (by omega) ?_
    refine Go_ist6 dX9_moment_40 rfl ?_
    refine Go_ild1 dX9_moment_42 ?_
    refine Go_ild5 dX9_moment_43 ?_
    refine Go_iadd dX9_moment_45 ?_
    refine Go_ist1 dX9_moment_46 rfl ?_
    refine Go_ild2 dX9_moment_47 ?_
    refine Go_ild6 dX9_moment_48 ?_
    refine Go_iadd dX9_moment_50 ?_
    refine Go_ist2 dX9_moment_51 rfl ?_
    refine Go_ild3 dX9_moment_52 ?_
    refine Go_ild5 dX9_moment_53 ?_
    refine Go_ild5 dX9_moment_55 ?_
    refine Go_imul dX9_moment_57 ?_
    refine Go_ild6 dX9_moment_58 ?_
    refine Go_ild6 dX9_moment_60 ?_
    refine Go_imul dX9_moment_62 ?_
    refine Go_iadd dX9_moment_63 ?_
    refine Go_iadd dX9_moment_64 ?_
    refine Go_ist3 dX9_moment_65 rfl ?_
    refine Go_inc4 dX9_moment_66 rfl ?_
    refine Go_goto (tgt := 9) dX9_moment_69 (by decide) ?_
    exact Go_forget (by repeat' (first | exact Or.inl rfl | exact Or.inr rfl | exact Or.inr (lcg (by omega)) | exact trivial | constructor)) (kn _ rfl)
  · try dsimp only at hP
    try dsimp only
    subst hP
    refine Go_ild4 dX9_moment_9 ?_
    refine Go_ald0 dX9_moment_11 ?_
    refine gf8_1 dX9_moment_12 flX9_15 (by first | assumption | rfl) ?_
    refine Go_icmp_ge (tgt := 72) dX9_moment_15 (by decide) (by constructor <;> omega) (by constructor <;> omega) (fun h15 => ?_) (fun h15 => by omega)
    refine Go_ald0 dX9_moment_72 ?_
    refine gf8_1 dX9_moment_73 flX9_15 (by first | assumption | rfl) ?_
    refine Go_ild3 dX9_moment_76 ?_
    refine Go_imul dX9_moment_77 ?_
    refine Go_ild1 dX9_moment_78 ?_
    refine Go_ild1 dX9_moment_79 ?_
    refine Go_imul dX9_moment_80 ?_
    refine Go_isub dX9_moment_81 ?_
    refine Go_ild2 dX9_moment_82 ?_
    refine Go_ild2 dX9_moment_83 ?_
    refine Go_imul dX9_moment_84 ?_
    refine Go_isub dX9_moment_85 ?_
    refine Go_ireturn dX9_moment_86 rfl (by first | rfl | decide | exact nar_b | simp [narrow]) ?_
    rw [hn]
    exact k
end Tr2
