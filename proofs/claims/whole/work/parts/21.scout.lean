/-- the ways to go on -/
def mkT (tk : Nat → Bool) (s : Nat) : Nat → Bool := fun t => if t = s then true else tk t
def wy : Nat → (Nat → Bool) → Nat → Int
  | 0, _, _ => 1
  | n + 1, tk, s => smF (fun d => if 0 ≤ nbI s d ∧ tk (nbI s d).toNat = false then wy n (mkT tk (nbI s d).toNat) (nbI s d).toNat else 0) 4
def thr (n : Nat) (tk : Nat → Bool) (z : Int) : Int := if 0 ≤ z ∧ tk z.toNat = false then wy n (mkT tk z.toNat) z.toNat else -1
def tkB (ps : List (List Nat)) : Nat → Bool := fun s => decide (ow ps s ≠ -1)
theorem wy_in : ∀ (n : Nat) (tk : Nat → Bool) (s : Nat), 0 ≤ wy n tk s ∧ wy n tk s ≤ 4 ^ n
  | 0, _, _ => ⟨show (0 : Int) ≤ 1 by decide, show (1 : Int) ≤ 4 ^ 0 by decide⟩
  | n + 1, tk, s => by
    have h4 : (0 : Int) ≤ 4 ^ n := Int.pow_nonneg (by decide)
    have := smF_in (f := fun d => if 0 ≤ nbI s d ∧ tk (nbI s d).toNat = false then wy n (mkT tk (nbI s d).toNat) (nbI s d).toNat else 0) (c := 4 ^ n) (n := 4) (fun j _ => by
      have := wy_in n (mkT tk (nbI s j).toNat) (nbI s j).toNat
      split
      · exact this
      · exact ⟨Int.le_refl _, h4⟩)
    show 0 ≤ smF _ 4 ∧ smF _ 4 ≤ 4 ^ (n + 1)
    rw [Int.pow_succ]
    exact this
theorem thr_in {n : Nat} (tk : Nat → Bool) (z : Int) (hn : n ≤ 6) : -1 ≤ thr n tk z ∧ thr n tk z ≤ 4096 := by
  have h := wy_in n (mkT tk z.toNat) z.toNat
  have key : ∀ n, n ≤ 6 → (4 : Int) ^ n ≤ 4096 := by decide
  have := key n hn
  unfold thr
  split <;> omega
theorem wy_succ (n : Nat) (tk : Nat → Bool) (s : Nat) : wy (n + 1) tk s = smF (fun d => if thr n tk (nbI s d) < 0 then 0 else thr n tk (nbI s d)) 4 := by
  show smF _ 4 = smF _ 4
  apply smF_congr
  intro d _
  unfold thr
  have := wy_in n (mkT tk (nbI s d).toNat) (nbI s d).toNat
  by_cases q : 0 ≤ nbI s d ∧ tk (nbI s d).toNat = false
  · rw [if_pos q, if_pos q, if_neg (by omega)]
  · rw [if_neg q, if_neg q, if_pos (by omega)]
def TK (w : Wd) (tk : Nat → Bool) : Prop := ∀ s, s < 100 → w 52 s = if tk s = true then 1 else 0
theorem TK.frm {w w' : Wd} {tk : Nat → Bool} {A : List Nat} (h : TK w tk) (f : frm w w' A) (hA : 52 ∉ A) : TK w' tk := fun s hs => by rw [f.at hA]; exact h s hs
/-- the first of the best -/
def bstF (f : Nat → Int) : Nat → Int × Int
  | 0 => (-1, -1)
  | n + 1 => if (bstF f n).2 < f n then ((n : Int), f n) else bstF f n
def bstD (ps : List (List Nat)) (s : Nat) : Int := (bstF (fun d => thr 4 (tkB ps) (nbI s d)) 4).1
section Scout
variable {G : Gm}
theorem e_X6_through (n : Nat) (hn : n ≤ 5) (E : ∀ (w : Wd) (K : Kt) (X : Xt) (tk : Nat → Bool) (s : Nat), s < 100 → TK w tk → (∀ w', TK w' tk → frm w w' [52] → K (vi (wy n tk s)) none w') → Ev G yX6_rowsFrom cX6_rowsFrom 5 mX6_rowsFrom none (2*n+2) 0 0 [vr 52, vi (s : Int), vi (n : Int)] w K X) {w : Wd} {K : Kt} {X : Xt} {tk : Nat → Bool} {z : Int} (hz : -1 ≤ z ∧ z < 100) (h : TK w tk) (k : ∀ w', TK w' tk → frm w w' [52] → K (vi (thr n tk z)) none w') : Ev G yX6_rowsThrough cX6_rowsThrough 4 mX6_rowsThrough none (2*n+3) 0 0 [vr 52, vi z, vi (n : Int)] w K X := by
  refine Ev_intro msX6_rowsThrough.1 rfl (fun h => by cases h) (allc1 rfl) (Nat.le_of_ble_eq_true rfl) (Or.inl rfl) ?_
  show Go G cX6_rowsThrough mX6_rowsThrough none (2*n+3) 0 0 0 [some (vr 52), some (vi z), some (vi (n : Int)), none] [] w K X
  by_cases q : 0 ≤ z
  · obtain ⟨s, rfl⟩ := Int.eq_ofNat_of_zero_le q
    have hs : s < 100 := by omega
    have e := h s hs
    have et : thr n tk (s : Int) = if tk s = false then wy n (mkT tk s) s else -1 := by unfold thr; rw [Int.toNat_natCast]; by_cases c : tk s = false; rw [if_pos ⟨q, c⟩, if_pos c]; rw [if_neg (fun x => c x.2), if_neg c]
    cases c : tk s with
    | true =>
      rw [c] at e et
      have et : thr n tk (s : Int) = -1 := et
      have e : w 52 s = 1 := e
      refine Go_ild1 dX6_rowsThrough_0 ?_
      refine Go_cS1 (d' := 0) (bc' := 0) (bs' := 0) rfl dX6_rowsThrough_1 msX2_isSite rfl lkX6_53 (by omega) (by decide) (by decide) (Nat.le_of_ble_eq_true rfl) ?_
      refine e_X2_isSite (by constructor <;> omega) ?_
      refine Go_ifb_eq (tgt := 13) dX6_rowsThrough_4 (by decide)  (fun h4 => by omega) (fun h4 => ?_)
      refine Go_ald0 dX6_rowsThrough_7 ?_
      refine Go_ild1 dX6_rowsThrough_8 ?_
      refine Go_zald dX6_rowsThrough_9 (by first | assumption | rfl) trivial (by omega) (by omega) (by decide) ?_
      rw [Int.toNat_natCast, e]
      refine Go_if_eq (tgt := 15) dX6_rowsThrough_10 (by decide) (by constructor <;> omega) (fun h10 => by omega) (fun h10 => ?_)
      refine Go_iconst dX6_rowsThrough_13 ?_
      refine Go_ireturn dX6_rowsThrough_14 rfl (by first | rfl | decide | simp [narrow]) ?_
      exact kI et.symm (k _ h frm.rfl)
    | false =>
      rw [c] at e et
      have et : thr n tk (s : Int) = wy n (mkT tk s) s := et
      have e : w 52 s = 0 := e
      have h1 : TK (up w 52 s 1) (mkT tk s) := fun t ht => by
        unfold mkT
        by_cases q : t = s
        · subst q; rw [up_s, if_pos rfl]; rfl
        · rw [up_k q, if_neg q]; exact h t ht
      refine Go_ild1 dX6_rowsThrough_0 ?_
      refine Go_cS1 (d' := 0) (bc' := 0) (bs' := 0) rfl dX6_rowsThrough_1 msX2_isSite rfl lkX6_53 (by omega) (by decide) (by decide) (Nat.le_of_ble_eq_true rfl) ?_
      refine e_X2_isSite (by constructor <;> omega) ?_
      refine Go_ifb_eq (tgt := 13) dX6_rowsThrough_4 (by decide)  (fun h4 => by omega) (fun h4 => ?_)
      refine Go_ald0 dX6_rowsThrough_7 ?_
      refine Go_ild1 dX6_rowsThrough_8 ?_
      refine Go_zald dX6_rowsThrough_9 (by first | assumption | rfl) trivial (by omega) (by omega) (by decide) ?_
      rw [Int.toNat_natCast, e]
      refine Go_if_eq (tgt := 15) dX6_rowsThrough_10 (by decide) (by constructor <;> omega) (fun h10 => ?_) (fun h10 => by omega)
      refine Go_ald0 dX6_rowsThrough_15 ?_
      refine Go_ild1 dX6_rowsThrough_16 ?_
      refine Go_iconst dX6_rowsThrough_17 ?_
      refine Go_zast dX6_rowsThrough_18 (by first | assumption | rfl) trivial (by omega) (by omega) (by decide) (by omega) ?_
      rw [Int.toNat_natCast]
      refine Go_ald0 dX6_rowsThrough_19 ?_
      refine Go_ild1 dX6_rowsThrough_20 ?_
      refine Go_ild2 dX6_rowsThrough_21 ?_
      refine Go_cS3 (d' := 2*n+2) (bc' := 0) (bs' := 0) rfl dX6_rowsThrough_22 msX6_rowsFrom rfl lkX6_31 (by omega) (by decide) (by decide) (Nat.le_of_ble_eq_true rfl) ?_
      refine E _ _ _ _ s hs h1 (fun w1 t1 f1 => ?_)
      refine Go_ist3 dX6_rowsThrough_25 rfl ?_
      refine Go_ald0 dX6_rowsThrough_26 ?_
      refine Go_ild1 dX6_rowsThrough_27 ?_
      refine Go_iconst dX6_rowsThrough_28 ?_
      refine Go_zast dX6_rowsThrough_29 (by first | assumption | rfl) trivial (by omega) (by omega) (by decide) (by omega) ?_
      refine Go_ild3 dX6_rowsThrough_30 ?_
      refine Go_ireturn dX6_rowsThrough_31 rfl (by first | rfl | decide | simp [narrow]) ?_
      rw [Int.toNat_natCast]
      refine kI et.symm (k _ (fun t ht => ?_) (((frm.rfl.up (by simp)).trans f1 (fun _ h => h)).up (by simp)))
      by_cases q : t = s
      · subst q; rw [up_s, c]; rfl
      · rw [up_k q, t1 t ht]; unfold mkT; rw [if_neg q]
  · have et : thr n tk z = -1 := by unfold thr; rw [if_neg (fun x => q x.1)]
    refine Go_ild1 dX6_rowsThrough_0 ?_
    refine Go_cS1 (d' := 0) (bc' := 0) (bs' := 0) rfl dX6_rowsThrough_1 msX2_isSite rfl lkX6_53 (by omega) (by decide) (by decide) (Nat.le_of_ble_eq_true rfl) ?_
    refine e_X2_isSite (by constructor <;> omega) ?_
    refine Go_ifb_eq (tgt := 13) dX6_rowsThrough_4 (by decide)  (fun h4 => ?_) (fun h4 => by omega)
    refine Go_iconst dX6_rowsThrough_13 ?_
    refine Go_ireturn dX6_rowsThrough_14 rfl (by first | rfl | decide | simp [narrow]) ?_
    exact kI et.symm (k _ h frm.rfl)
theorem e_X6_from : ∀ (n : Nat), n ≤ 6 → ∀ (w : Wd) (K : Kt) (X : Xt) (tk : Nat → Bool) (s : Nat), s < 100 → TK w tk → (∀ w', TK w' tk → frm w w' [52] → K (vi (wy n tk s)) none w') → Ev G yX6_rowsFrom cX6_rowsFrom 5 mX6_rowsFrom none (2*n+2) 0 0 [vr 52, vi (s : Int), vi (n : Int)] w K X := by
  intro n
  induction n with
  | zero =>
    intro hn w K X tk s hs h k
    refine Ev_intro msX6_rowsFrom.1 rfl (fun h => by cases h) (allc1 rfl) (Nat.le_of_ble_eq_true rfl) (Or.inl rfl) ?_
    show Go G cX6_rowsFrom mX6_rowsFrom none (2) 0 0 0 [some (vr 52), some (vi (s : Int)), some (vi ((0 : Nat) : Int)), none, none] [] w K X
    refine Go_ild2 dX6_rowsFrom_0 ?_
    refine Go_if_gt (tgt := 6) dX6_rowsFrom_1 (by decide) (by constructor <;> omega) (fun h1 => by omega) (fun h1 => ?_)
    refine Go_iconst dX6_rowsFrom_4 ?_
    refine Go_ireturn dX6_rowsFrom_5 rfl (by first | rfl | decide | simp [narrow]) ?_
    exact k _ h frm.rfl
  | succ n ih =>
    intro hn w K X tk s hs h k
    have ih := ih (by omega)
    have e := wy_succ n tk s
    rw [e] at k
    refine Ev_intro msX6_rowsFrom.1 rfl (fun h => by cases h) (allc1 rfl) (Nat.le_of_ble_eq_true rfl) (Or.inl rfl) ?_
    show Go G cX6_rowsFrom mX6_rowsFrom none (2*n+4) 0 0 0 [some (vr 52), some (vi (s : Int)), some (vi ((n + 1 : Nat) : Int)), none, none] [] w K X
    refine Go_ild2 dX6_rowsFrom_0 ?_
    refine Go_if_gt (tgt := 6) dX6_rowsFrom_1 (by decide) (by constructor <;> omega) (fun h1 => ?_) (fun h1 => by omega)
    refine Go_iconst dX6_rowsFrom_6 ?_
    refine Go_ist3 dX6_rowsFrom_7 rfl ?_
    refine Go_iconst dX6_rowsFrom_8 ?_
    refine Go_ist4 dX6_rowsFrom_9 rfl ?_
    refine Go_upTo (n := 4) (L := fun i => [some (vr 52), some (vi (s : Int)), some (vi ((n + 1 : Nat) : Int)), some (vi (smF (fun d => if thr n tk (nbI s d) < 0 then 0 else thr n tk (nbI s d)) i)), some (vi (i : Int))]) (P := fun i v => TK v tk ∧ frm w v [52]) (by repeat' (first | exact Or.inl rfl | exact Or.inr rfl | exact Or.inr (lcg (by omega)) | exact trivial | constructor)) (⟨h, frm.rfl⟩) (fun i v hi hP kn => ?_) (fun v hP => ?_)
    · try dsimp only at hP kn
      try dsimp only
      obtain ⟨h1, f1⟩ := hP
      have b := nbI_in s i
      have bt := thr_in (n := n) tk (nbI s i) (by omega)
      refine Go_ild4 dX6_rowsFrom_11 ?_
      refine Go_iconst dX6_rowsFrom_13 ?_
      refine Go_icmp_ge (tgt := 43) dX6_rowsFrom_14 (by decide) (by constructor <;> omega) (by constructor <;> omega) (fun h14 => by omega) (fun h14 => ?_)
      refine Go_ild3 dX6_rowsFrom_17 ?_
      refine Go_ald0 dX6_rowsFrom_18 ?_
      refine Go_ild1 dX6_rowsFrom_19 ?_
      refine Go_ild4 dX6_rowsFrom_20 ?_
      refine Go_cS2 (d' := 1) (bc' := 0) (bs' := 0) rfl dX6_rowsFrom_22 msX2_neighbour rfl lkX6_35 (by omega) (by decide) (by decide) (Nat.le_of_ble_eq_true rfl) ?_
      refine e_X2_neighbour (by omega) (by omega) (by constructor <;> omega) ?_
      refine Go_ild2 dX6_rowsFrom_25 ?_
      refine Go_iconst dX6_rowsFrom_26 ?_
      refine Go_isub dX6_rowsFrom_27 ?_
      rw [show ((n + 1 : Nat) : Int) - 1 = (n : Int) by omega]
      refine Go_cS3 (d' := 2*n+3) (bc' := 0) (bs' := 0) rfl dX6_rowsFrom_28 msX6_rowsThrough rfl lkX6_41 (by omega) (by decide) (by decide) (Nat.le_of_ble_eq_true rfl) ?_
      refine e_X6_through n (by omega) ih b h1 (fun w2 h2 f2 => ?_)
      refine Go_iconst dX6_rowsFrom_31 ?_
      refine Go_mmax dX6_rowsFrom_32 lkX6_48 (by omega) (by constructor <;> omega) (by constructor <;> omega) (Nat.le_of_ble_eq_true rfl) ?_
      refine Go_iadd dX6_rowsFrom_35 ?_
      refine Go_ist3 dX6_rowsFrom_36 rfl ?_
      refine Go_inc4 dX6_rowsFrom_37 rfl ?_
      refine Go_goto (tgt := 11) dX6_rowsFrom_40 (by decide) ?_
      exact Go_forget (by repeat' (first | exact Or.inl rfl | exact Or.inr rfl | exact Or.inr (lcg (by omega)) | exact trivial | constructor)) (kn _ ⟨h2, f1.trans f2 (fun _ h => h)⟩)
    · try dsimp only at hP
      try dsimp only
      obtain ⟨h1, f1⟩ := hP
      refine Go_ild4 dX6_rowsFrom_11 ?_
      refine Go_iconst dX6_rowsFrom_13 ?_
      refine Go_icmp_ge (tgt := 43) dX6_rowsFrom_14 (by decide) (by constructor <;> omega) (by constructor <;> omega) (fun h14 => ?_) (fun h14 => by omega)
      refine Go_ild3 dX6_rowsFrom_43 ?_
      refine Go_ireturn dX6_rowsFrom_44 rfl (by first | rfl | decide | simp [narrow]) ?_
      exact k _ h1 f1
variable {w : Wd} {K : Kt} {X : Xt} {ps : List (List Nat)}
theorem e_X6_survey (h : BD w ps) (k : ∀ w', TK w' (tkB ps) → frm w w' [52] → K (vi 0) none w') : Ev G yX6_survey cX6_survey 3 mX6_survey none 2 0 0 [vr 51, vr 2] w K X := by
  have hl5 := h.1.2.1
  refine Ev_intro mvX6_survey.1 rfl (fun h => by cases h) (allc1 rfl) (Nat.le_of_ble_eq_true rfl) (Or.inl rfl) ?_
  show Go G cX6_survey mX6_survey none 2 0 0 0 [some (vr 51), some (vr 2), none] [] w K X
  refine Go_iconst dX6_survey_0 ?_
  refine Go_ist2 dX6_survey_1 rfl ?_
  refine Go_upTo (n := 100) (L := fun i => [some (vr 51), some (vr 2), some (vi (i : Int))]) (P := fun i v => frm w v [52] ∧ ∀ s, s < i → v 52 s = if tkB ps s = true then 1 else 0) (by repeat' (first | exact Or.inl rfl | exact Or.inr rfl | exact Or.inr (lcg (by omega)) | exact trivial | constructor)) (⟨frm.rfl, fun s hs => by omega⟩) (fun i v hi hP kn => ?_) (fun v hP => ?_)
  · try dsimp only at hP kn
    try dsimp only
    obtain ⟨f1, h1⟩ := hP
    have hb := h.frm f1 (by simp)
    have nx : ∀ c : Int, c = (if tkB ps i = true then 1 else 0) → ∀ s, s < i + 1 → up v 52 i c 52 s = if tkB ps s = true then 1 else 0 := fun c hc s hs => by
      by_cases q : s = i
      · subst q; rw [up_s, hc]
      · rw [up_k q]; exact h1 s (by omega)
    refine Go_ild2 dX6_survey_2 ?_
    refine Go_bipush dX6_survey_3 (by decide +kernel) ?_
    refine Go_icmp_ge (tgt := 33) dX6_survey_5 (by decide) (by constructor <;> omega) (by constructor <;> omega) (fun h5 => by omega) (fun h5 => ?_)
    refine Go_ald0 dX6_survey_8 ?_
    refine gf5_0 dX6_survey_9 flX6_9 ?_
    refine Go_ild2 dX6_survey_12 ?_
    refine Go_ald1 dX6_survey_13 ?_
    refine Go_ild2 dX6_survey_14 ?_
    refine Go_cV1 (d' := 1) (bc' := 0) (bs' := 0) rfl dX6_survey_15 mvX0_isFree rfl lkX6_44 (by first | assumption | rfl) rfl trivial (by decide) (by decide) (by decide) (Nat.le_of_ble_eq_true rfl) ?_
    refine e_X0_isFree hb.2.1 hl5 (by constructor <;> omega) ?_
    refine Go_ifb_ne (tgt := 25) dX6_survey_18 (by decide)  (fun h18 => ?_) (fun h18 => ?_)
    · refine Go_iconst dX6_survey_25 ?_
      refine Go_zast dX6_survey_26 (by first | assumption | rfl) trivial (by omega) (by omega) (by decide) (by omega) ?_
      refine Go_inc2 dX6_survey_27 rfl ?_
      refine Go_goto (tgt := 2) dX6_survey_30 (by decide) ?_
      rw [Int.toNat_natCast]
      refine Go_forget (by repeat' (first | exact Or.inl rfl | exact Or.inr rfl | exact Or.inr (lcg (by omega)) | exact trivial | constructor)) (kn _ ⟨f1.up (by simp), nx _ ?_⟩)
      unfold tkB
      rw [Int.toNat_natCast] at h18
      first | (rw [if_pos (by rw [decide_eq_true_eq]; omega)]) | (rw [if_neg (by rw [decide_eq_true_eq]; omega)])
    · refine Go_iconst dX6_survey_21 ?_
      refine Go_goto (tgt := 26) dX6_survey_22 (by decide) ?_
      refine Go_zast dX6_survey_26 (by first | assumption | rfl) trivial (by omega) (by omega) (by decide) (by omega) ?_
      refine Go_inc2 dX6_survey_27 rfl ?_
      refine Go_goto (tgt := 2) dX6_survey_30 (by decide) ?_
      rw [Int.toNat_natCast]
      refine Go_forget (by repeat' (first | exact Or.inl rfl | exact Or.inr rfl | exact Or.inr (lcg (by omega)) | exact trivial | constructor)) (kn _ ⟨f1.up (by simp), nx _ ?_⟩)
      unfold tkB
      rw [Int.toNat_natCast] at h18
      first | (rw [if_pos (by rw [decide_eq_true_eq]; omega)]) | (rw [if_neg (by rw [decide_eq_true_eq]; omega)])
  · try dsimp only at hP
    try dsimp only
    obtain ⟨f1, h1⟩ := hP
    refine Go_ild2 dX6_survey_2 ?_
    refine Go_bipush dX6_survey_3 (by decide +kernel) ?_
    refine Go_icmp_ge (tgt := 33) dX6_survey_5 (by decide) (by constructor <;> omega) (by constructor <;> omega) (fun h5 => ?_) (fun h5 => by omega)
    refine Go_return dX6_survey_33 rfl ?_
    exact k _ h1 f1
theorem e_X6_rowsOfSteps {p n : Nat} (h : BD w ps) (ho : OKp ps) (hp : p < ps.length) (hn : n ≤ 6) (k : ∀ w', frm w w' [52] → K (vi (wy n (tkB ps) (hdL (pth ps p)))) none w') : Ev G yX6_rowsOfSteps cX6_rowsOfSteps 4 mX6_rowsOfSteps none 15 0 0 [vr 51, vr 2, vi (p : Int), vi (n : Int)] w K X := by
  have h5 := ho.1
  have h3 := h.1.2.2.1 p (by omega)
  have hts := bts_sh h3.1
  have hts1 := hts.1
  have hT := h.1.2.2.2.2 p hp
  have hlen := ho.len hp
  have hh : hdL (pth ps p) < 100 := (ho.lt p).at _
  refine Ev_intro mvX6_rowsOfSteps.1 rfl (fun h => by cases h) (allc1 rfl) (Nat.le_of_ble_eq_true rfl) (Or.inl rfl) ?_
  show Go G cX6_rowsOfSteps mX6_rowsOfSteps none 15 0 0 0 [some (vr 51), some (vr 2), some (vi (p : Int)), some (vi (n : Int))] [] w K X
  refine Go_ald0 dX6_rowsOfSteps_0 ?_
  refine Go_ald1 dX6_rowsOfSteps_1 ?_
  refine Go_cVv1 (d' := 2) (bc' := 0) (bs' := 0) rfl dX6_rowsOfSteps_2 mvX6_survey rfl lkX6_15 (by first | assumption | rfl) rfl trivial (by omega) (by decide) (by decide) (Nat.le_of_ble_eq_true rfl) ?_
  refine e_X6_survey h (fun w1 h1 f1 => ?_)
  have hb := h.frm f1 (by simp)
  have hT1 := hT.frm f1 (by simp; omega) (by simp; omega)
  refine Go_ald0 dX6_rowsOfSteps_5 ?_
  refine gf5_0 dX6_rowsOfSteps_6 flX6_9 ?_
  refine Go_ald1 dX6_rowsOfSteps_9 ?_
  refine Go_ild2 dX6_rowsOfSteps_10 ?_
  refine Go_cV1 (d' := 0) (bc' := 0) (bs' := 0) rfl dX6_rowsOfSteps_11 mvX0_trail rfl lkX6_19 (by first | assumption | rfl) rfl trivial (by omega) (by decide) (by decide) (Nat.le_of_ble_eq_true rfl) ?_
  refine e_X0_trail hb.1 (by omega) ?_
  rw [tA_frm f1 (by decide)]
  refine Go_cV0 (d' := 2) (bc' := 0) (bs' := 0) rfl dX6_rowsOfSteps_14 mvX9_head rfl lkX6_25 (by first | assumption | rfl) rfl trivial (by omega) (by decide) (by decide) (Nat.le_of_ble_eq_true rfl) ?_
  refine e_X9_headN hT1 (by omega) ?_
  refine Go_ild3 dX6_rowsOfSteps_17 ?_
  refine Go_cS3 (d' := 2*n+2) (bc' := 0) (bs' := 0) rfl dX6_rowsOfSteps_18 msX6_rowsFrom rfl lkX6_31 (by omega) (by decide) (by decide) (Nat.le_of_ble_eq_true rfl) ?_
  refine e_X6_from n hn _ _ _ _ _ hh h1 (fun w2 h2 f2 => ?_)
  refine Go_ireturn dX6_rowsOfSteps_21 rfl (by first | rfl | decide | simp [narrow]) ?_
  exact k _ (f1.trans f2 (fun _ h => h))
theorem e_X6_bestDirection {p : Nat} (h : BD w ps) (ho : OKp ps) (hp : p < ps.length) (k : ∀ w', frm w w' [52] → K (vi (bstD ps (hdL (pth ps p)))) none w') : Ev G yX6_bestDirection cX6_bestDirection 8 mX6_bestDirection none 14 0 0 [vr 51, vr 2, vi (p : Int)] w K X := by
  have h5 := ho.1
  have h3 := h.1.2.2.1 p (by omega)
  have hts := bts_sh h3.1
  have hts1 := hts.1
  have hT := h.1.2.2.2.2 p hp
  have hlen := ho.len hp
  have hh : hdL (pth ps p) < 100 := (ho.lt p).at _
  unfold bstD at k
  refine Ev_intro mvX6_bestDirection.1 rfl (fun h => by cases h) (allc1 rfl) (Nat.le_of_ble_eq_true rfl) (Or.inl rfl) ?_
  show Go G cX6_bestDirection mX6_bestDirection none 14 0 0 0 [some (vr 51), some (vr 2), some (vi (p : Int)), none, none, none, none, none] [] w K X
  refine Go_ald0 dX6_bestDirection_0 ?_
  refine Go_ald1 dX6_bestDirection_1 ?_
  refine Go_cVv1 (d' := 2) (bc' := 0) (bs' := 0) rfl dX6_bestDirection_2 mvX6_survey rfl lkX6_15 (by first | assumption | rfl) rfl trivial (by decide) (by decide) (by decide) (Nat.le_of_ble_eq_true rfl) ?_
  refine e_X6_survey h (fun w1 h1 f1 => ?_)
  have hb := h.frm f1 (by simp)
  have hT1 := hT.frm f1 (by simp; omega) (by simp; omega)
  refine Go_ald1 dX6_bestDirection_5 ?_
  refine Go_ild2 dX6_bestDirection_6 ?_
  refine Go_cV1 (d' := 0) (bc' := 0) (bs' := 0) rfl dX6_bestDirection_7 mvX0_trail rfl lkX6_19 (by first | assumption | rfl) rfl trivial (by decide) (by decide) (by decide) (Nat.le_of_ble_eq_true rfl) ?_
  refine e_X0_trail hb.1 (by omega) ?_
  rw [tA_frm f1 (by decide)]
  refine Go_cV0 (d' := 2) (bc' := 0) (bs' := 0) rfl dX6_bestDirection_10 mvX9_head rfl lkX6_25 (by first | assumption | rfl) rfl trivial (by decide) (by decide) (by decide) (Nat.le_of_ble_eq_true rfl) ?_
  refine e_X9_headN hT1 (by omega) ?_
  refine Go_ist3 dX6_bestDirection_13 rfl ?_
  refine Go_iconst dX6_bestDirection_14 ?_
  refine Go_ist4 dX6_bestDirection_15 rfl ?_
  refine Go_iconst dX6_bestDirection_17 ?_
  refine Go_ist5 dX6_bestDirection_18 rfl ?_
  refine Go_iconst dX6_bestDirection_20 ?_
  refine Go_ist6 dX6_bestDirection_21 rfl ?_
  refine Go_upTo (n := 4) (L := fun i => [some (vr 51), some (vr 2), some (vi (p : Int)), some (vi (hdL (pth ps p) : Int)), some (vi (bstF (fun d => thr 4 (tkB ps) (nbI (hdL (pth ps p)) d)) i).1), some (vi (bstF (fun d => thr 4 (tkB ps) (nbI (hdL (pth ps p)) d)) i).2), some (vi (i : Int)), none]) (P := fun i v => TK v (tkB ps) ∧ frm w v [52] ∧ -1 ≤ (bstF (fun d => thr 4 (tkB ps) (nbI (hdL (pth ps p)) d)) i).2 ∧ (bstF (fun d => thr 4 (tkB ps) (nbI (hdL (pth ps p)) d)) i).2 ≤ 4096) (by repeat' (first | exact Or.inl rfl | exact Or.inr rfl | exact Or.inr (lcg (by omega)) | exact trivial | constructor)) (⟨h1, f1, show (-1 : Int) ≤ -1 by decide, show (-1 : Int) ≤ 4096 by decide⟩) (fun i v hi hP kn => ?_) (fun v hP => ?_)
  · try dsimp only at hP kn
    try dsimp only
    obtain ⟨h2, f2, c1, c2⟩ := hP
    have b := nbI_in (hdL (pth ps p)) i
    have bt := thr_in (n := 4) (tkB ps) (nbI (hdL (pth ps p)) i) (by omega)
    have e : bstF (fun d => thr 4 (tkB ps) (nbI (hdL (pth ps p)) d)) (i + 1) = if (bstF (fun d => thr 4 (tkB ps) (nbI (hdL (pth ps p)) d)) i).2 < thr 4 (tkB ps) (nbI (hdL (pth ps p)) i) then ((i : Int), thr 4 (tkB ps) (nbI (hdL (pth ps p)) i)) else bstF (fun d => thr 4 (tkB ps) (nbI (hdL (pth ps p)) d)) i := rfl
    refine Go_ild6 dX6_bestDirection_23 ?_
    refine Go_iconst dX6_bestDirection_25 ?_
    refine Go_icmp_ge (tgt := 66) dX6_bestDirection_26 (by decide) (by constructor <;> omega) (by constructor <;> omega) (fun h26 => by omega) (fun h26 => ?_)
    refine Go_ald0 dX6_bestDirection_29 ?_
    refine gf5_0 dX6_bestDirection_30 flX6_9 ?_
    refine Go_ild3 dX6_bestDirection_33 ?_
    refine Go_ild6 dX6_bestDirection_34 ?_
    refine Go_cS2 (d' := 1) (bc' := 0) (bs' := 0) rfl dX6_bestDirection_36 msX2_neighbour rfl lkX6_35 (by decide) (by decide) (by decide) (Nat.le_of_ble_eq_true rfl) ?_
    refine e_X2_neighbour (by omega) (by omega) (by constructor <;> omega) ?_
    refine Go_iconst dX6_bestDirection_39 ?_
    refine Go_cS3 (d' := 11) (bc' := 0) (bs' := 0) rfl dX6_bestDirection_40 msX6_rowsThrough rfl lkX6_41 (by omega) (by decide) (by decide) (Nat.le_of_ble_eq_true rfl) ?_
    refine e_X6_through 4 (by omega) (e_X6_from 4 (by omega)) b h2 (fun w3 h3 f3 => ?_)
    refine Go_ist7 dX6_bestDirection_43 rfl ?_
    refine Go_ild7 dX6_bestDirection_45 ?_
    refine Go_ild5 dX6_bestDirection_47 ?_
    refine Go_icmp_le (tgt := 60) dX6_bestDirection_49 (by decide) (by constructor <;> omega) (by constructor <;> omega) (fun h49 => ?_) (fun h49 => ?_)
    · refine Go_inc6 dX6_bestDirection_60 rfl ?_
      refine Go_goto (tgt := 23) dX6_bestDirection_63 (by decide) ?_
      first | rw [if_pos (by omega)] at e | rw [if_neg (by omega)] at e
      refine Go_forget (ls' := _) ?_ (kn _ ⟨h3, f2.trans f3 (fun _ h => h), ?_, ?_⟩)
      · rw [e]; exact (by repeat' (first | exact Or.inl rfl | exact Or.inr rfl | exact Or.inr (lcg (by omega)) | exact trivial | constructor))
      · rw [e]; (first | exact bt.1 | exact c1)
      · rw [e]; (first | exact bt.2 | exact c2)
    · refine Go_ild6 dX6_bestDirection_52 ?_
      refine Go_ist4 dX6_bestDirection_54 rfl ?_
      refine Go_ild7 dX6_bestDirection_56 ?_
      refine Go_ist5 dX6_bestDirection_58 rfl ?_
      refine Go_inc6 dX6_bestDirection_60 rfl ?_
      refine Go_goto (tgt := 23) dX6_bestDirection_63 (by decide) ?_
      first | rw [if_pos (by omega)] at e | rw [if_neg (by omega)] at e
      refine Go_forget (ls' := _) ?_ (kn _ ⟨h3, f2.trans f3 (fun _ h => h), ?_, ?_⟩)
      · rw [e]; exact (by repeat' (first | exact Or.inl rfl | exact Or.inr rfl | exact Or.inr (lcg (by omega)) | exact trivial | constructor))
      · rw [e]; (first | exact bt.1 | exact c1)
      · rw [e]; (first | exact bt.2 | exact c2)
  · try dsimp only at hP
    try dsimp only
    obtain ⟨h2, f2, c1, c2⟩ := hP
    refine Go_ild6 dX6_bestDirection_23 ?_
    refine Go_iconst dX6_bestDirection_25 ?_
    refine Go_icmp_ge (tgt := 66) dX6_bestDirection_26 (by decide) (by constructor <;> omega) (by constructor <;> omega) (fun h26 => ?_) (fun h26 => by omega)
    refine Go_ild4 dX6_bestDirection_66 ?_
    refine Go_ireturn dX6_bestDirection_68 rfl (by first | rfl | decide | simp [narrow]) ?_
    exact k _ f2
end Scout
