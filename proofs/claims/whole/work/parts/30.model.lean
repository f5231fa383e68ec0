/-! THE REFERENCE -/
def ST (w : Wd) (a off : Nat) (s : Sta) : Prop := OKp s.1 ∧ w a off = (s.1.length : Int) ∧ w a (off + 1) = s.2.1 ∧ w a (off + 2) = s.2.2.1 ∧ w a (off + 3) = s.2.2.2 ∧ (∀ p, p < s.1.length → w a (off + (4 + p)) = ((pth s.1 p).length : Int)) ∧ ∀ p k, p < s.1.length → k < (pth s.1 p).length → w a (off + (9 + 60 * p + k)) = ((pth s.1 p).getD k 0 : Int)
theorem ST.copy {w w' : Wd} {a b o o' : Nat} {s : Sta} (h : ST w a o s) (e : ∀ k, k < 309 → w' b (o' + k) = w a (o + k)) : ST w' b o' s := by
  obtain ⟨h1, h2, h3, h4, h5, h6, h7⟩ := h
  have h5' := h1.1
  refine ⟨h1, by have := e 0 (by omega); rw [Nat.add_zero, Nat.add_zero] at this; rw [this]; exact h2, by rw [e 1 (by omega)]; exact h3, by rw [e 2 (by omega)]; exact h4, by rw [e 3 (by omega)]; exact h5, fun p hp => by rw [e (4 + p) (by omega)]; exact h6 p hp, fun p k hp hk => ?_⟩
  have := (h1.len hp).2
  rw [e (9 + 60 * p + k) (by omega)]
  exact h7 p k hp hk
theorem ST.frm {w w' : Wd} {a o : Nat} {s : Sta} {A : List Nat} (h : ST w a o s) (f : frm w w' A) (hA : a ∉ A) : ST w' a o s := h.copy (fun k _ => f.at hA _)
theorem ST.ok {w : Wd} {a o : Nat} {s : Sta} (h : ST w a o s) : OKp s.1 := h.1
theorem st_n {w : Wd} {s : Sta} (h : ST w 69 0 s) : w 69 0 = (s.1.length : Int) := h.2.1
theorem st_a {w : Wd} {s : Sta} (h : ST w 69 0 s) : w 69 1 = s.2.1 ∧ w 69 2 = s.2.2.1 ∧ w 69 3 = s.2.2.2 := ⟨h.2.2.1, h.2.2.2.1, h.2.2.2.2.1⟩
theorem st_l {w : Wd} {s : Sta} (h : ST w 69 0 s) {p : Nat} (hp : p < s.1.length) : w 69 (4 + p) = ((pth s.1 p).length : Int) := by
  have := h.2.2.2.2.2.1 p hp
  rw [Nat.zero_add] at this
  exact this
theorem st_s {w : Wd} {s : Sta} (h : ST w 69 0 s) {p k : Nat} (hp : p < s.1.length) (hk : k < (pth s.1 p).length) : w 69 (9 + 60 * p + k) = ((pth s.1 p).getD k 0 : Int) := by
  have := h.2.2.2.2.2.2 p k hp hk
  rw [Nat.zero_add] at this
  exact this
theorem st_mk {w : Wd} {s : Sta} (h1 : OKp s.1) (h2 : w 69 0 = (s.1.length : Int)) (h3 : w 69 1 = s.2.1) (h4 : w 69 2 = s.2.2.1) (h5 : w 69 3 = s.2.2.2) (h6 : ∀ p, p < s.1.length → w 69 (4 + p) = ((pth s.1 p).length : Int)) (h7 : ∀ p k, p < s.1.length → k < (pth s.1 p).length → w 69 (9 + 60 * p + k) = ((pth s.1 p).getD k 0 : Int)) : ST w 69 0 s :=
  ⟨h1, h2, h3, h4, h5, fun p hp => by rw [Nat.zero_add]; exact h6 p hp, fun p k hp hk => by rw [Nat.zero_add]; exact h7 p k hp hk⟩
def MSv (w : Wd) (sv : List Sta) : Prop := w 68 3 = (sv.length : Int) ∧ sv.length ≤ 6 ∧ ∀ i, i < sv.length → ST w 70 (309 * i) (sv.getD i s00)
def MGs (w : Wd) (g : Nat → Option Sta) : Prop := ∀ i, i < 2 → match g i with
  | none => w 72 i = 0
  | some s => w 72 i = 1 ∧ ST w 71 (309 * i) s
def MTx (w : Wd) (tx : List Nat) : Prop := w 68 7 = (tx.length : Int) ∧ tx.length ≤ 70 ∧ (∀ j, j < tx.length → w 73 j = (tx.getD j 0 : Int)) ∧ LTc tx
def MInv (w : Wd) (s : Sta) (sv : List Sta) (g : Nat → Option Sta) (tx : List Nat) : Prop := ST w 69 0 s ∧ MSv w sv ∧ MGs w g ∧ MTx w tx
theorem MSv.frm {w w' : Wd} {sv : List Sta} {A : List Nat} (h : MSv w sv) (f : frm w w' A) (hA : 70 ∉ A) (h3 : w' 68 3 = w 68 3) : MSv w' sv := ⟨by rw [h3]; exact h.1, h.2.1, fun i hi => (h.2.2 i hi).frm f hA⟩
theorem MGs.frm {w w' : Wd} {g : Nat → Option Sta} {A : List Nat} (h : MGs w g) (f : frm w w' A) (h1 : 71 ∉ A) (h2 : 72 ∉ A) : MGs w' g := by
  intro i hi
  have := h i hi
  cases hg : g i with
  | none => rw [hg] at this; exact (f.at h2 i).trans this
  | some s => rw [hg] at this; exact ⟨(f.at h2 i).trans this.1, this.2.frm f h1⟩
theorem MTx.frm {w w' : Wd} {tx : List Nat} {A : List Nat} (h : MTx w tx) (f : frm w w' A) (h1 : 73 ∉ A) (h7 : w' 68 7 = w 68 7) : MTx w' tx := ⟨by rw [h7]; exact h.1, h.2.1, fun j hj => by rw [f.at h1]; exact h.2.2.1 j hj, h.2.2.2⟩
/-- a change of what is worked in alone -/
def scr : List Nat := [68, 74, 75, 76, 77, 78, 79, 80, 81, 82, 83]
def mcs : List Nat := [68, 69, 70, 71, 72, 73, 74, 75, 76, 77, 78, 79, 80, 81, 82, 83]
def mfr (w w' : Wd) : Prop := frm w w' scr ∧ w' 68 3 = w 68 3 ∧ w' 68 7 = w 68 7
theorem mfr.rfl {w : Wd} : mfr w w := ⟨frm.rfl, Eq.refl _, Eq.refl _⟩
theorem mfr.trans {w w' w'' : Wd} (h : mfr w w') (h2 : mfr w' w'') : mfr w w'' := ⟨h.1.trans h2.1 (fun _ h => h), h2.2.1.trans h.2.1, h2.2.2.trans h.2.2⟩
theorem mfr.upd {w w' : Wd} {a k : Nat} {z : Int} (h : mfr w w') (ha : a ∈ scr) (hk : a ≠ 68 ∨ (k ≠ 3 ∧ k ≠ 7)) : mfr w (up w' a k z) := by
  have e : ∀ j, (j = 3 ∨ j = 7) → up w' a k z 68 j = w' 68 j := fun j hj => by
    by_cases q : a = 68
    · subst q; exact up_k (by omega)
    · exact up_a (fun c => q c.symm)
  exact ⟨h.1.up ha, by rw [e 3 (Or.inl (Eq.refl _))]; exact h.2.1, by rw [e 7 (Or.inr (Eq.refl _))]; exact h.2.2⟩
theorem mfr.of {w w' : Wd} {A : List Nat} (f : frm w w' A) (hA : ∀ a ∈ A, a ∈ scr ∧ a ≠ 68) : mfr w w' := by
  have e : ∀ j, w' 68 j = w 68 j := fun j => f.at (fun q => (hA _ q).2 (Eq.refl _)) j
  exact ⟨f.mono (fun a ha => (hA a ha).1), e 3, e 7⟩
theorem mfr.ST {w w' : Wd} {s : Sta} (h : mfr w w') (m : ST w 69 0 s) : ST w' 69 0 s := m.frm h.1 (by decide)
theorem mfr.MInv {w w' : Wd} {s : Sta} {sv : List Sta} {g : Nat → Option Sta} {tx : List Nat} (h : mfr w w') (m : MInv w s sv g tx) : MInv w' s sv g tx :=
  ⟨m.1.frm h.1 (by decide), m.2.1.frm h.1 (by decide) h.2.1, m.2.2.1.frm h.1 (by decide) (by decide), m.2.2.2.frm h.1 (by decide) h.2.2⟩
theorem scr_mcs : ∀ a ∈ scr, a ∈ mcs := by decide
theorem Go_ior0 {G : Gm} {cc : ByteArray} {mt : Mt} {nx : Option Nat} {d bc bs pc : Nat} {ls : List (Option Vl)} {st : List Vl} {w : Wd} {K : Kt} {X : Xt} {a : Nat} (dec : decode cc pc = .ok (.ior, 1)) (k : Go G cc mt nx d bc bs (pc + 1) ls (vi (a : Int) :: st) w K X) : Go G cc mt nx d bc bs pc ls (vi 0 :: vi (a : Int) :: st) w K X := Go_ior (b := 0) dec (by rw [Nat.or_zero]; exact k)
section Model1
variable {G : Gm} {w : Wd} {K : Kt} {X : Xt} {s : Sta} {sv : List Sta} {g : Nat → Option Sta} {tx : List Nat} {z z1 z2 z3 : Int} {p k0 : Nat}
theorem e_X12_thrown (k : K (vi (w 68 0)) none w) : Ev G yX12_thrown cX12_thrown 1 mX12_thrown none 0 0 0 [vr 68] w K X := by
  refine Ev_intro mvX12_thrown.1 rfl (fun h => by cases h) (allc1 rfl) (Nat.le_of_ble_eq_true rfl) (Or.inl rfl) ?_
  show Go G cX12_thrown mX12_thrown none 0 0 0 0 [some (vr 68)] [] w K X
  refine Go_ald0 dX12_thrown_0 ?_
  refine gf11_0 dX12_thrown_1 flX12_59 (by first | assumption | rfl) ?_
  refine Go_ireturn dX12_thrown_4 rfl (by first | rfl | decide | exact nar_b | simp [narrow]) ?_
  exact k
theorem e_X12_fails (k : K (vi 0) none (up w 68 0 z)) : Ev G yX12_fails cX12_fails 2 mX12_fails none 0 0 0 [vr 68, vi z] w K X := by
  refine Ev_intro mvX12_fails.1 rfl (fun h => by cases h) (allc1 rfl) (Nat.le_of_ble_eq_true rfl) (Or.inl rfl) ?_
  show Go G cX12_fails mX12_fails none 0 0 0 0 [some (vr 68), some (vi z)] [] w K X
  refine Go_ald0 dX12_fails_0 ?_
  refine Go_ild1 dX12_fails_1 ?_
  refine pf11_0 dX12_fails_2 flX12_59 (by first | assumption | rfl) ?_
  refine Go_iconst dX12_fails_5 ?_
  refine Go_ireturn dX12_fails_6 rfl (by first | rfl | decide | exact nar_b | simp [narrow]) ?_
  exact k
theorem e_X12_within {lo hi : Int} (h : inR z) (hl : inR lo) (hh : inR hi) (k : K (vi (if lo ≤ z ∧ z ≤ hi then 1 else 0)) none w) : Ev G yX12_within cX12_within 3 mX12_within none 0 0 0 [vi z, vi lo, vi hi] w K X := by
  obtain ⟨a1, a2⟩ := h
  obtain ⟨b1, b2⟩ := hl
  obtain ⟨c1, c2⟩ := hh
  refine Ev_intro msX12_within.1 rfl (fun h => by cases h) (allc1 rfl) (Nat.le_of_ble_eq_true rfl) (Or.inl rfl) ?_
  show Go G cX12_within mX12_within none 0 0 0 0 [some (vi z), some (vi lo), some (vi hi)] [] w K X
  refine Go_ild0 dX12_within_0 ?_
  refine Go_ild1 dX12_within_1 ?_
  refine Go_icmp_lt (tgt := 14) dX12_within_2 (by decide) (by constructor <;> omega) (by constructor <;> omega) (fun h2 => ?_) (fun h2 => ?_)
  · refine Go_iconst dX12_within_14 ?_
    refine Go_ireturn dX12_within_15 rfl (by first | rfl | decide | exact nar_b | simp [narrow]) ?_
    first | (refine kI (Eq.symm (if_neg (by omega))) k) | (refine kI (Eq.symm (if_pos (by omega))) k)
  · refine Go_ild0 dX12_within_5 ?_
    refine Go_ild2 dX12_within_6 ?_
    refine Go_icmp_gt (tgt := 14) dX12_within_7 (by decide) (by constructor <;> omega) (by constructor <;> omega) (fun h7 => ?_) (fun h7 => ?_)
    · refine Go_iconst dX12_within_14 ?_
      refine Go_ireturn dX12_within_15 rfl (by first | rfl | decide | exact nar_b | simp [narrow]) ?_
      first | (refine kI (Eq.symm (if_neg (by omega))) k) | (refine kI (Eq.symm (if_pos (by omega))) k)
    · refine Go_iconst dX12_within_10 ?_
      refine Go_goto (tgt := 15) dX12_within_11 (by decide) ?_
      refine Go_ireturn dX12_within_15 rfl (by first | rfl | decide | exact nar_b | simp [narrow]) ?_
      first | (refine kI (Eq.symm (if_neg (by omega))) k) | (refine kI (Eq.symm (if_pos (by omega))) k)
theorem e_X12_isPath (h : ST w 69 0 s) (hz : inR z) (k : K (vi (if 0 ≤ z ∧ z < s.1.length then 1 else 0)) none w) : Ev G yX12_isPath cX12_isPath 2 mX12_isPath none 1 0 0 [vr 68, vi z] w K X := by
  have e := st_n h
  have h5 := h.1.1
  refine Ev_intro mvX12_isPath.1 rfl (fun h => by cases h) (allc1 rfl) (Nat.le_of_ble_eq_true rfl) (Or.inl rfl) ?_
  show Go G cX12_isPath mX12_isPath none 1 0 0 0 [some (vr 68), some (vi z)] [] w K X
  refine Go_ild1 dX12_isPath_0 ?_
  refine Go_iconst dX12_isPath_1 ?_
  refine Go_ald0 dX12_isPath_2 ?_
  refine gf11_1 dX12_isPath_3 flX12_7 ?_
  refine Go_iconst dX12_isPath_6 ?_
  refine Go_iald dX12_isPath_7 (by first | assumption | rfl) trivial (by omega) (by omega) (by decide) ?_
  rw [show (0 : Int).toNat = 0 from rfl, e]
  refine Go_iconst dX12_isPath_8 ?_
  refine Go_isub dX12_isPath_9 ?_
  refine Go_cS3 (d' := 0) (bc' := 0) (bs' := 0) rfl dX12_isPath_10 msX12_within rfl lkX12_62 (by decide) (by decide) (by decide) (Nat.le_of_ble_eq_true rfl) ?_
  refine e_X12_within hz (by constructor <;> omega) (by constructor <;> omega) ?_
  refine Go_ireturn dX12_isPath_13 rfl (by first | rfl | decide | exact nar_b | simp [narrow]) ?_
  by_cases q : 0 ≤ z ∧ z < s.1.length
  · rw [if_pos q] at k; exact kI (if_pos (by omega)) k
  · rw [if_neg q] at k; exact kI (if_neg (by omega)) k
theorem e_X12_lengthOf (h : ST w 69 0 s) (hp : p < s.1.length) (k : K (vi (pth s.1 p).length) none w) : Ev G yX12_lengthOf cX12_lengthOf 2 mX12_lengthOf none 0 0 0 [vr 68, vi (p : Int)] w K X := by
  have e := st_l h hp
  have h5 := h.1.1
  refine Ev_intro mvX12_lengthOf.1 rfl (fun h => by cases h) (allc1 rfl) (Nat.le_of_ble_eq_true rfl) (Or.inl rfl) ?_
  show Go G cX12_lengthOf mX12_lengthOf none 0 0 0 0 [some (vr 68), some (vi (p : Int))] [] w K X
  refine Go_ald0 dX12_lengthOf_0 ?_
  refine gf11_1 dX12_lengthOf_1 flX12_7 ?_
  refine Go_iconst dX12_lengthOf_4 ?_
  refine Go_ild1 dX12_lengthOf_5 ?_
  refine Go_iadd dX12_lengthOf_6 ?_
  refine Go_iald dX12_lengthOf_7 (by first | assumption | rfl) trivial (by omega) (by omega) (by decide) ?_
  refine Go_ireturn dX12_lengthOf_8 rfl (by first | rfl | decide | exact nar_b | simp [narrow]) ?_
  refine kI ?_ k
  rw [show (4 + (p : Int)).toNat = 4 + p by omega]; exact e
theorem e_X12_siteOf (h : ST w 69 0 s) (hp : p < s.1.length) (hz : z = (k0 : Int)) (hk : k0 < (pth s.1 p).length) (k : K (vi ((pth s.1 p).getD k0 0)) none w) : Ev G yX12_siteOf cX12_siteOf 3 mX12_siteOf none 0 0 0 [vr 68, vi (p : Int), vi z] w K X := by
  have e := st_s h hp hk
  have h5 := h.1.1
  have l := (h.1.len hp).2
  refine Ev_intro mvX12_siteOf.1 rfl (fun h => by cases h) (allc1 rfl) (Nat.le_of_ble_eq_true rfl) (Or.inl rfl) ?_
  show Go G cX12_siteOf mX12_siteOf none 0 0 0 0 [some (vr 68), some (vi (p : Int)), some (vi z)] [] w K X
  refine Go_ald0 dX12_siteOf_0 ?_
  refine gf11_1 dX12_siteOf_1 flX12_7 ?_
  refine Go_bipush dX12_siteOf_4 (by decide +kernel) ?_
  refine Go_bipush dX12_siteOf_6 (by decide +kernel) ?_
  refine Go_ild1 dX12_siteOf_8 ?_
  refine Go_imul dX12_siteOf_9 ?_
  refine Go_iadd dX12_siteOf_10 ?_
  refine Go_ild2 dX12_siteOf_11 ?_
  refine Go_iadd dX12_siteOf_12 ?_
  refine Go_iald dX12_siteOf_13 (by first | assumption | rfl) trivial (by omega) (by omega) (by decide) ?_
  refine Go_ireturn dX12_siteOf_14 rfl (by first | rfl | decide | exact nar_b | simp [narrow]) ?_
  refine kI ?_ k
  rw [show (9 + 60 * (p : Int) + z).toNat = 9 + 60 * p + k0 by omega]; exact e
theorem e_X12_setSite {x : Int} (hp : p < 5) (hz : z = (k0 : Int)) (hk : k0 < 60) (k : K (vi 0) none (up w 69 (9 + 60 * p + k0) x)) : Ev G yX12_setSite cX12_setSite 4 mX12_setSite none 0 0 0 [vr 68, vi (p : Int), vi z, vi x] w K X := by
  refine Ev_intro mvX12_setSite.1 rfl (fun h => by cases h) (allc1 rfl) (Nat.le_of_ble_eq_true rfl) (Or.inl rfl) ?_
  show Go G cX12_setSite mX12_setSite none 0 0 0 0 [some (vr 68), some (vi (p : Int)), some (vi z), some (vi x)] [] w K X
  refine Go_ald0 dX12_setSite_0 ?_
  refine gf11_1 dX12_setSite_1 flX12_7 ?_
  refine Go_bipush dX12_setSite_4 (by decide +kernel) ?_
  refine Go_bipush dX12_setSite_6 (by decide +kernel) ?_
  refine Go_ild1 dX12_setSite_8 ?_
  refine Go_imul dX12_setSite_9 ?_
  refine Go_iadd dX12_setSite_10 ?_
  refine Go_ild2 dX12_setSite_11 ?_
  refine Go_iadd dX12_setSite_12 ?_
  refine Go_ild3 dX12_setSite_13 ?_
  refine Go_iast dX12_setSite_14 (by first | assumption | rfl) trivial (by omega) (by omega) (by decide) ?_
  refine Go_return dX12_setSite_15 rfl ?_
  rw [show (9 + 60 * (p : Int) + z).toNat = 9 + 60 * p + k0 by omega]
  exact k
theorem e_X12_isSite (h : ST w 69 0 s) (h1 : inR z1) (h2 : inR z2) (kt : ∀ p j : Nat, z1 = p → p < s.1.length → z2 = j → j < (pth s.1 p).length → K (vi 1) none w) (kf : (∀ p j : Nat, z1 = p → p < s.1.length → z2 = j → ¬ j < (pth s.1 p).length) → K (vi 0) none w) : Ev G yX12_isSite cX12_isSite 3 mX12_isSite none 2 0 0 [vr 68, vi z1, vi z2] w K X := by
  have h5 := h.1.1
  refine Ev_intro mvX12_isSite.1 rfl (fun h => by cases h) (allc1 rfl) (Nat.le_of_ble_eq_true rfl) (Or.inl rfl) ?_
  show Go G cX12_isSite mX12_isSite none 2 0 0 0 [some (vr 68), some (vi z1), some (vi z2)] [] w K X
  by_cases q : 0 ≤ z1 ∧ z1 < s.1.length
  · obtain ⟨p, rfl⟩ := Int.eq_ofNat_of_zero_le q.1
    have hp : p < s.1.length := by omega
    have l := h.1.len hp
    refine Go_ald0 dX12_isSite_0 ?_
    refine Go_ild1 dX12_isSite_1 ?_
    refine Go_cV1 (d' := 1) (bc' := 0) (bs' := 0) rfl dX12_isSite_2 mvX12_isPath rfl lkX12_66 (by first | assumption | rfl) rfl trivial (by decide) (by decide) (by decide) (Nat.le_of_ble_eq_true rfl) ?_
    refine e_X12_isPath h h1 ?_
    refine Go_ifb_eq (tgt := 27) dX12_isSite_5 (by decide)  (fun h5 => by exact absurd q h5) (fun h5 => ?_)
    refine Go_ild2 dX12_isSite_8 ?_
    refine Go_iconst dX12_isSite_9 ?_
    refine Go_ald0 dX12_isSite_10 ?_
    refine Go_ild1 dX12_isSite_11 ?_
    refine Go_cV1 (d' := 0) (bc' := 0) (bs' := 0) rfl dX12_isSite_12 mvX12_lengthOf rfl lkX12_70 (by first | assumption | rfl) rfl trivial (by decide) (by decide) (by decide) (Nat.le_of_ble_eq_true rfl) ?_
    refine e_X12_lengthOf h hp ?_
    refine Go_iconst dX12_isSite_15 ?_
    refine Go_isub dX12_isSite_16 ?_
    refine Go_cS3 (d' := 0) (bc' := 0) (bs' := 0) rfl dX12_isSite_17 msX12_within rfl lkX12_62 (by decide) (by decide) (by decide) (Nat.le_of_ble_eq_true rfl) ?_
    refine e_X12_within h2 (by constructor <;> omega) (by constructor <;> omega) ?_
    refine Go_ifb_eq (tgt := 27) dX12_isSite_20 (by decide)  (fun h20 => ?_) (fun h20 => ?_)
    · refine Go_iconst dX12_isSite_27 ?_
      refine Go_ireturn dX12_isSite_28 rfl (by first | rfl | decide | exact nar_b | simp [narrow]) ?_
      first | exact kt p z2.toNat rfl hp (by omega) (by omega) | exact kf (fun p' j e hp' e2 hj => by have e3 : p = p' := (by omega); subst e3; omega)
    · refine Go_iconst dX12_isSite_23 ?_
      refine Go_goto (tgt := 28) dX12_isSite_24 (by decide) ?_
      refine Go_ireturn dX12_isSite_28 rfl (by first | rfl | decide | exact nar_b | simp [narrow]) ?_
      first | exact kt p z2.toNat rfl hp (by omega) (by omega) | exact kf (fun p' j e hp' e2 hj => by have e3 : p = p' := (by omega); subst e3; omega)
  · skip
    refine Go_ald0 dX12_isSite_0 ?_
    refine Go_ild1 dX12_isSite_1 ?_
    refine Go_cV1 (d' := 1) (bc' := 0) (bs' := 0) rfl dX12_isSite_2 mvX12_isPath rfl lkX12_66 (by first | assumption | rfl) rfl trivial (by decide) (by decide) (by decide) (Nat.le_of_ble_eq_true rfl) ?_
    refine e_X12_isPath h h1 ?_
    refine Go_ifb_eq (tgt := 27) dX12_isSite_5 (by decide)  (fun h5 => ?_) (fun h5 => by exact absurd h5 q)
    refine Go_iconst dX12_isSite_27 ?_
    refine Go_ireturn dX12_isSite_28 rfl (by first | rfl | decide | exact nar_b | simp [narrow]) ?_
    exact kf (fun p j e hp _ _ => q (by omega))
theorem e_X12_headOf (h : ST w 69 0 s) (hp : p < s.1.length) (k : K (vi (hdL (pth s.1 p))) none w) : Ev G yX12_headOf cX12_headOf 2 mX12_headOf none 1 0 0 [vr 68, vi (p : Int)] w K X := by
  have l := h.1.len hp
  refine Ev_intro mvX12_headOf.1 rfl (fun h => by cases h) (allc1 rfl) (Nat.le_of_ble_eq_true rfl) (Or.inl rfl) ?_
  show Go G cX12_headOf mX12_headOf none 1 0 0 0 [some (vr 68), some (vi (p : Int))] [] w K X
  refine Go_ald0 dX12_headOf_0 ?_
  refine Go_ild1 dX12_headOf_1 ?_
  refine Go_ald0 dX12_headOf_2 ?_
  refine Go_ild1 dX12_headOf_3 ?_
  refine Go_cV1 (d' := 0) (bc' := 0) (bs' := 0) rfl dX12_headOf_4 mvX12_lengthOf rfl lkX12_70 (by first | assumption | rfl) rfl trivial (by decide) (by decide) (by decide) (Nat.le_of_ble_eq_true rfl) ?_
  refine e_X12_lengthOf h hp ?_
  refine Go_iconst dX12_headOf_7 ?_
  refine Go_isub dX12_headOf_8 ?_
  refine Go_cV2 (d' := 0) (bc' := 0) (bs' := 0) rfl dX12_headOf_9 mvX12_siteOf rfl lkX12_74 (by first | assumption | rfl) rfl trivial (by decide) (by decide) (by decide) (Nat.le_of_ble_eq_true rfl) ?_
  refine e_X12_siteOf (k0 := (pth s.1 p).length - 1) h hp (by omega) (by omega) ?_
  refine Go_ireturn dX12_headOf_12 rfl (by first | rfl | decide | exact nar_b | simp [narrow]) ?_
  exact k
theorem e_X12_next {a : Int} {d : Nat} (h0 : 0 ≤ a) (h1 : a < 100) (hd : d < 4) (k : K (vi (nbI a d)) none w) : Ev G yX12_next cX12_next 4 mX12_next none 1 0 0 [vi a, vi (d : Int)] w K X := by
  have e0 : nbI a ((0 : Nat) : Int) = numI (a % 10 + 0) (a / 10 + -1) := rfl
  have e1 : nbI a ((1 : Nat) : Int) = numI (a % 10 + 1) (a / 10 + 0) := rfl
  have e2 : nbI a ((2 : Nat) : Int) = numI (a % 10 + 0) (a / 10 + 1) := rfl
  have e3 : nbI a ((3 : Nat) : Int) = numI (a % 10 + -1) (a / 10 + 0) := rfl
  have c : d = 0 ∨ d = 1 ∨ d = 2 ∨ d = 3 := by omega
  refine Ev_intro msX12_next.1 rfl (fun h => by cases h) (allc1 rfl) (Nat.le_of_ble_eq_true rfl) (Or.inl rfl) ?_
  show Go G cX12_next mX12_next none 1 0 0 0 [some (vi a), some (vi (d : Int)), none, none] [] w K X
  rcases c with rfl | rfl | rfl | rfl
  · rw [e0] at k
    unfold numI at k
    refine Go_ild0 dX12_next_0 ?_
    refine Go_bipush dX12_next_1 (by decide +kernel) ?_
    refine Go_irem dX12_next_3 (by omega) (by omega) (by omega) (by omega) ?_
    refine Go_ild1 dX12_next_4 ?_
    refine Go_iconst dX12_next_5 ?_
    refine Go_icmp_ne (tgt := 13) dX12_next_6 (by decide) (by constructor <;> omega) (by constructor <;> omega) (fun h6 => ?_) (fun h6 => by omega)
    refine Go_ild1 dX12_next_13 ?_
    refine Go_iconst dX12_next_14 ?_
    refine Go_icmp_ne (tgt := 22) dX12_next_15 (by decide) (by constructor <;> omega) (by constructor <;> omega) (fun h15 => ?_) (fun h15 => by omega)
    refine Go_iconst dX12_next_22 ?_
    refine Go_iadd dX12_next_23 ?_
    refine Go_ist2 dX12_next_24 rfl ?_
    refine Go_ild0 dX12_next_25 ?_
    refine Go_bipush dX12_next_26 (by decide +kernel) ?_
    refine Go_idiv dX12_next_28 (by omega) (by omega) (by omega) (by omega) ?_
    refine Go_ild1 dX12_next_29 ?_
    refine Go_if_ne (tgt := 37) dX12_next_30 (by decide) (by constructor <;> omega) (fun h30 => by omega) (fun h30 => ?_)
    refine Go_iconst dX12_next_33 ?_
    refine Go_goto (tgt := 47) dX12_next_34 (by decide) ?_
    refine Go_iadd dX12_next_47 ?_
    refine Go_ist3 dX12_next_48 rfl ?_
    refine Go_ild2 dX12_next_49 ?_
    refine Go_iconst dX12_next_50 ?_
    refine Go_bipush dX12_next_51 (by decide +kernel) ?_
    refine Go_cS3 (d' := 0) (bc' := 0) (bs' := 0) rfl dX12_next_53 msX12_within rfl lkX12_62 (by decide) (by decide) (by decide) (Nat.le_of_ble_eq_true rfl) ?_
    refine e_X12_within (by constructor <;> omega) (by constructor <;> omega) (by constructor <;> omega) ?_
    refine Go_ifb_eq (tgt := 78) dX12_next_56 (by decide)  (fun h56 => ?_) (fun h56 => ?_)
    · refine Go_iconst dX12_next_78 ?_
      refine Go_ireturn dX12_next_79 rfl (by first | rfl | decide | exact nar_b | simp [narrow]) ?_
      first | (refine kI (Eq.symm (if_neg (by omega))) k) | (refine kI ?_ k; rw [if_pos (by omega)]; try omega)
    · refine Go_ild3 dX12_next_59 ?_
      refine Go_iconst dX12_next_60 ?_
      refine Go_bipush dX12_next_61 (by decide +kernel) ?_
      refine Go_cS3 (d' := 0) (bc' := 0) (bs' := 0) rfl dX12_next_63 msX12_within rfl lkX12_62 (by decide) (by decide) (by decide) (Nat.le_of_ble_eq_true rfl) ?_
      refine e_X12_within (by constructor <;> omega) (by constructor <;> omega) (by constructor <;> omega) ?_
      refine Go_ifb_eq (tgt := 78) dX12_next_66 (by decide)  (fun h66 => ?_) (fun h66 => ?_)
      · refine Go_iconst dX12_next_78 ?_
        refine Go_ireturn dX12_next_79 rfl (by first | rfl | decide | exact nar_b | simp [narrow]) ?_
        first | (refine kI (Eq.symm (if_neg (by omega))) k) | (refine kI ?_ k; rw [if_pos (by omega)]; try omega)
      · refine Go_bipush dX12_next_69 (by decide +kernel) ?_
        refine Go_ild3 dX12_next_71 ?_
        refine Go_imul dX12_next_72 ?_
        refine Go_ild2 dX12_next_73 ?_
        refine Go_iadd dX12_next_74 ?_
        refine Go_goto (tgt := 79) dX12_next_75 (by decide) ?_
        refine Go_ireturn dX12_next_79 rfl (by first | rfl | decide | exact nar_b | simp [narrow]) ?_
        first | (refine kI (Eq.symm (if_neg (by omega))) k) | (refine kI ?_ k; rw [if_pos (by omega)]; try omega)
  · rw [e1] at k
    unfold numI at k
    refine Go_ild0 dX12_next_0 ?_
    refine Go_bipush dX12_next_1 (by decide +kernel) ?_
    refine Go_irem dX12_next_3 (by omega) (by omega) (by omega) (by omega) ?_
    refine Go_ild1 dX12_next_4 ?_
    refine Go_iconst dX12_next_5 ?_
    refine Go_icmp_ne (tgt := 13) dX12_next_6 (by decide) (by constructor <;> omega) (by constructor <;> omega) (fun h6 => by omega) (fun h6 => ?_)
    refine Go_iconst dX12_next_9 ?_
    refine Go_goto (tgt := 23) dX12_next_10 (by decide) ?_
    refine Go_iadd dX12_next_23 ?_
    refine Go_ist2 dX12_next_24 rfl ?_
    refine Go_ild0 dX12_next_25 ?_
    refine Go_bipush dX12_next_26 (by decide +kernel) ?_
    refine Go_idiv dX12_next_28 (by omega) (by omega) (by omega) (by omega) ?_
    refine Go_ild1 dX12_next_29 ?_
    refine Go_if_ne (tgt := 37) dX12_next_30 (by decide) (by constructor <;> omega) (fun h30 => ?_) (fun h30 => by omega)
    refine Go_ild1 dX12_next_37 ?_
    refine Go_iconst dX12_next_38 ?_
    refine Go_icmp_ne (tgt := 46) dX12_next_39 (by decide) (by constructor <;> omega) (by constructor <;> omega) (fun h39 => ?_) (fun h39 => by omega)
    refine Go_iconst dX12_next_46 ?_
    refine Go_iadd dX12_next_47 ?_
    refine Go_ist3 dX12_next_48 rfl ?_
    refine Go_ild2 dX12_next_49 ?_
    refine Go_iconst dX12_next_50 ?_
    refine Go_bipush dX12_next_51 (by decide +kernel) ?_
    refine Go_cS3 (d' := 0) (bc' := 0) (bs' := 0) rfl dX12_next_53 msX12_within rfl lkX12_62 (by decide) (by decide) (by decide) (Nat.le_of_ble_eq_true rfl) ?_
    refine e_X12_within (by constructor <;> omega) (by constructor <;> omega) (by constructor <;> omega) ?_
    refine Go_ifb_eq (tgt := 78) dX12_next_56 (by decide)  (fun h56 => ?_) (fun h56 => ?_)
    · refine Go_iconst dX12_next_78 ?_
      refine Go_ireturn dX12_next_79 rfl (by first | rfl | decide | exact nar_b | simp [narrow]) ?_
      first | (refine kI (Eq.symm (if_neg (by omega))) k) | (refine kI ?_ k; rw [if_pos (by omega)]; try omega)
    · refine Go_ild3 dX12_next_59 ?_
      refine Go_iconst dX12_next_60 ?_
      refine Go_bipush dX12_next_61 (by decide +kernel) ?_
      refine Go_cS3 (d' := 0) (bc' := 0) (bs' := 0) rfl dX12_next_63 msX12_within rfl lkX12_62 (by decide) (by decide) (by decide) (Nat.le_of_ble_eq_true rfl) ?_
      refine e_X12_within (by constructor <;> omega) (by constructor <;> omega) (by constructor <;> omega) ?_
      refine Go_ifb_eq (tgt := 78) dX12_next_66 (by decide)  (fun h66 => ?_) (fun h66 => ?_)
      · refine Go_iconst dX12_next_78 ?_
        refine Go_ireturn dX12_next_79 rfl (by first | rfl | decide | exact nar_b | simp [narrow]) ?_
        first | (refine kI (Eq.symm (if_neg (by omega))) k) | (refine kI ?_ k; rw [if_pos (by omega)]; try omega)
      · refine Go_bipush dX12_next_69 (by decide +kernel) ?_
        refine Go_ild3 dX12_next_71 ?_
        refine Go_imul dX12_next_72 ?_
        refine Go_ild2 dX12_next_73 ?_
        refine Go_iadd dX12_next_74 ?_
        refine Go_goto (tgt := 79) dX12_next_75 (by decide) ?_
        refine Go_ireturn dX12_next_79 rfl (by first | rfl | decide | exact nar_b | simp [narrow]) ?_
        first | (refine kI (Eq.symm (if_neg (by omega))) k) | (refine kI ?_ k; rw [if_pos (by omega)]; try omega)
  · rw [e2] at k
    unfold numI at k
    refine Go_ild0 dX12_next_0 ?_
    refine Go_bipush dX12_next_1 (by decide +kernel) ?_
    refine Go_irem dX12_next_3 (by omega) (by omega) (by omega) (by omega) ?_
    refine Go_ild1 dX12_next_4 ?_
    refine Go_iconst dX12_next_5 ?_
    refine Go_icmp_ne (tgt := 13) dX12_next_6 (by decide) (by constructor <;> omega) (by constructor <;> omega) (fun h6 => ?_) (fun h6 => by omega)
    refine Go_ild1 dX12_next_13 ?_
    refine Go_iconst dX12_next_14 ?_
    refine Go_icmp_ne (tgt := 22) dX12_next_15 (by decide) (by constructor <;> omega) (by constructor <;> omega) (fun h15 => ?_) (fun h15 => by omega)
    refine Go_iconst dX12_next_22 ?_
    refine Go_iadd dX12_next_23 ?_
    refine Go_ist2 dX12_next_24 rfl ?_
    refine Go_ild0 dX12_next_25 ?_
    refine Go_bipush dX12_next_26 (by decide +kernel) ?_
    refine Go_idiv dX12_next_28 (by omega) (by omega) (by omega) (by omega) ?_
    refine Go_ild1 dX12_next_29 ?_
    refine Go_if_ne (tgt := 37) dX12_next_30 (by decide) (by constructor <;> omega) (fun h30 => ?_) (fun h30 => by omega)
    refine Go_ild1 dX12_next_37 ?_
    refine Go_iconst dX12_next_38 ?_
    refine Go_icmp_ne (tgt := 46) dX12_next_39 (by decide) (by constructor <;> omega) (by constructor <;> omega) (fun h39 => by omega) (fun h39 => ?_)
    refine Go_iconst dX12_next_42 ?_
    refine Go_goto (tgt := 47) dX12_next_43 (by decide) ?_
    refine Go_iadd dX12_next_47 ?_
    refine Go_ist3 dX12_next_48 rfl ?_
    refine Go_ild2 dX12_next_49 ?_
    refine Go_iconst dX12_next_50 ?_
    refine Go_bipush dX12_next_51 (by decide +kernel) ?_
    refine Go_cS3 (d' := 0) (bc' := 0) (bs' := 0) rfl dX12_next_53 msX12_within rfl lkX12_62 (by decide) (by decide) (by decide) (Nat.le_of_ble_eq_true rfl) ?_
    refine e_X12_within (by constructor <;> omega) (by constructor <;> omega) (by constructor <;> omega) ?_
    refine Go_ifb_eq (tgt := 78) dX12_next_56 (by decide)  (fun h56 => ?_) (fun h56 => ?_)
    · refine Go_iconst dX12_next_78 ?_
      refine Go_ireturn dX12_next_79 rfl (by first | rfl | decide | exact nar_b | simp [narrow]) ?_
      first | (refine kI (Eq.symm (if_neg (by omega))) k) | (refine kI ?_ k; rw [if_pos (by omega)]; try omega)
    · refine Go_ild3 dX12_next_59 ?_
      refine Go_iconst dX12_next_60 ?_
      refine Go_bipush dX12_next_61 (by decide +kernel) ?_
      refine Go_cS3 (d' := 0) (bc' := 0) (bs' := 0) rfl dX12_next_63 msX12_within rfl lkX12_62 (by decide) (by decide) (by decide) (Nat.le_of_ble_eq_true rfl) ?_
      refine e_X12_within (by constructor <;> omega) (by constructor <;> omega) (by constructor <;> omega) ?_
      refine Go_ifb_eq (tgt := 78) dX12_next_66 (by decide)  (fun h66 => ?_) (fun h66 => ?_)
      · refine Go_iconst dX12_next_78 ?_
        refine Go_ireturn dX12_next_79 rfl (by first | rfl | decide | exact nar_b | simp [narrow]) ?_
        first | (refine kI (Eq.symm (if_neg (by omega))) k) | (refine kI ?_ k; rw [if_pos (by omega)]; try omega)
      · refine Go_bipush dX12_next_69 (by decide +kernel) ?_
        refine Go_ild3 dX12_next_71 ?_
        refine Go_imul dX12_next_72 ?_
        refine Go_ild2 dX12_next_73 ?_
        refine Go_iadd dX12_next_74 ?_
        refine Go_goto (tgt := 79) dX12_next_75 (by decide) ?_
        refine Go_ireturn dX12_next_79 rfl (by first | rfl | decide | exact nar_b | simp [narrow]) ?_
        first | (refine kI (Eq.symm (if_neg (by omega))) k) | (refine kI ?_ k; rw [if_pos (by omega)]; try omega)
  · rw [e3] at k
    unfold numI at k
    refine Go_ild0 dX12_next_0 ?_
    refine Go_bipush dX12_next_1 (by decide +kernel) ?_
    refine Go_irem dX12_next_3 (by omega) (by omega) (by omega) (by omega) ?_
    refine Go_ild1 dX12_next_4 ?_
    refine Go_iconst dX12_next_5 ?_
    refine Go_icmp_ne (tgt := 13) dX12_next_6 (by decide) (by constructor <;> omega) (by constructor <;> omega) (fun h6 => ?_) (fun h6 => by omega)
    refine Go_ild1 dX12_next_13 ?_
    refine Go_iconst dX12_next_14 ?_
    refine Go_icmp_ne (tgt := 22) dX12_next_15 (by decide) (by constructor <;> omega) (by constructor <;> omega) (fun h15 => by omega) (fun h15 => ?_)
    refine Go_iconst dX12_next_18 ?_
    refine Go_goto (tgt := 23) dX12_next_19 (by decide) ?_
    refine Go_iadd dX12_next_23 ?_
    refine Go_ist2 dX12_next_24 rfl ?_
    refine Go_ild0 dX12_next_25 ?_
    refine Go_bipush dX12_next_26 (by decide +kernel) ?_
    refine Go_idiv dX12_next_28 (by omega) (by omega) (by omega) (by omega) ?_
    refine Go_ild1 dX12_next_29 ?_
    refine Go_if_ne (tgt := 37) dX12_next_30 (by decide) (by constructor <;> omega) (fun h30 => ?_) (fun h30 => by omega)
    refine Go_ild1 dX12_next_37 ?_
    refine Go_iconst dX12_next_38 ?_
    refine Go_icmp_ne (tgt := 46) dX12_next_39 (by decide) (by constructor <;> omega) (by constructor <;> omega) (fun h39 => ?_) (fun h39 => by omega)
    refine Go_iconst dX12_next_46 ?_
    refine Go_iadd dX12_next_47 ?_
    refine Go_ist3 dX12_next_48 rfl ?_
    refine Go_ild2 dX12_next_49 ?_
    refine Go_iconst dX12_next_50 ?_
    refine Go_bipush dX12_next_51 (by decide +kernel) ?_
    refine Go_cS3 (d' := 0) (bc' := 0) (bs' := 0) rfl dX12_next_53 msX12_within rfl lkX12_62 (by decide) (by decide) (by decide) (Nat.le_of_ble_eq_true rfl) ?_
    refine e_X12_within (by constructor <;> omega) (by constructor <;> omega) (by constructor <;> omega) ?_
    refine Go_ifb_eq (tgt := 78) dX12_next_56 (by decide)  (fun h56 => ?_) (fun h56 => ?_)
    · refine Go_iconst dX12_next_78 ?_
      refine Go_ireturn dX12_next_79 rfl (by first | rfl | decide | exact nar_b | simp [narrow]) ?_
      first | (refine kI (Eq.symm (if_neg (by omega))) k) | (refine kI ?_ k; rw [if_pos (by omega)]; try omega)
    · refine Go_ild3 dX12_next_59 ?_
      refine Go_iconst dX12_next_60 ?_
      refine Go_bipush dX12_next_61 (by decide +kernel) ?_
      refine Go_cS3 (d' := 0) (bc' := 0) (bs' := 0) rfl dX12_next_63 msX12_within rfl lkX12_62 (by decide) (by decide) (by decide) (Nat.le_of_ble_eq_true rfl) ?_
      refine e_X12_within (by constructor <;> omega) (by constructor <;> omega) (by constructor <;> omega) ?_
      refine Go_ifb_eq (tgt := 78) dX12_next_66 (by decide)  (fun h66 => ?_) (fun h66 => ?_)
      · refine Go_iconst dX12_next_78 ?_
        refine Go_ireturn dX12_next_79 rfl (by first | rfl | decide | exact nar_b | simp [narrow]) ?_
        first | (refine kI (Eq.symm (if_neg (by omega))) k) | (refine kI ?_ k; rw [if_pos (by omega)]; try omega)
      · refine Go_bipush dX12_next_69 (by decide +kernel) ?_
        refine Go_ild3 dX12_next_71 ?_
        refine Go_imul dX12_next_72 ?_
        refine Go_ild2 dX12_next_73 ?_
        refine Go_iadd dX12_next_74 ?_
        refine Go_goto (tgt := 79) dX12_next_75 (by decide) ?_
        refine Go_ireturn dX12_next_79 rfl (by first | rfl | decide | exact nar_b | simp [narrow]) ?_
        first | (refine kI (Eq.symm (if_neg (by omega))) k) | (refine kI ?_ k; rw [if_pos (by omega)]; try omega)
/-- the direction to a neighbour, -1 if it is none -/
def dmI (a b : Int) : Int := if nbI a 0 = b then 0 else if nbI a 1 = b then 1 else if nbI a 2 = b then 2 else if nbI a 3 = b then 3 else -1
theorem dmI_in (a b : Int) : -1 ≤ dmI a b ∧ dmI a b < 4 := by unfold dmI; repeat' split; all_goals omega
theorem dmI_nbr (a b : Nat) : dmI a b ≠ -1 ↔ nbr a b := by
  constructor
  · intro h
    unfold dmI at h
    by_cases c0 : nbI a 0 = b
    · exact ⟨0, by omega, c0⟩
    · by_cases c1 : nbI a 1 = b
      · exact ⟨1, by omega, c1⟩
      · by_cases c2 : nbI a 2 = b
        · exact ⟨2, by omega, c2⟩
        · by_cases c3 : nbI a 3 = b
          · exact ⟨3, by omega, c3⟩
          · rw [if_neg c0, if_neg c1, if_neg c2, if_neg c3] at h
            exact absurd rfl h
  · rintro ⟨d, hd, e⟩ h
    unfold dmI at h
    have c : d = 0 ∨ d = 1 ∨ d = 2 ∨ d = 3 := by omega
    have e' : nbI (a : Int) (d : Int) = b := e
    rcases c with rfl | rfl | rfl | rfl
    · rw [if_pos (show nbI (a : Int) 0 = b from e')] at h; omega
    · split at h
      · omega
      · rw [if_pos (show nbI (a : Int) 1 = b from e')] at h; omega
    · repeat' split at h
      all_goals first | omega | (rename_i q _; exact q (show nbI (a : Int) 2 = b from e'))
    · repeat' split at h
      all_goals first | omega | (rename_i q; exact q (show nbI (a : Int) 3 = b from e'))
theorem dmI_dir {a b : Nat} (h : nbr a b) : dmI a b = dirI a b := by
  have := (dmI_nbr a b).mpr h
  unfold dmI at this ⊢
  unfold dirI
  repeat' split at this
  all_goals first | rfl | omega | skip
theorem e_X12_direction {a b : Int} (h0 : 0 ≤ a) (h1 : a < 100) (hb : inR b) (k : K (vi (dmI a b)) none w) : Ev G yX12_direction cX12_direction 3 mX12_direction none 2 0 0 [vi a, vi b] w K X := by
  obtain ⟨b1, b2⟩ := id hb
  have n0 := nbI_in a ((0 : Nat) : Int)
  have n1 := nbI_in a ((1 : Nat) : Int)
  have n2 := nbI_in a ((2 : Nat) : Int)
  have n3 := nbI_in a ((3 : Nat) : Int)
  unfold dmI at k
  refine Ev_intro msX12_direction.1 rfl (fun h => by cases h) (allc1 rfl) (Nat.le_of_ble_eq_true rfl) (Or.inl rfl) ?_
  show Go G cX12_direction mX12_direction none 2 0 0 0 [some (vi a), some (vi b), none] [] w K X
  refine Go_iconst dX12_direction_0 ?_
  refine Go_ist2 dX12_direction_1 rfl ?_
  refine Go_upTo (n := 4) (L := fun i => [some (vi a), some (vi b), some (vi (i : Int))]) (P := fun i v => v = w ∧ ∀ j : Nat, j < i → nbI a j ≠ b) ((by repeat' (first | exact Or.inl rfl | exact Or.inr rfl | exact Or.inr (lcg (by omega)) | exact trivial | constructor))) ⟨rfl, fun j q => by omega⟩ (fun i v hi hP kn => ?_) (fun v hP => ?_)
  · try dsimp only at hP kn
    try dsimp only
    obtain ⟨rfl, hP⟩ := hP
    have n := nbI_in a (i : Int)
    refine Go_ild2 dX12_direction_2 ?_
    refine Go_iconst dX12_direction_3 ?_
    refine Go_icmp_ge (tgt := 24) dX12_direction_4 (by decide) (by constructor <;> omega) (by constructor <;> omega) (fun h4 => by omega) (fun h4 => ?_)
    refine Go_ild0 dX12_direction_7 ?_
    refine Go_ild2 dX12_direction_8 ?_
    refine Go_cS2 (d' := 1) (bc' := 0) (bs' := 0) rfl dX12_direction_9 msX12_next rfl lkX12_84 (by decide) (by decide) (by decide) (Nat.le_of_ble_eq_true rfl) ?_
    refine e_X12_next h0 h1 hi ?_
    refine Go_ild1 dX12_direction_12 ?_
    refine Go_icmp_ne (tgt := 18) dX12_direction_13 (by decide) (by constructor <;> omega) (by constructor <;> omega) (fun h13 => ?_) (fun h13 => ?_)
    · refine Go_inc2 dX12_direction_18 rfl ?_
      refine Go_goto (tgt := 2) dX12_direction_21 (by decide) ?_
      refine Go_forget (by repeat' (first | exact Or.inl rfl | exact Or.inr rfl | exact Or.inr (lcg (by omega)) | exact trivial | constructor)) (kn _ ⟨rfl, fun j q => ?_⟩)
      by_cases c : j = i
      · subst c; exact h13
      · exact hP j (by omega)
    · refine Go_ild2 dX12_direction_16 ?_
      refine Go_ireturn dX12_direction_17 rfl (by first | rfl | decide | exact nar_b | simp [narrow]) ?_
      refine kI ?_ k
      have c : i = 0 ∨ i = 1 ∨ i = 2 ∨ i = 3 := by omega
      rcases c with rfl | rfl | rfl | rfl
      · rw [if_pos (show nbI a 0 = b from h13)]; rfl
      · rw [if_neg (show ¬ nbI a 0 = b from hP 0 (by omega)), if_pos (show nbI a 1 = b from h13)]; rfl
      · rw [if_neg (show ¬ nbI a 0 = b from hP 0 (by omega)), if_neg (show ¬ nbI a 1 = b from hP 1 (by omega)), if_pos (show nbI a 2 = b from h13)]; rfl
      · rw [if_neg (show ¬ nbI a 0 = b from hP 0 (by omega)), if_neg (show ¬ nbI a 1 = b from hP 1 (by omega)), if_neg (show ¬ nbI a 2 = b from hP 2 (by omega)), if_pos (show nbI a 3 = b from h13)]; rfl
  · try dsimp only at hP
    try dsimp only
    obtain ⟨rfl, hP⟩ := hP
    refine Go_ild2 dX12_direction_2 ?_
    refine Go_iconst dX12_direction_3 ?_
    refine Go_icmp_ge (tgt := 24) dX12_direction_4 (by decide) (by constructor <;> omega) (by constructor <;> omega) (fun h4 => ?_) (fun h4 => by omega)
    refine Go_iconst dX12_direction_24 ?_
    refine Go_ireturn dX12_direction_25 rfl (by first | rfl | decide | exact nar_b | simp [narrow]) ?_
    refine kI ?_ k
    rw [if_neg (show ¬ nbI a 0 = b from hP 0 (by omega)), if_neg (show ¬ nbI a 1 = b from hP 1 (by omega)), if_neg (show ¬ nbI a 2 = b from hP 2 (by omega)), if_neg (show ¬ nbI a 3 = b from hP 3 (by omega))]
end Model1
