/-- a path's record; all of them; the row -/
def PR (w : Wd) (q : Nat) (l : List Nat) : Prop := w 69 (4 + q) = (l.length : Int) ∧ l.length ≤ 60 ∧ ∀ k, k < l.length → w 69 (9 + 60 * q + k) = (l.getD k 0 : Int)
def RC (w : Wd) (n : Nat) (P : Nat → List Nat) : Prop := w 69 0 = (n : Int) ∧ n ≤ 5 ∧ ∀ q, q < n → PR w q (P q)
def RW (w : Wd) (l : List Nat) : Prop := w 68 14 = (l.length : Int) ∧ l.length ≤ 60 ∧ ∀ j, j < l.length → w 78 j = (l.getD j 0 : Int)
theorem ST.rc {w : Wd} {s : Sta} (h : ST w 69 0 s) : RC w s.1.length (pth s.1) := ⟨st_n h, h.1.1, fun q hq => ⟨st_l h hq, (h.1.len hq).2, fun k hk => st_s h hq hk⟩⟩
theorem RC.st {w : Wd} {n : Nat} {P : Nat → List Nat} {s : Sta} (h : RC w n P) (ho : OKp s.1) (hn : s.1.length = n) (hp : ∀ q, q < n → pth s.1 q = P q) (h1 : w 69 1 = s.2.1) (h2 : w 69 2 = s.2.2.1) (h3 : w 69 3 = s.2.2.2) : ST w 69 0 s :=
  st_mk ho (by rw [hn]; exact h.1) h1 h2 h3 (fun p q => by rw [hp p (by omega)]; exact (h.2.2 p (by omega)).1) (fun p k q hk => by rw [hp p (by omega)] at hk ⊢; exact (h.2.2 p (by omega)).2.2 k hk)
theorem PR.frm {w w' : Wd} {q : Nat} {l : List Nat} {A : List Nat} (h : PR w q l) (f : frm w w' A) (hA : 69 ∉ A) : PR w' q l := ⟨by rw [f.at hA]; exact h.1, h.2.1, fun k hk => by rw [f.at hA]; exact h.2.2 k hk⟩
theorem RC.frm {w w' : Wd} {n : Nat} {P : Nat → List Nat} {A : List Nat} (h : RC w n P) (f : frm w w' A) (hA : 69 ∉ A) : RC w' n P := ⟨by rw [f.at hA]; exact h.1, h.2.1, fun q hq => (h.2.2 q hq).frm f hA⟩
theorem RW.frm {w w' : Wd} {l : List Nat} {A : List Nat} (h : RW w l) (f : frm w w' A) (hA : 78 ∉ A) (h14 : w' 68 14 = w 68 14) : RW w' l := ⟨by rw [h14]; exact h.1, h.2.1, fun j hj => by rw [f.at hA]; exact h.2.2 j hj⟩
/-- a record stays where another place is written -/
theorem PR.keep {w : Wd} {q i : Nat} {z : Int} {l : List Nat} (h : PR w q l) (h1 : i ≠ 4 + q) (h2 : i < 9 + 60 * q ∨ 9 + 60 * q + l.length ≤ i) : PR (up w 69 i z) q l := ⟨by rw [up_k (by omega)]; exact h.1, h.2.1, fun k hk => by rw [up_k (by omega)]; exact h.2.2 k hk⟩
section Model2
variable {G : Gm} {w : Wd} {K : Kt} {X : Xt} {s : Sta} {sv : List Sta} {g : Nat → Option Sta} {tx : List Nat} {z z1 z2 z3 : Int} {p q k0 n : Nat} {l : List Nat} {P : Nat → List Nat}
theorem e_X12_lengthOfR {x : Int} (hp : p < 5) (e : w 69 (4 + p) = x) (k : K (vi x) none w) : Ev G yX12_lengthOf cX12_lengthOf 2 mX12_lengthOf none 0 0 0 [vr 68, vi (p : Int)] w K X := by
  refine Ev_intro mvX12_lengthOf.1 rfl (fun h => by cases h) (allc1 rfl) (Nat.le_of_ble_eq_true rfl) (Or.inl rfl) ?_
  show Go G cX12_lengthOf mX12_lengthOf none 0 0 0 0 [some (vr 68), some (vi (p : Int))] [] w K X
  refine Go_ald0 dX12_lengthOf_0 ?_
  refine gf11_1 dX12_lengthOf_1 flX12_7 ?_
  refine Go_iconst dX12_lengthOf_4 ?_
  refine Go_ild1 dX12_lengthOf_5 ?_
  refine Go_iadd dX12_lengthOf_6 ?_
  refine Go_iald dX12_lengthOf_7 (by first | assumption | rfl) trivial (by omega) (by omega) (by decide) ?_
  refine Go_ireturn dX12_lengthOf_8 rfl (by first | rfl | decide | exact nar_b | simp [narrow]) ?_
  refine kI ?_ k
  rw [show (4 + (p : Int)).toNat = 4 + p by omega]; exact e
theorem e_X12_siteOfR {x : Int} (hp : p < 5) (hz : z = (k0 : Int)) (hk : k0 < 60) (e : w 69 (9 + 60 * p + k0) = x) (k : K (vi x) none w) : Ev G yX12_siteOf cX12_siteOf 3 mX12_siteOf none 0 0 0 [vr 68, vi (p : Int), vi z] w K X := by
  refine Ev_intro mvX12_siteOf.1 rfl (fun h => by cases h) (allc1 rfl) (Nat.le_of_ble_eq_true rfl) (Or.inl rfl) ?_
  show Go G cX12_siteOf mX12_siteOf none 0 0 0 0 [some (vr 68), some (vi (p : Int)), some (vi z)] [] w K X
  refine Go_ald0 dX12_siteOf_0 ?_
  refine gf11_1 dX12_siteOf_1 flX12_7 ?_
  refine Go_bipush dX12_siteOf_4 (by decide +kernel) ?_
  refine Go_bipush dX12_siteOf_6 (by decide +kernel) ?_
  refine Go_ild1 dX12_siteOf_8 ?_
  refine Go_imul dX12_siteOf_9 ?_
  refine Go_iadd dX12_siteOf_10 ?_
  refine Go_ild2 dX12_siteOf_11 ?_
  refine Go_iadd dX12_siteOf_12 ?_
  refine Go_iald dX12_siteOf_13 (by first | assumption | rfl) trivial (by omega) (by omega) (by decide) ?_
  refine Go_ireturn dX12_siteOf_14 rfl (by first | rfl | decide | exact nar_b | simp [narrow]) ?_
  refine kI ?_ k
  rw [show (9 + 60 * (p : Int) + z).toNat = 9 + 60 * p + k0 by omega]; exact e
theorem e_X12_takeRow (hp : p < 5) (h : PR w p l) (k : ∀ w', RW w' l → frm w w' [68, 78] → (∀ j, j ≠ 14 → w' 68 j = w 68 j) → K (vi 0) none w') : Ev G yX12_takeRow cX12_takeRow 3 mX12_takeRow none 1 0 0 [vr 68, vi (p : Int)] w K X := by
  have l60 := h.2.1
  refine Ev_intro mvX12_takeRow.1 rfl (fun h => by cases h) (allc1 rfl) (Nat.le_of_ble_eq_true rfl) (Or.inl rfl) ?_
  show Go G cX12_takeRow mX12_takeRow none 1 0 0 0 [some (vr 68), some (vi (p : Int)), none] [] w K X
  refine Go_ald0 dX12_takeRow_0 ?_
  refine Go_ald0 dX12_takeRow_1 ?_
  refine Go_ild1 dX12_takeRow_2 ?_
  refine Go_cV1 (d' := 0) (bc' := 0) (bs' := 0) rfl dX12_takeRow_3 mvX12_lengthOf rfl lkX12_70 (by first | assumption | rfl) rfl trivial (by decide) (by decide) (by decide) (Nat.le_of_ble_eq_true rfl) ?_
  refine e_X12_lengthOfR hp h.1 ?_
  refine pf11_14 dX12_takeRow_6 flX12_101 (by first | assumption | rfl) ?_
  refine Go_iconst dX12_takeRow_9 ?_
  refine Go_ist2 dX12_takeRow_10 rfl ?_
  refine Go_upTo (n := l.length) (L := fun i => [some (vr 68), some (vi (p : Int)), some (vi (i : Int))]) (P := fun i v => v 68 14 = (l.length : Int) ∧ frm w v [68, 78] ∧ (∀ j, j ≠ 14 → v 68 j = w 68 j) ∧ ∀ j, j < i → v 78 j = (l.getD j 0 : Int)) (by repeat' (first | exact Or.inl rfl | exact Or.inr rfl | exact Or.inr (lcg (by omega)) | exact trivial | constructor)) (⟨up_s, frm.rfl.up (by simp), fun j hj => up_k hj, fun j hj => by omega⟩) (fun i v hi hP kn => ?_) (fun v hP => ?_)
  · try dsimp only at hP kn
    try dsimp only
    obtain ⟨a1, f1, a2, a3⟩ := hP
    have e := (h.frm f1 (by decide)).2.2 i hi
    refine Go_ild2 dX12_takeRow_11 ?_
    refine Go_ald0 dX12_takeRow_12 ?_
    refine gf11_14 dX12_takeRow_13 flX12_101 (by first | assumption | rfl) ?_
    refine Go_icmp_ge (tgt := 37) dX12_takeRow_16 (by decide) (by constructor <;> omega) (by constructor <;> omega) (fun h16 => by omega) (fun h16 => ?_)
    refine Go_ald0 dX12_takeRow_19 ?_
    refine gf11_13 dX12_takeRow_20 flX12_37 ?_
    refine Go_ild2 dX12_takeRow_23 ?_
    refine Go_ald0 dX12_takeRow_24 ?_
    refine Go_ild1 dX12_takeRow_25 ?_
    refine Go_ild2 dX12_takeRow_26 ?_
    refine Go_cV2 (d' := 0) (bc' := 0) (bs' := 0) rfl dX12_takeRow_27 mvX12_siteOf rfl lkX12_74 (by first | assumption | rfl) rfl trivial (by decide) (by decide) (by decide) (Nat.le_of_ble_eq_true rfl) ?_
    refine e_X12_siteOfR (k0 := i) hp rfl (by omega) e ?_
    refine Go_iast dX12_takeRow_30 (by first | assumption | rfl) trivial (by omega) (by omega) (by decide) ?_
    refine Go_inc2 dX12_takeRow_31 rfl ?_
    refine Go_goto (tgt := 11) dX12_takeRow_34 (by decide) ?_
    rw [Int.toNat_natCast]
    refine Go_forget (by repeat' (first | exact Or.inl rfl | exact Or.inr rfl | exact Or.inr (lcg (by omega)) | exact trivial | constructor)) (kn _ ⟨by rw [up_a (by decide)]; exact a1, f1.up (by simp), fun j hj => by rw [up_a (by decide)]; exact a2 j hj, fun j hj => ?_⟩)
    by_cases c : j = i
    · subst c; rw [up_s]
    · rw [up_k c]; exact a3 j (by omega)
  · try dsimp only at hP
    try dsimp only
    obtain ⟨a1, f1, a2, a3⟩ := hP
    refine Go_ild2 dX12_takeRow_11 ?_
    refine Go_ald0 dX12_takeRow_12 ?_
    refine gf11_14 dX12_takeRow_13 flX12_101 (by first | assumption | rfl) ?_
    refine Go_icmp_ge (tgt := 37) dX12_takeRow_16 (by decide) (by constructor <;> omega) (by constructor <;> omega) (fun h16 => ?_) (fun h16 => by omega)
    refine Go_return dX12_takeRow_37 rfl ?_
    exact k _ ⟨a1, l60, a3⟩ f1 a2
theorem e_X12_giveRow (hp : p < 5) (h : RW w l) (k : ∀ w', PR w' p l → frm w w' [69] → (∀ i, i ≠ 4 + p → (i < 9 + 60 * p ∨ 9 + 60 * p + 60 ≤ i) → w' 69 i = w 69 i) → K (vi 0) none w') : Ev G yX12_giveRow cX12_giveRow 3 mX12_giveRow none 1 0 0 [vr 68, vi (p : Int)] w K X := by
  have l60 := h.2.1
  refine Ev_intro mvX12_giveRow.1 rfl (fun h => by cases h) (allc1 rfl) (Nat.le_of_ble_eq_true rfl) (Or.inl rfl) ?_
  show Go G cX12_giveRow mX12_giveRow none 1 0 0 0 [some (vr 68), some (vi (p : Int)), none] [] w K X
  refine Go_iconst dX12_giveRow_0 ?_
  refine Go_ist2 dX12_giveRow_1 rfl ?_
  refine Go_upTo (n := 60) (L := fun i => [some (vr 68), some (vi (p : Int)), some (vi (i : Int))]) (P := fun i v => frm w v [69] ∧ (∀ j, (j < 9 + 60 * p ∨ 9 + 60 * p + 60 ≤ j) → v 69 j = w 69 j) ∧ ∀ j, j < i → j < l.length → v 69 (9 + 60 * p + j) = (l.getD j 0 : Int)) (by repeat' (first | exact Or.inl rfl | exact Or.inr rfl | exact Or.inr (lcg (by omega)) | exact trivial | constructor)) (⟨frm.rfl, fun j hj => rfl, fun j hj => by omega⟩) (fun i v hi hP kn => ?_) (fun v hP => ?_)
  · try dsimp only at hP kn
    try dsimp only
    obtain ⟨f1, a2, a3⟩ := hP
    have r := h.frm f1 (by decide) (f1.at (by decide) 14)
    have e := r.1
    have nx : ∀ z : Int, (i < l.length → z = (l.getD i 0 : Int)) → frm w (up v 69 (9 + 60 * p + i) z) [69] ∧ (∀ j, (j < 9 + 60 * p ∨ 9 + 60 * p + 60 ≤ j) → up v 69 (9 + 60 * p + i) z 69 j = w 69 j) ∧ ∀ j, j < i + 1 → j < l.length → up v 69 (9 + 60 * p + i) z 69 (9 + 60 * p + j) = (l.getD j 0 : Int) := fun z hz => by
      refine ⟨f1.up (by simp), fun j hj => by rw [up_k (by omega)]; exact a2 j hj, fun j hj hl => ?_⟩
      by_cases c : j = i
      · subst c; rw [up_s]; exact hz hl
      · rw [up_k (by omega)]; exact a3 j (by omega) hl
    refine Go_ild2 dX12_giveRow_2 ?_
    refine Go_bipush dX12_giveRow_3 (by decide +kernel) ?_
    refine Go_icmp_ge (tgt := 38) dX12_giveRow_5 (by decide) (by constructor <;> omega) (by constructor <;> omega) (fun h5 => by omega) (fun h5 => ?_)
    refine Go_ald0 dX12_giveRow_8 ?_
    refine Go_ild1 dX12_giveRow_9 ?_
    refine Go_ild2 dX12_giveRow_10 ?_
    refine Go_ild2 dX12_giveRow_11 ?_
    refine Go_ald0 dX12_giveRow_12 ?_
    refine gf11_14 dX12_giveRow_13 flX12_101 (by first | assumption | rfl) ?_
    refine Go_icmp_ge (tgt := 28) dX12_giveRow_16 (by decide) (by constructor <;> omega) (by constructor <;> omega) (fun h16 => ?_) (fun h16 => ?_)
    · refine Go_iconst dX12_giveRow_28 ?_
      refine Go_cVv3 (d' := 0) (bc' := 0) (bs' := 0) rfl dX12_giveRow_29 mvX12_setSite rfl lkX12_104 (by first | assumption | rfl) rfl trivial (by decide) (by decide) (by decide) (Nat.le_of_ble_eq_true rfl) ?_
      refine e_X12_setSite (k0 := i) hp rfl hi ?_
      refine Go_inc2 dX12_giveRow_32 rfl ?_
      refine Go_goto (tgt := 2) dX12_giveRow_35 (by decide) ?_
      refine Go_forget (by repeat' (first | exact Or.inl rfl | exact Or.inr rfl | exact Or.inr (lcg (by omega)) | exact trivial | constructor)) (kn _ (nx _ (fun hl => ?_)))
      first | (rw [Int.toNat_natCast]; exact r.2.2 i hl) | omega
    · refine Go_ald0 dX12_giveRow_19 ?_
      refine gf11_13 dX12_giveRow_20 flX12_37 ?_
      refine Go_ild2 dX12_giveRow_23 ?_
      refine Go_iald dX12_giveRow_24 (by first | assumption | rfl) trivial (by omega) (by omega) (by decide) ?_
      refine Go_goto (tgt := 29) dX12_giveRow_25 (by decide) ?_
      refine Go_cVv3 (d' := 0) (bc' := 0) (bs' := 0) rfl dX12_giveRow_29 mvX12_setSite rfl lkX12_104 (by first | assumption | rfl) rfl trivial (by decide) (by decide) (by decide) (Nat.le_of_ble_eq_true rfl) ?_
      refine e_X12_setSite (k0 := i) hp rfl hi ?_
      refine Go_inc2 dX12_giveRow_32 rfl ?_
      refine Go_goto (tgt := 2) dX12_giveRow_35 (by decide) ?_
      refine Go_forget (by repeat' (first | exact Or.inl rfl | exact Or.inr rfl | exact Or.inr (lcg (by omega)) | exact trivial | constructor)) (kn _ (nx _ (fun hl => ?_)))
      first | (rw [Int.toNat_natCast]; exact r.2.2 i hl) | omega
  · try dsimp only at hP
    try dsimp only
    obtain ⟨f1, a2, a3⟩ := hP
    have r := h.frm f1 (by decide) (f1.at (by decide) 14)
    have e := r.1
    refine Go_ild2 dX12_giveRow_2 ?_
    refine Go_bipush dX12_giveRow_3 (by decide +kernel) ?_
    refine Go_icmp_ge (tgt := 38) dX12_giveRow_5 (by decide) (by constructor <;> omega) (by constructor <;> omega) (fun h5 => ?_) (fun h5 => by omega)
    refine Go_ald0 dX12_giveRow_38 ?_
    refine gf11_1 dX12_giveRow_39 flX12_7 ?_
    refine Go_iconst dX12_giveRow_42 ?_
    refine Go_ild1 dX12_giveRow_43 ?_
    refine Go_iadd dX12_giveRow_44 ?_
    refine Go_ald0 dX12_giveRow_45 ?_
    refine gf11_14 dX12_giveRow_46 flX12_101 (by first | assumption | rfl) ?_
    refine Go_iast dX12_giveRow_49 (by first | assumption | rfl) trivial (by omega) (by omega) (by decide) ?_
    refine Go_return dX12_giveRow_50 rfl ?_
    rw [show (4 + (p : Int)).toNat = 4 + p by omega, e]
    refine k _ ⟨up_s, l60, fun k hk => by rw [up_k (by omega)]; exact a3 k (by omega) hk⟩ (f1.up (by simp)) (fun i h1 h2 => by rw [up_k h1]; exact a2 i h2)
theorem e_X12_dropPath (h : RC w n P) (hp : p < n) (k : ∀ w', RC w' (n - 1) (fun q => if q < p then P q else P (q + 1)) → frm w w' [68, 69, 78] → (∀ j, j ≠ 14 → w' 68 j = w 68 j) → (∀ j, 1 ≤ j → j < 4 → w' 69 j = w 69 j) → K (vi 0) none w') : Ev G yX12_dropPath cX12_dropPath 3 mX12_dropPath none 2 0 0 [vr 68, vi (p : Int)] w K X := by
  obtain ⟨h0, h5, hq⟩ := h
  refine Ev_intro mvX12_dropPath.1 rfl (fun h => by cases h) (allc1 rfl) (Nat.le_of_ble_eq_true rfl) (Or.inl rfl) ?_
  show Go G cX12_dropPath mX12_dropPath none 2 0 0 0 [some (vr 68), some (vi (p : Int)), none] [] w K X
  refine Go_ald0 dX12_dropPath_0 ?_
  refine gf11_1 dX12_dropPath_1 flX12_7 ?_
  refine Go_iconst dX12_dropPath_4 ?_
  refine Go_dup2 dX12_dropPath_5 ?_
  refine Go_iald dX12_dropPath_6 (by first | assumption | rfl) trivial (by omega) (by omega) (by decide) ?_
  refine Go_iconst dX12_dropPath_7 ?_
  refine Go_isub dX12_dropPath_8 ?_
  rw [show (0 : Int).toNat = 0 from rfl, h0]
  refine Go_iast dX12_dropPath_9 (by first | assumption | rfl) trivial (by omega) (by omega) (by decide) ?_
  refine Go_ild1 dX12_dropPath_10 ?_
  refine Go_ist2 dX12_dropPath_11 rfl ?_
  have q0 : ∀ q, q < n → PR (up w 69 0 ((n : Int) - 1)) q (if q < p then P q else if q < p + 0 then P (q + 1) else P q) := fun q hn => by
    rw [show (if q < p then P q else if q < p + 0 then P (q + 1) else P q) = P q by split; rfl; rw [if_neg (by omega)]]
    exact (hq q hn).keep (by omega) (by omega)
  refine Go_upTo (n := n - 1 - p) (L := fun i => [some (vr 68), some (vi (p : Int)), some (vi ((p : Int) + i))]) (P := fun i v => v 69 0 = (n : Int) - 1 ∧ frm w v [68, 69, 78] ∧ (∀ j, j ≠ 14 → v 68 j = w 68 j) ∧ (∀ j, 1 ≤ j → j < 4 → v 69 j = w 69 j) ∧ ∀ q, q < n → PR v q (if q < p then P q else if q < p + i then P (q + 1) else P q)) (by repeat' (first | exact Or.inl rfl | exact Or.inr rfl | exact Or.inr (lcg (by omega)) | exact trivial | constructor)) (⟨up_s, frm.rfl.up (by simp), fun j hj => up_a (by decide), fun j h1 h2 => up_k (by omega), q0⟩) (fun i v hi hP kn => ?_) (fun v hP => ?_)
  · try dsimp only at hP kn
    try dsimp only
    obtain ⟨a1, f1, a2, a3, a4⟩ := hP
    have r := a4 (p + i + 1) (by omega)
    rw [if_neg (by omega), if_neg (by omega)] at r
    refine Go_ild2 dX12_dropPath_12 ?_
    refine Go_ald0 dX12_dropPath_13 ?_
    refine gf11_1 dX12_dropPath_14 flX12_7 ?_
    refine Go_iconst dX12_dropPath_17 ?_
    refine Go_iald dX12_dropPath_18 (by first | assumption | rfl) trivial (by omega) (by omega) (by decide) ?_
    rw [show (0 : Int).toNat = 0 from rfl]
    refine Go_icmp_ge (tgt := 40) dX12_dropPath_19 (by decide) (by constructor <;> omega) (by constructor <;> omega) (fun h19 => by omega) (fun h19 => ?_)
    refine Go_ald0 dX12_dropPath_22 ?_
    refine Go_ild2 dX12_dropPath_23 ?_
    refine Go_iconst dX12_dropPath_24 ?_
    refine Go_iadd dX12_dropPath_25 ?_
    rw [show (p : Int) + (i : Int) + 1 = ((p + i + 1 : Nat) : Int) by omega]
    refine Go_cVv1 (d' := 1) (bc' := 0) (bs' := 0) rfl dX12_dropPath_26 mvX12_takeRow rfl lkX12_108 (by first | assumption | rfl) rfl trivial (by decide) (by decide) (by decide) (Nat.le_of_ble_eq_true rfl) ?_
    refine e_X12_takeRow (by omega) r (fun w2 r2 f2 g2 => ?_)
    refine Go_ald0 dX12_dropPath_29 ?_
    refine Go_ild2 dX12_dropPath_30 ?_
    rw [show (p : Int) + (i : Int) = ((p + i : Nat) : Int) by omega]
    refine Go_cVv1 (d' := 1) (bc' := 0) (bs' := 0) rfl dX12_dropPath_31 mvX12_giveRow rfl lkX12_111 (by first | assumption | rfl) rfl trivial (by decide) (by decide) (by decide) (Nat.le_of_ble_eq_true rfl) ?_
    refine e_X12_giveRow (by omega) r2 (fun w3 r3 f3 g3 => ?_)
    refine Go_inc2 dX12_dropPath_34 rfl ?_
    refine Go_goto (tgt := 12) dX12_dropPath_37 (by decide) ?_
    rw [show ((p + i : Nat) : Int) = (p : Int) + (i : Int) by omega]
    refine Go_forget (ls' := _) ?_ (kn _ ⟨by rw [g3 0 (by omega) (by omega), f2.at (by decide)]; exact a1, (f1.trans f2 (by decide)).trans f3 (by decide), fun j hj => by rw [f3.at (by decide), g2 j hj]; exact a2 j hj, fun j h1 h2 => by rw [g3 j (by omega) (by omega), f2.at (by decide)]; exact a3 j h1 h2, fun q hn => ?_⟩)
    · exact (by repeat' (first | exact Or.inl rfl | exact Or.inr rfl | exact Or.inr (lcg (by omega)) | exact trivial | constructor))
    · by_cases c : q = p + i
      · subst c; rw [if_neg (by omega), if_pos (by omega)]; exact r3
      · have o := (a4 q hn).frm f2 (by decide)
        have e : (if q < p then P q else if q < p + (i + 1) then P (q + 1) else P q) = (if q < p then P q else if q < p + i then P (q + 1) else P q) := by
          by_cases c1 : q < p
          · rw [if_pos c1, if_pos c1]
          · rw [if_neg c1, if_neg c1]
            by_cases c2 : q < p + i
            · rw [if_pos c2, if_pos (by omega)]
            · rw [if_neg c2, if_neg (by omega)]
        rw [e]
        have o60 := o.2.1
        exact ⟨by rw [g3 (4 + q) (by omega) (by omega)]; exact o.1, o.2.1, fun k hk => by rw [g3 (9 + 60 * q + k) (by omega) (by omega)]; exact o.2.2 k hk⟩
  · try dsimp only at hP
    try dsimp only
    obtain ⟨a1, f1, a2, a3, a4⟩ := hP
    refine Go_ild2 dX12_dropPath_12 ?_
    refine Go_ald0 dX12_dropPath_13 ?_
    refine gf11_1 dX12_dropPath_14 flX12_7 ?_
    refine Go_iconst dX12_dropPath_17 ?_
    refine Go_iald dX12_dropPath_18 (by first | assumption | rfl) trivial (by omega) (by omega) (by decide) ?_
    rw [show (0 : Int).toNat = 0 from rfl]
    refine Go_icmp_ge (tgt := 40) dX12_dropPath_19 (by decide) (by constructor <;> omega) (by constructor <;> omega) (fun h19 => ?_) (fun h19 => by omega)
    refine Go_ald0 dX12_dropPath_40 ?_
    refine gf11_1 dX12_dropPath_41 flX12_7 ?_
    refine Go_iconst dX12_dropPath_44 ?_
    refine Go_ald0 dX12_dropPath_45 ?_
    refine gf11_1 dX12_dropPath_46 flX12_7 ?_
    refine Go_iconst dX12_dropPath_49 ?_
    refine Go_iald dX12_dropPath_50 (by first | assumption | rfl) trivial (by omega) (by omega) (by decide) ?_
    rw [show (0 : Int).toNat = 0 from rfl, a1]
    refine Go_iadd dX12_dropPath_51 ?_
    refine Go_iconst dX12_dropPath_52 ?_
    refine Go_iast dX12_dropPath_53 (by first | assumption | rfl) trivial (by omega) (by omega) (by decide) ?_
    refine Go_return dX12_dropPath_54 rfl ?_
    rw [show (4 + ((n : Int) - 1)).toNat = 4 + (n - 1) by omega]
    refine k _ ⟨by rw [up_k (by omega), a1]; omega, by omega, fun q hn => ?_⟩ (f1.up (by simp)) (fun j hj => by rw [up_a (by decide)]; exact a2 j hj) (fun j h1 h2 => by rw [up_k (by omega)]; exact a3 j h1 h2)
    have o := a4 q (by omega)
    have e : (if q < p then P q else if q < p + (n - 1 - p) then P (q + 1) else P q) = (if q < p then P q else P (q + 1)) := by
      by_cases c1 : q < p
      · rw [if_pos c1, if_pos c1]
      · rw [if_neg c1, if_neg c1, if_pos (by omega)]
    rw [e] at o
    have o60 := o.2.1
    exact o.keep (by omega) (by omega)
theorem e_X12_addPath (h : RC w n P) (hn : n < 5) (hr : RW w l) (k : ∀ w', RC w' (n + 1) (fun q => if q = n then l else P q) → frm w w' [69] → (∀ j, 1 ≤ j → j < 4 → w' 69 j = w 69 j) → K (vi n) none w') : Ev G yX12_addPath cX12_addPath 3 mX12_addPath none 1 0 0 [vr 68] w K X := by
  obtain ⟨h0, h5, hq⟩ := h
  have l60 := hr.2.1
  refine Ev_intro mvX12_addPath.1 rfl (fun h => by cases h) (allc1 rfl) (Nat.le_of_ble_eq_true rfl) (Or.inl rfl) ?_
  show Go G cX12_addPath mX12_addPath none 1 0 0 0 [some (vr 68), none, none] [] w K X
  refine Go_ald0 dX12_addPath_0 ?_
  refine gf11_1 dX12_addPath_1 flX12_7 ?_
  refine Go_iconst dX12_addPath_4 ?_
  refine Go_iald dX12_addPath_5 (by first | assumption | rfl) trivial (by omega) (by omega) (by decide) ?_
  rw [show (0 : Int).toNat = 0 from rfl, h0]
  refine Go_ist1 dX12_addPath_6 rfl ?_
  refine Go_iconst dX12_addPath_7 ?_
  refine Go_ist2 dX12_addPath_8 rfl ?_
  refine Go_upTo (n := l.length) (L := fun i => [some (vr 68), some (vi (n : Int)), some (vi (i : Int))]) (P := fun i v => frm w v [69] ∧ (∀ j, j < 9 + 60 * n → v 69 j = w 69 j) ∧ ∀ j, j < i → v 69 (9 + 60 * n + j) = (l.getD j 0 : Int)) (by repeat' (first | exact Or.inl rfl | exact Or.inr rfl | exact Or.inr (lcg (by omega)) | exact trivial | constructor)) (⟨frm.rfl, fun j hj => rfl, fun j hj => by omega⟩) (fun i v hi hP kn => ?_) (fun v hP => ?_)
  · try dsimp only at hP kn
    try dsimp only
    obtain ⟨f1, a2, a3⟩ := hP
    have r := hr.frm f1 (by decide) (f1.at (by decide) 14)
    have e := r.1
    refine Go_ild2 dX12_addPath_9 ?_
    refine Go_ald0 dX12_addPath_10 ?_
    refine gf11_14 dX12_addPath_11 flX12_101 (by first | assumption | rfl) ?_
    refine Go_icmp_ge (tgt := 35) dX12_addPath_14 (by decide) (by constructor <;> omega) (by constructor <;> omega) (fun h14 => by omega) (fun h14 => ?_)
    refine Go_ald0 dX12_addPath_17 ?_
    refine Go_ild1 dX12_addPath_18 ?_
    refine Go_ild2 dX12_addPath_19 ?_
    refine Go_ald0 dX12_addPath_20 ?_
    refine gf11_13 dX12_addPath_21 flX12_37 ?_
    refine Go_ild2 dX12_addPath_24 ?_
    refine Go_iald dX12_addPath_25 (by first | assumption | rfl) trivial (by omega) (by omega) (by decide) ?_
    rw [Int.toNat_natCast, r.2.2 i hi]
    refine Go_cVv3 (d' := 0) (bc' := 0) (bs' := 0) rfl dX12_addPath_26 mvX12_setSite rfl lkX12_104 (by first | assumption | rfl) rfl trivial (by decide) (by decide) (by decide) (Nat.le_of_ble_eq_true rfl) ?_
    refine e_X12_setSite (k0 := i) hn rfl (by omega) ?_
    refine Go_inc2 dX12_addPath_29 rfl ?_
    refine Go_goto (tgt := 9) dX12_addPath_32 (by decide) ?_
    refine Go_forget (by repeat' (first | exact Or.inl rfl | exact Or.inr rfl | exact Or.inr (lcg (by omega)) | exact trivial | constructor)) (kn _ ⟨f1.up (by simp), fun j hj => by rw [up_k (by omega)]; exact a2 j hj, fun j hj => ?_⟩)
    by_cases c : j = i
    · subst c; rw [up_s]
    · rw [up_k (by omega)]; exact a3 j (by omega)
  · try dsimp only at hP
    try dsimp only
    obtain ⟨f1, a2, a3⟩ := hP
    have r := hr.frm f1 (by decide) (f1.at (by decide) 14)
    have e := r.1
    refine Go_ild2 dX12_addPath_9 ?_
    refine Go_ald0 dX12_addPath_10 ?_
    refine gf11_14 dX12_addPath_11 flX12_101 (by first | assumption | rfl) ?_
    refine Go_icmp_ge (tgt := 35) dX12_addPath_14 (by decide) (by constructor <;> omega) (by constructor <;> omega) (fun h14 => ?_) (fun h14 => by omega)
    refine Go_ald0 dX12_addPath_35 ?_
    refine gf11_1 dX12_addPath_36 flX12_7 ?_
    refine Go_iconst dX12_addPath_39 ?_
    refine Go_ild1 dX12_addPath_40 ?_
    refine Go_iadd dX12_addPath_41 ?_
    refine Go_ald0 dX12_addPath_42 ?_
    refine gf11_14 dX12_addPath_43 flX12_101 (by first | assumption | rfl) ?_
    rw [e]
    refine Go_iast dX12_addPath_46 (by first | assumption | rfl) trivial (by omega) (by omega) (by decide) ?_
    rw [show (4 + (n : Int)).toNat = 4 + n by omega]
    refine Go_ald0 dX12_addPath_47 ?_
    refine gf11_1 dX12_addPath_48 flX12_7 ?_
    refine Go_iconst dX12_addPath_51 ?_
    refine Go_dup2 dX12_addPath_52 ?_
    refine Go_iald dX12_addPath_53 (by first | assumption | rfl) trivial (by omega) (by omega) (by decide) ?_
    refine Go_iconst dX12_addPath_54 ?_
    refine Go_iadd dX12_addPath_55 ?_
    refine Go_iast dX12_addPath_56 (by first | assumption | rfl) trivial (by omega) (by omega) (by decide) ?_
    refine Go_ild1 dX12_addPath_57 ?_
    refine Go_ireturn dX12_addPath_58 rfl (by first | rfl | decide | exact nar_b | simp [narrow]) ?_
    rw [show (0 : Int).toNat = 0 from rfl]
    refine k _ ⟨by rw [up_s, up_k (by omega), a2 0 (by omega), h0]; omega, by omega, fun q hn => ?_⟩ ((f1.up (by simp)).up (by simp)) (fun j h1 h2 => by rw [up_k (by omega), up_k (by omega)]; exact a2 j (by omega))
    try dsimp only
    by_cases c : q = n
    · subst c
      rw [if_pos rfl]
      exact ⟨by rw [up_k (by omega), up_s], l60, fun k hk => by rw [up_k (by omega), up_k (by omega)]; exact a3 k hk⟩
    · rw [if_neg c]
      have o := hq q (by omega)
      have o60 := o.2.1
      exact ⟨by rw [up_k (by omega), up_k (by omega), a2 _ (by omega)]; exact o.1, o60, fun k hk => by rw [up_k (by omega), up_k (by omega), a2 _ (by omega)]; exact o.2.2 k hk⟩
theorem e_X12_lay (h : ST w 69 0 s) (k : ∀ w', MK (w' 74) (w' 75) s.1 → frm w w' [74, 75] → K (vi 0) none w') : Ev G yX12_lay cX12_lay 3 mX12_lay none 1 0 0 [vr 68] w K X := by
  have ho := h.1
  have h5 := ho.1
  refine Ev_intro mvX12_lay.1 rfl (fun h => by cases h) (allc1 rfl) (Nat.le_of_ble_eq_true rfl) (Or.inl rfl) ?_
  show Go G cX12_lay mX12_lay none 1 0 0 0 [some (vr 68), none, none] [] w K X
  refine Go_iconst dX12_lay_0 ?_
  refine Go_ist1 dX12_lay_1 rfl ?_
  refine Go_upTo (n := 100) (L := fun i => [some (vr 68), some (vi (i : Int)), none]) (P := fun i v => frm w v [74, 75] ∧ ∀ j, j < i → v 74 j = -1 ∧ v 75 j = -1) (by repeat' (first | exact Or.inl rfl | exact Or.inr rfl | exact Or.inr (lcg (by omega)) | exact trivial | constructor)) (⟨frm.rfl, fun j hj => by omega⟩) (fun i v hi hP kn => ?_) (fun v hP => ?_)
  · try dsimp only at hP kn
    try dsimp only
    obtain ⟨f1, a1⟩ := hP
    refine Go_ild1 dX12_lay_2 ?_
    refine Go_bipush dX12_lay_3 (by decide +kernel) ?_
    refine Go_icmp_ge (tgt := 28) dX12_lay_5 (by decide) (by constructor <;> omega) (by constructor <;> omega) (fun h5 => by omega) (fun h5 => ?_)
    refine Go_ald0 dX12_lay_8 ?_
    refine gf11_8 dX12_lay_9 flX12_25 ?_
    refine Go_ild1 dX12_lay_12 ?_
    refine Go_iconst dX12_lay_13 ?_
    refine Go_iast dX12_lay_14 (by first | assumption | rfl) trivial (by omega) (by omega) (by decide) ?_
    refine Go_ald0 dX12_lay_15 ?_
    refine gf11_9 dX12_lay_16 flX12_28 ?_
    refine Go_ild1 dX12_lay_19 ?_
    refine Go_iconst dX12_lay_20 ?_
    refine Go_iast dX12_lay_21 (by first | assumption | rfl) trivial (by omega) (by omega) (by decide) ?_
    refine Go_inc1 dX12_lay_22 rfl ?_
    refine Go_goto (tgt := 2) dX12_lay_25 (by decide) ?_
    rw [Int.toNat_natCast]
    refine Go_forget (by repeat' (first | exact Or.inl rfl | exact Or.inr rfl | exact Or.inr (lcg (by omega)) | exact trivial | constructor)) (kn _ ⟨(f1.up (by simp)).up (by simp), fun j hj => ?_⟩)
    by_cases c : j = i
    · subst c; rw [up_a (a := 75) (b := 74) (by decide), up_s, up_s]; exact ⟨rfl, rfl⟩
    · rw [up_a (a := 75) (b := 74) (by decide), up_k c, up_k c, up_a (by decide)]; exact a1 j (by omega)
  · try dsimp only at hP
    try dsimp only
    obtain ⟨f1, a1⟩ := hP
    have m0 : MK (v 74) (v 75) (s.1.take 0) := fun t ht => a1 t ht
    refine Go_ild1 dX12_lay_2 ?_
    refine Go_bipush dX12_lay_3 (by decide +kernel) ?_
    refine Go_icmp_ge (tgt := 28) dX12_lay_5 (by decide) (by constructor <;> omega) (by constructor <;> omega) (fun h5 => ?_) (fun h5 => by omega)
    refine Go_iconst dX12_lay_28 ?_
    refine Go_ist1 dX12_lay_29 rfl ?_
    refine Go_upTo (n := s.1.length) (L := fun i => [some (vr 68), some (vi (i : Int)), none]) (P := fun i v => MK (v 74) (v 75) (s.1.take i) ∧ frm w v [74, 75]) (by repeat' (first | exact Or.inl rfl | exact Or.inr rfl | exact Or.inr (lcg (by omega)) | exact trivial | constructor)) (⟨m0, f1⟩) (fun i v hi hP kn => ?_) (fun v hP => ?_)
    · try dsimp only at hP kn
      try dsimp only
      obtain ⟨m1, f2⟩ := hP
      have hs := h.frm f2 (by decide)
      have e0 := st_n hs
      refine Go_ild1 dX12_lay_30 ?_
      refine Go_ald0 dX12_lay_31 ?_
      refine gf11_1 dX12_lay_32 flX12_7 ?_
      refine Go_iconst dX12_lay_35 ?_
      refine Go_iald dX12_lay_36 (by first | assumption | rfl) trivial (by omega) (by omega) (by decide) ?_
      rw [show (0 : Int).toNat = 0 from rfl]
      refine Go_icmp_ge (tgt := 87) dX12_lay_37 (by decide) (by constructor <;> omega) (by constructor <;> omega) (fun h37 => by omega) (fun h37 => ?_)
      refine Go_iconst dX12_lay_40 ?_
      refine Go_ist2 dX12_lay_41 rfl ?_
      refine Go_upTo (n := (pth s.1 i).length) (L := fun i2 => [some (vr 68), some (vi (i : Int)), some (vi (i2 : Int))]) (P := fun i2 v2 => MK (v2 74) (v2 75) (s.1.take i ++ [(pth s.1 i).take i2]) ∧ frm w v2 [74, 75]) (by repeat' (first | exact Or.inl rfl | exact Or.inr rfl | exact Or.inr (lcg (by omega)) | exact trivial | constructor)) (⟨m1.next, f2⟩) (fun i2 v2 hi2 hP2 kn2 => ?_) (fun v2 hP2 => ?_)
      · try dsimp only at hP2 kn2
        try dsimp only
        obtain ⟨m2, f3⟩ := hP2
        have hs2 := h.frm f3 (by decide)
        have l60 := ho.len hi
        have hx := (ho.lt i).at i2
        have hd := ho.nd.take hi2
        have f4 : ∀ z, frm w (up v2 74 ((pth s.1 i).getD i2 0) z) [74, 75] := fun z => f3.up (by simp)
        refine Go_ild2 dX12_lay_42 ?_
        refine Go_ald0 dX12_lay_43 ?_
        refine Go_ild1 dX12_lay_44 ?_
        refine Go_cV1 (d' := 0) (bc' := 0) (bs' := 0) rfl dX12_lay_45 mvX12_lengthOf rfl lkX12_70 (by first | assumption | rfl) rfl trivial (by decide) (by decide) (by decide) (Nat.le_of_ble_eq_true rfl) ?_
        refine e_X12_lengthOf hs2 hi ?_
        refine Go_icmp_ge (tgt := 81) dX12_lay_48 (by decide) (by constructor <;> omega) (by constructor <;> omega) (fun h48 => by omega) (fun h48 => ?_)
        refine Go_ald0 dX12_lay_51 ?_
        refine gf11_8 dX12_lay_52 flX12_25 ?_
        refine Go_ald0 dX12_lay_55 ?_
        refine Go_ild1 dX12_lay_56 ?_
        refine Go_ild2 dX12_lay_57 ?_
        refine Go_cV2 (d' := 0) (bc' := 0) (bs' := 0) rfl dX12_lay_58 mvX12_siteOf rfl lkX12_74 (by first | assumption | rfl) rfl trivial (by decide) (by decide) (by decide) (Nat.le_of_ble_eq_true rfl) ?_
        refine e_X12_siteOf (k0 := i2) hs2 hi rfl hi2 ?_
        refine Go_ild1 dX12_lay_61 ?_
        refine Go_iast dX12_lay_62 (by first | assumption | rfl) trivial (by omega) (by omega) (by decide) ?_
        rw [Int.toNat_natCast]
        have hs3 := h.frm (f4 (i : Int)) (by decide)
        refine Go_ald0 dX12_lay_63 ?_
        refine gf11_9 dX12_lay_64 flX12_28 ?_
        refine Go_ald0 dX12_lay_67 ?_
        refine Go_ild1 dX12_lay_68 ?_
        refine Go_ild2 dX12_lay_69 ?_
        refine Go_cV2 (d' := 0) (bc' := 0) (bs' := 0) rfl dX12_lay_70 mvX12_siteOf rfl lkX12_74 (by first | assumption | rfl) rfl trivial (by decide) (by decide) (by decide) (Nat.le_of_ble_eq_true rfl) ?_
        refine e_X12_siteOf (k0 := i2) hs3 hi rfl hi2 ?_
        refine Go_ild2 dX12_lay_73 ?_
        refine Go_iast dX12_lay_74 (by first | assumption | rfl) trivial (by omega) (by omega) (by decide) ?_
        refine Go_inc2 dX12_lay_75 rfl ?_
        refine Go_goto (tgt := 42) dX12_lay_78 (by decide) ?_
        rw [Int.toNat_natCast]
        refine Go_forget (by repeat' (first | exact Or.inl rfl | exact Or.inr rfl | exact Or.inr (lcg (by omega)) | exact trivial | constructor)) (kn2 _ ⟨?_, (f3.up (by simp)).up (by simp)⟩)
        rw [← take_getD hi2]
        refine m2.push hd.1 hd.2 ?_ ?_ (fun t ht => ⟨?_, ?_⟩)
        · rw [up_a (by decide), up_s, List.length_take, show min i s.1.length = i by omega]
        · rw [up_s, List.length_take, show min i2 (pth s.1 i).length = i2 by omega]
        · rw [up_a (by decide), up_k ht]
        · rw [up_k ht, up_a (by decide)]
      · try dsimp only at hP2
        try dsimp only
        obtain ⟨m2, f3⟩ := hP2
        have hs2 := h.frm f3 (by decide)
        have l60 := ho.len hi
        rw [List.take_length, take_pth hi] at m2
        refine Go_ild2 dX12_lay_42 ?_
        refine Go_ald0 dX12_lay_43 ?_
        refine Go_ild1 dX12_lay_44 ?_
        refine Go_cV1 (d' := 0) (bc' := 0) (bs' := 0) rfl dX12_lay_45 mvX12_lengthOf rfl lkX12_70 (by first | assumption | rfl) rfl trivial (by decide) (by decide) (by decide) (Nat.le_of_ble_eq_true rfl) ?_
        refine e_X12_lengthOf hs2 hi ?_
        refine Go_icmp_ge (tgt := 81) dX12_lay_48 (by decide) (by constructor <;> omega) (by constructor <;> omega) (fun h48 => ?_) (fun h48 => by omega)
        refine Go_inc1 dX12_lay_81 rfl ?_
        refine Go_goto (tgt := 30) dX12_lay_84 (by decide) ?_
        exact Go_forget (by repeat' (first | exact Or.inl rfl | exact Or.inr rfl | exact Or.inr (lcg (by omega)) | exact trivial | constructor)) (kn _ ⟨m2, f3⟩)
    · try dsimp only at hP
      try dsimp only
      obtain ⟨m1, f2⟩ := hP
      have hs := h.frm f2 (by decide)
      have e0 := st_n hs
      rw [List.take_length] at m1
      refine Go_ild1 dX12_lay_30 ?_
      refine Go_ald0 dX12_lay_31 ?_
      refine gf11_1 dX12_lay_32 flX12_7 ?_
      refine Go_iconst dX12_lay_35 ?_
      refine Go_iald dX12_lay_36 (by first | assumption | rfl) trivial (by omega) (by omega) (by decide) ?_
      rw [show (0 : Int).toNat = 0 from rfl]
      refine Go_icmp_ge (tgt := 87) dX12_lay_37 (by decide) (by constructor <;> omega) (by constructor <;> omega) (fun h37 => ?_) (fun h37 => by omega)
      refine Go_return dX12_lay_87 rfl ?_
      exact k _ m1 f2
theorem e_X12_isFree (hz : -1 ≤ z ∧ z < 100) (hr : 0 ≤ z → inR (w 74 z.toNat)) (k : K (vi (if 0 ≤ z ∧ w 74 z.toNat = -1 then 1 else 0)) none w) : Ev G yX12_isFree cX12_isFree 2 mX12_isFree none 0 0 0 [vr 68, vi z] w K X := by
  refine Ev_intro mvX12_isFree.1 rfl (fun h => by cases h) (allc1 rfl) (Nat.le_of_ble_eq_true rfl) (Or.inl rfl) ?_
  show Go G cX12_isFree mX12_isFree none 0 0 0 0 [some (vr 68), some (vi z)] [] w K X
  refine Go_ild1 dX12_isFree_0 ?_
  refine Go_iconst dX12_isFree_1 ?_
  refine Go_icmp_eq (tgt := 19) dX12_isFree_2 (by decide) (by constructor <;> omega) (by constructor <;> omega) (fun h2 => ?_) (fun h2 => ?_)
  · refine Go_iconst dX12_isFree_19 ?_
    refine Go_ireturn dX12_isFree_20 rfl (by first | rfl | decide | exact nar_b | simp [narrow]) ?_
    first | (refine kI (Eq.symm (if_neg (by omega))) k) | (refine kI (Eq.symm (if_pos (by omega))) k)
  · refine Go_ald0 dX12_isFree_5 ?_
    refine gf11_8 dX12_isFree_6 flX12_25 ?_
    refine Go_ild1 dX12_isFree_9 ?_
    refine Go_iald dX12_isFree_10 (by first | assumption | rfl) trivial (by omega) (by omega) (by decide) ?_
    refine Go_iconst dX12_isFree_11 ?_
    refine Go_icmp_ne (tgt := 19) dX12_isFree_12 (by decide) (hr (by omega)) (by constructor <;> omega) (fun h12 => ?_) (fun h12 => ?_)
    · refine Go_iconst dX12_isFree_19 ?_
      refine Go_ireturn dX12_isFree_20 rfl (by first | rfl | decide | exact nar_b | simp [narrow]) ?_
      first | (refine kI (Eq.symm (if_neg (by omega))) k) | (refine kI (Eq.symm (if_pos (by omega))) k)
    · refine Go_iconst dX12_isFree_15 ?_
      refine Go_goto (tgt := 20) dX12_isFree_16 (by decide) ?_
      refine Go_ireturn dX12_isFree_20 rfl (by first | rfl | decide | exact nar_b | simp [narrow]) ?_
      first | (refine kI (Eq.symm (if_neg (by omega))) k) | (refine kI (Eq.symm (if_pos (by omega))) k)
theorem mk_r {f : Nat → Int} {g' : Nat → Int} {ps : List (List Nat)} (h : MK f g' ps) (h5 : ps.length ≤ 5) {z : Int} (hz : z < 100) : 0 ≤ z → inR (f z.toNat) := fun h0 => by
  have := ow_in ps z.toNat
  rw [(h z.toNat (by omega)).1]
  constructor <;> omega
theorem e_X12_freeAround {x : Nat} {ps : List (List Nat)} (h : MK (w 74) (w 75) ps) (h5 : ps.length ≤ 5) (hx : x < 100) (k : K (vi (frD ps x)) none w) : Ev G yX12_freeAround cX12_freeAround 4 mX12_freeAround none 2 0 0 [vr 68, vi (x : Int)] w K X := by
  unfold frD at k
  refine Ev_intro mvX12_freeAround.1 rfl (fun h => by cases h) (allc1 rfl) (Nat.le_of_ble_eq_true rfl) (Or.inl rfl) ?_
  show Go G cX12_freeAround mX12_freeAround none 2 0 0 0 [some (vr 68), some (vi (x : Int)), none, none] [] w K X
  refine Go_iconst dX12_freeAround_0 ?_
  refine Go_ist2 dX12_freeAround_1 rfl ?_
  refine Go_iconst dX12_freeAround_2 ?_
  refine Go_ist3 dX12_freeAround_3 rfl ?_
  refine Go_upTo (n := 4) (L := fun i => [some (vr 68), some (vi (x : Int)), some (vi ((orF (frDF ps x) i : Nat) : Int)), some (vi (i : Int))]) (P := fun i v => v = w) (by repeat' (first | exact Or.inl rfl | exact Or.inr rfl | exact Or.inr (lcg (by omega)) | exact trivial | constructor)) (rfl) (fun i v hi hP kn => ?_) (fun v hP => ?_)
  · try dsimp only at hP kn
    try dsimp only
    subst hP
    have b := nbI_in x i
    have e : orF (frDF ps x) (i + 1) = orF (frDF ps x) i ||| (if 0 ≤ nbI x i ∧ nbI x i < 100 ∧ ow ps (nbI x i).toNat = -1 then 2 ^ i else 0) := rfl
    have hc : (0 ≤ nbI x i ∧ v 74 (nbI x i).toNat = -1) ↔ (0 ≤ nbI x i ∧ nbI x i < 100 ∧ ow ps (nbI x i).toNat = -1) := by
      constructor
      · intro q; rw [(h _ (by omega)).1] at q; exact ⟨q.1, b.2, q.2⟩
      · intro q; rw [(h _ (by omega)).1]; exact ⟨q.1, q.2.2⟩
    refine Go_ild3 dX12_freeAround_4 ?_
    refine Go_iconst dX12_freeAround_5 ?_
    refine Go_icmp_ge (tgt := 37) dX12_freeAround_6 (by decide) (by constructor <;> omega) (by constructor <;> omega) (fun h6 => by omega) (fun h6 => ?_)
    refine Go_ild2 dX12_freeAround_9 ?_
    refine Go_ald0 dX12_freeAround_10 ?_
    refine Go_ild1 dX12_freeAround_11 ?_
    refine Go_ild3 dX12_freeAround_12 ?_
    refine Go_cS2 (d' := 1) (bc' := 0) (bs' := 0) rfl dX12_freeAround_13 msX12_next rfl lkX12_84 (by decide) (by decide) (by decide) (Nat.le_of_ble_eq_true rfl) ?_
    refine e_X12_next (by omega) (by omega) hi ?_
    refine Go_cV1 (d' := 0) (bc' := 0) (bs' := 0) rfl dX12_freeAround_16 mvX12_isFree rfl lkX12_87 (by first | assumption | rfl) rfl trivial (by decide) (by decide) (by decide) (Nat.le_of_ble_eq_true rfl) ?_
    refine e_X12_isFree b (mk_r h h5 b.2) ?_
    refine Go_ifb_eq (tgt := 28) dX12_freeAround_19 (by decide)  (fun h19 => ?_) (fun h19 => ?_)
    · refine Go_iconst dX12_freeAround_28 ?_
      try rw [Int.toNat_natCast]
      first | refine Go_ior0 dX12_freeAround_29 ?_ | refine Go_ior dX12_freeAround_29 ?_
      refine Go_ist2 dX12_freeAround_30 rfl ?_
      refine Go_inc3 dX12_freeAround_31 rfl ?_
      refine Go_goto (tgt := 4) dX12_freeAround_34 (by decide) ?_
      refine Go_forget (ls' := _) ?_ (kn _ rfl)
      rw [hc] at h19
      first | rw [if_pos h19] at e | rw [if_neg h19, Nat.or_zero] at e
      rw [e]
      exact (by repeat' (first | exact Or.inl rfl | exact Or.inr rfl | exact Or.inr (lcg (by omega)) | exact trivial | constructor))
    · refine Go_iconst dX12_freeAround_22 ?_
      refine Go_ild3 dX12_freeAround_23 ?_
      refine Go_ishl dX12_freeAround_24 (by omega) (by omega) ?_
      refine Go_goto (tgt := 29) dX12_freeAround_25 (by decide) ?_
      try rw [Int.toNat_natCast]
      first | refine Go_ior0 dX12_freeAround_29 ?_ | refine Go_ior dX12_freeAround_29 ?_
      refine Go_ist2 dX12_freeAround_30 rfl ?_
      refine Go_inc3 dX12_freeAround_31 rfl ?_
      refine Go_goto (tgt := 4) dX12_freeAround_34 (by decide) ?_
      refine Go_forget (ls' := _) ?_ (kn _ rfl)
      rw [hc] at h19
      first | rw [if_pos h19] at e | rw [if_neg h19, Nat.or_zero] at e
      rw [e]
      exact (by repeat' (first | exact Or.inl rfl | exact Or.inr rfl | exact Or.inr (lcg (by omega)) | exact trivial | constructor))
  · try dsimp only at hP
    try dsimp only
    subst hP
    refine Go_ild3 dX12_freeAround_4 ?_
    refine Go_iconst dX12_freeAround_5 ?_
    refine Go_icmp_ge (tgt := 37) dX12_freeAround_6 (by decide) (by constructor <;> omega) (by constructor <;> omega) (fun h6 => ?_) (fun h6 => by omega)
    refine Go_ild2 dX12_freeAround_37 ?_
    refine Go_ireturn dX12_freeAround_38 rfl (by first | rfl | decide | exact nar_b | simp [narrow]) ?_
    exact k
theorem e_X12_reason {t : Int} (hz : -1 ≤ t ∧ t < 100) (hr : 0 ≤ t → inR (w 74 t.toNat)) (hp : p < 5) (k : K (vi (if t = -1 then 1 else if w 74 t.toNat = -1 then 0 else if w 74 t.toNat = p then 2 else 3)) none w) : Ev G yX12_reason cX12_reason 3 mX12_reason none 0 0 0 [vr 68, vi (p : Int), vi t] w K X := by
  refine Ev_intro mvX12_reason.1 rfl (fun h => by cases h) (allc1 rfl) (Nat.le_of_ble_eq_true rfl) (Or.inl rfl) ?_
  show Go G cX12_reason mX12_reason none 0 0 0 0 [some (vr 68), some (vi (p : Int)), some (vi t)] [] w K X
  by_cases c : t = -1
  · rw [if_pos c] at k
    refine Go_ild2 dX12_reason_0 ?_
    refine Go_iconst dX12_reason_1 ?_
    refine Go_icmp_ne (tgt := 7) dX12_reason_2 (by decide) (by constructor <;> omega) (by constructor <;> omega) (fun h2 => by omega) (fun h2 => ?_)
    refine Go_iconst dX12_reason_5 ?_
    refine Go_ireturn dX12_reason_6 rfl (by first | rfl | decide | exact nar_b | simp [narrow]) ?_
    exact k
  · have r := hr (by omega)
    obtain ⟨r1, r2⟩ := r
    rw [if_neg c] at k
    refine Go_ild2 dX12_reason_0 ?_
    refine Go_iconst dX12_reason_1 ?_
    refine Go_icmp_ne (tgt := 7) dX12_reason_2 (by decide) (by constructor <;> omega) (by constructor <;> omega) (fun h2 => ?_) (fun h2 => by omega)
    refine Go_ald0 dX12_reason_7 ?_
    refine gf11_8 dX12_reason_8 flX12_25 ?_
    refine Go_ild2 dX12_reason_11 ?_
    refine Go_iald dX12_reason_12 (by first | assumption | rfl) trivial (by omega) (by omega) (by decide) ?_
    refine Go_iconst dX12_reason_13 ?_
    refine Go_icmp_ne (tgt := 21) dX12_reason_14 (by decide) (by constructor <;> omega) (by constructor <;> omega) (fun h14 => ?_) (fun h14 => ?_)
    · refine Go_ald0 dX12_reason_21 ?_
      refine gf11_8 dX12_reason_22 flX12_25 ?_
      refine Go_ild2 dX12_reason_25 ?_
      refine Go_iald dX12_reason_26 (by first | assumption | rfl) trivial (by omega) (by omega) (by decide) ?_
      refine Go_ild1 dX12_reason_27 ?_
      refine Go_icmp_ne (tgt := 35) dX12_reason_28 (by decide) (by constructor <;> omega) (by constructor <;> omega) (fun h28 => ?_) (fun h28 => ?_)
      · refine Go_iconst dX12_reason_35 ?_
        refine Go_ireturn dX12_reason_36 rfl (by first | rfl | decide | exact nar_b | simp [narrow]) ?_
        first | (rw [if_pos (by omega)] at k; exact k) | (rw [if_neg (by omega), if_pos (by omega)] at k; exact k) | (rw [if_neg (by omega), if_neg (by omega)] at k; exact k)
      · refine Go_iconst dX12_reason_31 ?_
        refine Go_goto (tgt := 36) dX12_reason_32 (by decide) ?_
        refine Go_ireturn dX12_reason_36 rfl (by first | rfl | decide | exact nar_b | simp [narrow]) ?_
        first | (rw [if_pos (by omega)] at k; exact k) | (rw [if_neg (by omega), if_pos (by omega)] at k; exact k) | (rw [if_neg (by omega), if_neg (by omega)] at k; exact k)
    · refine Go_iconst dX12_reason_17 ?_
      refine Go_goto (tgt := 36) dX12_reason_18 (by decide) ?_
      refine Go_ireturn dX12_reason_36 rfl (by first | rfl | decide | exact nar_b | simp [narrow]) ?_
      first | (rw [if_pos (by omega)] at k; exact k) | (rw [if_neg (by omega), if_pos (by omega)] at k; exact k) | (rw [if_neg (by omega), if_neg (by omega)] at k; exact k)
end Model2
