/-- the text in the buffer -/
def LTc (l : List Nat) : Prop := ∀ x ∈ l, x < 128
theorem LTc.at {l : List Nat} (h : LTc l) (j : Nat) : l.getD j 0 < 128 := by
  rw [List.getD_eq_getElem?_getD]
  cases e : l[j]? with
  | none => show 0 < 128; omega
  | some x => exact h x (List.mem_of_getElem? e)
def TX (w : Wd) (tx : List Nat) : Prop := w 45 1 = (tx.length : Int) ∧ tx.length ≤ 70 ∧ (∀ j, j < tx.length → w 46 j = (tx.getD j 0 : Int)) ∧ LTc tx
theorem TX.frm {w w' : Wd} {tx : List Nat} {A : List Nat} (h : TX w tx) (f : frm w w' A) (h1 : 45 ∉ A) (h2 : 46 ∉ A) : TX w' tx := ⟨by rw [f.at h1]; exact h.1, h.2.1, fun j hj => by rw [f.at h2]; exact h.2.2.1 j hj, h.2.2.2⟩
/-- what a place of a path text takes -/
def goodC (j : Nat) (c : Int) : Bool := if j = 0 ∨ j = 2 then decide (48 ≤ c ∧ c ≤ 57) else if j = 1 then decide (c = 44) else if j = 3 then decide (c = 58) else decide (0 ≤ ixI c)
def errP (tx : List Nat) (r : Nat) : Prop := r ≤ tx.length ∧ (∀ j, j < r → goodC j (tx.getD j 0 : Int) = true) ∧ (r < tx.length → goodC r (tx.getD r 0 : Int) = false)
def errN (tx : List Nat) : Nat := (List.range tx.length).findIdx (fun j => ! goodC j (tx.getD j 0 : Int))
theorem errN_of {tx : List Nat} {r : Nat} (h : errP tx r) : errN tx = r := by
  obtain ⟨h1, h2, h3⟩ := h
  unfold errN
  by_cases q : r < tx.length
  · refine (List.findIdx_eq (by rw [List.length_range]; exact q)).mpr ⟨?_, fun j hj => ?_⟩
    · rw [List.getElem_range, h3 q]; rfl
    · rw [List.getElem_range, h2 j hj]; rfl
  · have e : r = tx.length := by omega
    subst e
    have := List.findIdx_eq_length (p := fun j => ! goodC j (tx.getD j 0 : Int)) (xs := List.range tx.length)
    rw [List.length_range] at this
    refine this.mpr (fun x hx => ?_)
    rw [h2 x (List.mem_range.mp hx)]; rfl
theorem errN_le (tx : List Nat) : errN tx ≤ tx.length := by
  have := List.findIdx_le_length (p := fun j => ! goodC j (tx.getD j 0 : Int)) (xs := List.range tx.length)
  rw [List.length_range] at this
  exact this
theorem errN_all {tx : List Nat} (h : errN tx = tx.length) : ∀ j, j < tx.length → goodC j (tx.getD j 0 : Int) = true := by
  intro j hj
  have := List.findIdx_eq_length (p := fun j => ! goodC j (tx.getD j 0 : Int)) (xs := List.range tx.length)
  rw [List.length_range] at this
  have := this.mp h j (List.mem_range.mpr hj)
  simpa using this
/-- where a text leads -/
def wkS (tx : List Nat) : Nat → Int
  | 0 => numI ((tx.getD 0 0 : Int) - 48) ((tx.getD 2 0 : Int) - 48)
  | k + 1 => nbI (wkS tx k) (ixI (tx.getD (k + 4) 0 : Int))
def wkL (tx : List Nat) (k : Nat) : List Nat := (List.range k).map fun j => (wkS tx j).toNat
def wkOK (ps : List (List Nat)) (tx : List Nat) (k : Nat) : Bool := decide (0 ≤ wkS tx k ∧ ow ps (wkS tx k).toNat = -1 ∧ (wkS tx k).toNat ∉ wkL tx k ∧ k < 60)
def wkA (ps : List (List Nat)) (tx : List Nat) (n : Nat) : Bool := (List.range n).all (wkOK ps tx)
theorem wkS_in (tx : List Nat) (k : Nat) : -1 ≤ wkS tx k ∧ wkS tx k < 100 := by
  cases k with
  | zero => exact numI_in _ _
  | succ k => exact nbI_in _ _
theorem wkL_succ (tx : List Nat) (k : Nat) : wkL tx (k + 1) = wkL tx k ++ [(wkS tx k).toNat] := by
  unfold wkL
  rw [List.range_succ, List.map_append]
  rfl
theorem wkL_len (tx : List Nat) (k : Nat) : (wkL tx k).length = k := by simp [wkL]
theorem wkL_LT (tx : List Nat) (k : Nat) : LT (wkL tx k) := by
  intro x hx
  unfold wkL at hx
  obtain ⟨j, -, rfl⟩ := List.mem_map.mp hx
  have := wkS_in tx j
  omega
theorem wkA_succ (ps : List (List Nat)) (tx : List Nat) (n : Nat) : wkA ps tx (n + 1) = (wkA ps tx n && wkOK ps tx n) := by
  unfold wkA
  rw [List.range_succ, List.all_append]
  simp
theorem wkA_false {ps : List (List Nat)} {tx : List Nat} {n i : Nat} (h : i < n) (hf : wkOK ps tx i = false) : wkA ps tx n = false := by
  unfold wkA
  rw [List.all_eq_false]
  exact ⟨i, List.mem_range.mpr h, by rw [hf]; decide⟩
/-- the text that a path is written as -/
def wrT (l : List Nat) : List Nat := [48 + l.getD 0 0 % 10, 44, 48 + l.getD 0 0 / 10, 58] ++ (List.range (l.length - 1)).map fun j => (urdlI (stJ l j).toNat).toNat
theorem ixI_in (c : Int) : -1 ≤ ixI c ∧ ixI c < 4 := by
  unfold ixI
  repeat' split
  all_goals omega
theorem urdlI_in (j : Nat) (h : j < 4) : 0 ≤ urdlI j ∧ urdlI j < 128 := by
  have key : ∀ j, j < 4 → 0 ≤ urdlI j ∧ urdlI j < 128 := by decide
  exact key j h
section Text
variable {G : Gm} {w : Wd} {K : Kt} {X : Xt} {tx : List Nat}
theorem e_X3_length (h : TX w tx) (k : K (vi tx.length) none w) : Ev G yX3_length cX3_length 1 mX3_length none 0 0 0 [vr 45] w K X := by
  have h1 := h.1
  refine Ev_intro mvX3_length.1 rfl (fun h => by cases h) (allc1 rfl) (Nat.le_of_ble_eq_true rfl) (Or.inl rfl) ?_
  show Go G cX3_length mX3_length none 0 0 0 0 [some (vr 45)] [] w K X
  refine Go_ald0 dX3_length_0 ?_
  refine gf2_1 dX3_length_1 flX3_15 (by first | assumption | rfl) ?_
  refine Go_ireturn dX3_length_4 rfl (by first | rfl | decide | simp [narrow]) ?_
  exact kI h1 k
theorem e_X3_isFull (h : TX w tx) (k : K (vi (if tx.length = 70 then 1 else 0)) none w) : Ev G yX3_isFull cX3_isFull 1 mX3_isFull none 0 0 0 [vr 45] w K X := by
  have h1 := h.1
  have h2 := h.2.1
  refine Ev_intro mvX3_isFull.1 rfl (fun h => by cases h) (allc1 rfl) (Nat.le_of_ble_eq_true rfl) (Or.inl rfl) ?_
  show Go G cX3_isFull mX3_isFull none 0 0 0 0 [some (vr 45)] [] w K X
  refine Go_ald0 dX3_isFull_0 ?_
  refine gf2_1 dX3_isFull_1 flX3_15 (by first | assumption | rfl) ?_
  refine Go_bipush dX3_isFull_4 (by decide +kernel) ?_
  refine Go_icmp_lt (tgt := 13) dX3_isFull_6 (by decide) (by constructor <;> omega) (by constructor <;> omega) (fun h6 => ?_) (fun h6 => ?_)
  · refine Go_iconst dX3_isFull_13 ?_
    refine Go_ireturn dX3_isFull_14 rfl (by first | rfl | decide | simp [narrow]) ?_
    first | (refine kI (Eq.symm (if_neg (by omega))) k) | (refine kI (Eq.symm (if_pos (by omega))) k)
  · refine Go_iconst dX3_isFull_9 ?_
    refine Go_goto (tgt := 14) dX3_isFull_10 (by decide) ?_
    refine Go_ireturn dX3_isFull_14 rfl (by first | rfl | decide | simp [narrow]) ?_
    first | (refine kI (Eq.symm (if_neg (by omega))) k) | (refine kI (Eq.symm (if_pos (by omega))) k)
theorem e_X3_clear (k : ∀ w', TX w' [] → frm w w' [45, 46] → K (vi 0) none w') : Ev G yX3_clear cX3_clear 1 mX3_clear none 0 0 0 [vr 45] w K X := by
  refine Ev_intro mvX3_clear.1 rfl (fun h => by cases h) (allc1 rfl) (Nat.le_of_ble_eq_true rfl) (Or.inl rfl) ?_
  show Go G cX3_clear mX3_clear none 0 0 0 0 [some (vr 45)] [] w K X
  refine Go_ald0 dX3_clear_0 ?_
  refine Go_iconst dX3_clear_1 ?_
  refine pf2_1 dX3_clear_2 flX3_15 (by first | assumption | rfl) ?_
  refine Go_return dX3_clear_5 rfl ?_
  exact k _ ⟨by rw [up_s]; rfl, by simp, fun j hj => by simp at hj, fun c hc => by simp at hc⟩ (frm.rfl.up (by simp))
theorem e_X3_add {c : Nat} (h : TX w tx) (hl : tx.length < 70) (hc : c < 128) (k : ∀ w', TX w' (tx ++ [c]) → frm w w' [45, 46] → K (vi 0) none w') : Ev G yX3_add cX3_add 2 mX3_add none 1 0 0 [vr 45, vi (c : Int)] w K X := by
  have h9 := h
  obtain ⟨a1, a2, a3, a4⟩ := h
  refine Ev_intro mvX3_add.1 rfl (fun h => by cases h) (allc1 rfl) (Nat.le_of_ble_eq_true rfl) (Or.inl rfl) ?_
  show Go G cX3_add mX3_add none 1 0 0 0 [some (vr 45), some (vi (c : Int))] [] w K X
  refine Go_ald0 dX3_add_0 ?_
  refine Go_cV0 (d' := 0) (bc' := 0) (bs' := 0) rfl dX3_add_1 mvX3_isFull rfl lkX3_19 (by first | assumption | rfl) rfl trivial (by decide) (by decide) (by decide) (Nat.le_of_ble_eq_true rfl) ?_
  refine e_X3_isFull h9 ?_
  refine Go_ifb_ne (tgt := 27) dX3_add_4 (by decide)  (fun h4 => by omega) (fun h4 => ?_)
  refine Go_ald0 dX3_add_7 ?_
  refine gf2_0 dX3_add_8 flX3_9 ?_
  refine Go_ald0 dX3_add_11 ?_
  refine gf2_1 dX3_add_12 flX3_15 (by first | assumption | rfl) ?_
  refine Go_ild1 dX3_add_15 ?_
  refine Go_cast dX3_add_16 (by first | assumption | rfl) trivial (by omega) (by omega) (by decide) (by omega) (by omega) ?_
  refine Go_ald0 dX3_add_17 ?_
  refine Go_dup dX3_add_18 ?_
  refine gf2_1 dX3_add_19 flX3_15 (by first | assumption | rfl) ?_
  refine Go_iconst dX3_add_22 ?_
  refine Go_iadd dX3_add_23 ?_
  refine pf2_1 dX3_add_24 flX3_15 (by first | assumption | rfl) ?_
  refine Go_return dX3_add_27 rfl ?_
  refine k _ ⟨by rw [up_s, up_a (by decide), a1]; simp, by simp; omega, fun j hj => ?_, fun x hx => ?_⟩ ((frm.rfl.up (by simp)).up (by simp))
  · rw [up_a (by decide), a1, Int.toNat_natCast, gD_app]
    by_cases q : j = tx.length
    · subst q; rw [up_s, if_neg (by omega), Nat.sub_self]; rfl
    · rw [List.length_append, List.length_cons, List.length_nil] at hj
      rw [up_k q, if_pos (by omega)]; exact a3 j (by omega)
  · rcases List.mem_append.mp hx with q | q
    · exact a4 x q
    · rw [List.mem_singleton] at q; omega
theorem e_X3_fits {i : Nat} {c : Int} (hi : i < 70) (h0 : 0 ≤ c) (hc : c < 128) (k : K (vi (if goodC i c = true then 1 else 0)) none w) : Ev G yX3_fits cX3_fits 2 mX3_fits none 4 0 0 [vi (i : Int), vi c] w K X := by
  refine Ev_intro msX3_fits.1 rfl (fun h => by cases h) (allc1 rfl) (Nat.le_of_ble_eq_true rfl) (Or.inl rfl) ?_
  show Go G cX3_fits mX3_fits none 4 0 0 0 [some (vi (i : Int)), some (vi c)] [] w K X
  by_cases q0 : i = 0
  · subst q0
    have e : goodC 0 c = decide (48 ≤ c ∧ c ≤ 57) := rfl
    rw [e] at k
    simp only [decide_eq_true_eq] at k
    refine Go_ild0 dX3_fits_0 ?_
    refine Go_tsIn (i := 0) (off := 31) (tgt := 32) dX3_fits_1 (by rfl) ⟨⟨by decide, by decide⟩, by decide⟩ (by decide) (by decide) ?_
    refine Go_ild1 dX3_fits_32 ?_
    refine Go_bipush dX3_fits_33 (by decide +kernel) ?_
    refine Go_icmp_lt (tgt := 48) dX3_fits_35 (by decide) (by constructor <;> omega) (by constructor <;> omega) (fun h35 => ?_) (fun h35 => ?_)
    · refine Go_iconst dX3_fits_48 ?_
      refine Go_ireturn dX3_fits_49 rfl (by first | rfl | decide | simp [narrow]) ?_
      first | (refine kI (Eq.symm (if_neg (by omega))) k) | (refine kI (Eq.symm (if_pos (by omega))) k)
    · refine Go_ild1 dX3_fits_38 ?_
      refine Go_bipush dX3_fits_39 (by decide +kernel) ?_
      refine Go_icmp_gt (tgt := 48) dX3_fits_41 (by decide) (by constructor <;> omega) (by constructor <;> omega) (fun h41 => ?_) (fun h41 => ?_)
      · refine Go_iconst dX3_fits_48 ?_
        refine Go_ireturn dX3_fits_49 rfl (by first | rfl | decide | simp [narrow]) ?_
        first | (refine kI (Eq.symm (if_neg (by omega))) k) | (refine kI (Eq.symm (if_pos (by omega))) k)
      · refine Go_iconst dX3_fits_44 ?_
        refine Go_goto (tgt := 49) dX3_fits_45 (by decide) ?_
        refine Go_ireturn dX3_fits_49 rfl (by first | rfl | decide | simp [narrow]) ?_
        first | (refine kI (Eq.symm (if_neg (by omega))) k) | (refine kI (Eq.symm (if_pos (by omega))) k)
  by_cases q1 : i = 1
  · subst q1
    have e : goodC 1 c = decide (c = 44) := rfl
    rw [e] at k
    simp only [decide_eq_true_eq] at k
    refine Go_ild0 dX3_fits_0 ?_
    refine Go_tsIn (i := 1) (off := 49) (tgt := 50) dX3_fits_1 (by rfl) ⟨⟨by decide, by decide⟩, by decide⟩ (by decide) (by decide) ?_
    refine Go_ild1 dX3_fits_50 ?_
    refine Go_bipush dX3_fits_51 (by decide +kernel) ?_
    refine Go_icmp_ne (tgt := 60) dX3_fits_53 (by decide) (by constructor <;> omega) (by constructor <;> omega) (fun h53 => ?_) (fun h53 => ?_)
    · refine Go_iconst dX3_fits_60 ?_
      refine Go_ireturn dX3_fits_61 rfl (by first | rfl | decide | simp [narrow]) ?_
      first | (refine kI (Eq.symm (if_neg (by omega))) k) | (refine kI (Eq.symm (if_pos (by omega))) k)
    · refine Go_iconst dX3_fits_56 ?_
      refine Go_goto (tgt := 61) dX3_fits_57 (by decide) ?_
      refine Go_ireturn dX3_fits_61 rfl (by first | rfl | decide | simp [narrow]) ?_
      first | (refine kI (Eq.symm (if_neg (by omega))) k) | (refine kI (Eq.symm (if_pos (by omega))) k)
  by_cases q2 : i = 2
  · subst q2
    have e : goodC 2 c = decide (48 ≤ c ∧ c ≤ 57) := rfl
    rw [e] at k
    simp only [decide_eq_true_eq] at k
    refine Go_ild0 dX3_fits_0 ?_
    refine Go_tsIn (i := 2) (off := 31) (tgt := 32) dX3_fits_1 (by rfl) ⟨⟨by decide, by decide⟩, by decide⟩ (by decide) (by decide) ?_
    refine Go_ild1 dX3_fits_32 ?_
    refine Go_bipush dX3_fits_33 (by decide +kernel) ?_
    refine Go_icmp_lt (tgt := 48) dX3_fits_35 (by decide) (by constructor <;> omega) (by constructor <;> omega) (fun h35 => ?_) (fun h35 => ?_)
    · refine Go_iconst dX3_fits_48 ?_
      refine Go_ireturn dX3_fits_49 rfl (by first | rfl | decide | simp [narrow]) ?_
      first | (refine kI (Eq.symm (if_neg (by omega))) k) | (refine kI (Eq.symm (if_pos (by omega))) k)
    · refine Go_ild1 dX3_fits_38 ?_
      refine Go_bipush dX3_fits_39 (by decide +kernel) ?_
      refine Go_icmp_gt (tgt := 48) dX3_fits_41 (by decide) (by constructor <;> omega) (by constructor <;> omega) (fun h41 => ?_) (fun h41 => ?_)
      · refine Go_iconst dX3_fits_48 ?_
        refine Go_ireturn dX3_fits_49 rfl (by first | rfl | decide | simp [narrow]) ?_
        first | (refine kI (Eq.symm (if_neg (by omega))) k) | (refine kI (Eq.symm (if_pos (by omega))) k)
      · refine Go_iconst dX3_fits_44 ?_
        refine Go_goto (tgt := 49) dX3_fits_45 (by decide) ?_
        refine Go_ireturn dX3_fits_49 rfl (by first | rfl | decide | simp [narrow]) ?_
        first | (refine kI (Eq.symm (if_neg (by omega))) k) | (refine kI (Eq.symm (if_pos (by omega))) k)
  by_cases q3 : i = 3
  · subst q3
    have e : goodC 3 c = decide (c = 58) := rfl
    rw [e] at k
    simp only [decide_eq_true_eq] at k
    refine Go_ild0 dX3_fits_0 ?_
    refine Go_tsIn (i := 3) (off := 61) (tgt := 62) dX3_fits_1 (by rfl) ⟨⟨by decide, by decide⟩, by decide⟩ (by decide) (by decide) ?_
    refine Go_ild1 dX3_fits_62 ?_
    refine Go_bipush dX3_fits_63 (by decide +kernel) ?_
    refine Go_icmp_ne (tgt := 72) dX3_fits_65 (by decide) (by constructor <;> omega) (by constructor <;> omega) (fun h65 => ?_) (fun h65 => ?_)
    · refine Go_iconst dX3_fits_72 ?_
      refine Go_ireturn dX3_fits_73 rfl (by first | rfl | decide | simp [narrow]) ?_
      first | (refine kI (Eq.symm (if_neg (by omega))) k) | (refine kI (Eq.symm (if_pos (by omega))) k)
    · refine Go_iconst dX3_fits_68 ?_
      refine Go_goto (tgt := 73) dX3_fits_69 (by decide) ?_
      refine Go_ireturn dX3_fits_73 rfl (by first | rfl | decide | simp [narrow]) ?_
      first | (refine kI (Eq.symm (if_neg (by omega))) k) | (refine kI (Eq.symm (if_pos (by omega))) k)
  have e : goodC i c = decide (0 ≤ ixI c) := by unfold goodC; rw [if_neg (by omega), if_neg (by omega), if_neg (by omega)]
  rw [e] at k
  simp only [decide_eq_true_eq] at k
  have b := ixI_in c
  refine Go_ild0 dX3_fits_0 ?_
  refine Go_tsOut (tgt := 74) dX3_fits_1 (by constructor <;> omega) (by omega) (by decide) ?_
  refine Go_ldcU dX3_fits_74 rfl ?_
  refine Go_ild1 dX3_fits_76 ?_
  refine Go_callT (d' := 3) (as := [vi (c)]) rfl dX3_fits_77 mvJ0_indexOf_0f7a4 rfl lkX3_33 rfl rfl rfl (Nat.le_of_ble_eq_true rfl) (by decide) ?_
  refine e_J0_indexOf h0 hc ?_
  refine Go_if_lt (tgt := 87) dX3_fits_80 (by decide) (by constructor <;> omega) (fun h80 => ?_) (fun h80 => ?_)
  · refine Go_iconst dX3_fits_87 ?_
    refine Go_ireturn dX3_fits_88 rfl (by first | rfl | decide | simp [narrow]) ?_
    first | (refine kI (Eq.symm (if_neg (by omega))) k) | (refine kI (Eq.symm (if_pos (by omega))) k)
  · refine Go_iconst dX3_fits_83 ?_
    refine Go_goto (tgt := 88) dX3_fits_84 (by decide) ?_
    refine Go_ireturn dX3_fits_88 rfl (by first | rfl | decide | simp [narrow]) ?_
    first | (refine kI (Eq.symm (if_neg (by omega))) k) | (refine kI (Eq.symm (if_pos (by omega))) k)
theorem e_X3_errorIndex (h : TX w tx) (k : K (vi (errN tx)) none w) : Ev G yX3_errorIndex cX3_errorIndex 2 mX3_errorIndex none 5 0 0 [vr 45] w K X := by
  have h9 := h
  obtain ⟨h1, h2, h3, h4⟩ := h
  refine Ev_intro mvX3_errorIndex.1 rfl (fun h => by cases h) (allc1 rfl) (Nat.le_of_ble_eq_true rfl) (Or.inl rfl) ?_
  show Go G cX3_errorIndex mX3_errorIndex none 5 0 0 0 [some (vr 45), none] [] w K X
  refine Go_iconst dX3_errorIndex_0 ?_
  refine Go_ist1 dX3_errorIndex_1 rfl ?_
  refine Go_upTo (n := tx.length) (L := fun i => [some (vr 45), some (vi (i : Int))]) (P := fun i v => v = w ∧ ∀ j, j < i → goodC j (tx.getD j 0 : Int) = true) (by repeat' (first | exact Or.inl rfl | exact Or.inr rfl | exact Or.inr (lcg (by omega)) | exact trivial | constructor)) (⟨rfl, fun j q => by omega⟩) (fun i v hi hP kn => ?_) (fun v hP => ?_)
  · try dsimp only at hP kn
    try dsimp only
    obtain ⟨rfl, hP⟩ := hP
    have e := h3 i hi
    have b := h4.at i
    refine Go_ild1 dX3_errorIndex_2 ?_
    refine Go_ald0 dX3_errorIndex_3 ?_
    refine gf2_1 dX3_errorIndex_4 flX3_15 (by first | assumption | rfl) ?_
    refine Go_icmp_ge (tgt := 31) dX3_errorIndex_7 (by decide) (by constructor <;> omega) (by constructor <;> omega) (fun h7 => by omega) (fun h7 => ?_)
    refine Go_ild1 dX3_errorIndex_10 ?_
    refine Go_ald0 dX3_errorIndex_11 ?_
    refine gf2_0 dX3_errorIndex_12 flX3_9 ?_
    refine Go_ild1 dX3_errorIndex_15 ?_
    refine Go_cald dX3_errorIndex_16 (by first | assumption | rfl) trivial (by omega) (by omega) (by decide) ?_
    rw [Int.toNat_natCast, e]
    refine Go_cS2 (d' := 4) (bc' := 0) (bs' := 0) rfl dX3_errorIndex_17 msX3_fits rfl lkX3_23 (by decide) (by decide) (by decide) (Nat.le_of_ble_eq_true rfl) ?_
    refine e_X3_fits (by omega) (by omega) (by omega) ?_
    refine Go_ifb_ne (tgt := 25) dX3_errorIndex_20 (by decide)  (fun h20 => ?_) (fun h20 => ?_)
    · refine Go_inc1 dX3_errorIndex_25 rfl ?_
      refine Go_goto (tgt := 2) dX3_errorIndex_28 (by decide) ?_
      refine Go_forget (by repeat' (first | exact Or.inl rfl | exact Or.inr rfl | exact Or.inr (lcg (by omega)) | exact trivial | constructor)) (kn _ ⟨rfl, fun j q => ?_⟩)
      by_cases e2 : j = i
      · subst e2; exact h20
      · exact hP j (by omega)
    · refine Go_ild1 dX3_errorIndex_23 ?_
      refine Go_ireturn dX3_errorIndex_24 rfl (by first | rfl | decide | simp [narrow]) ?_
      refine kI (congrArg _ (Eq.symm (errN_of ⟨by omega, hP, fun _ => ?_⟩))) k
      exact Bool.eq_false_iff.mpr h20
  · try dsimp only at hP
    try dsimp only
    obtain ⟨rfl, hP⟩ := hP
    refine Go_ild1 dX3_errorIndex_2 ?_
    refine Go_ald0 dX3_errorIndex_3 ?_
    refine gf2_1 dX3_errorIndex_4 flX3_15 (by first | assumption | rfl) ?_
    refine Go_icmp_ge (tgt := 31) dX3_errorIndex_7 (by decide) (by constructor <;> omega) (by constructor <;> omega) (fun h7 => ?_) (fun h7 => by omega)
    refine Go_ald0 dX3_errorIndex_31 ?_
    refine gf2_1 dX3_errorIndex_32 flX3_15 (by first | assumption | rfl) ?_
    refine Go_ireturn dX3_errorIndex_35 rfl (by first | rfl | decide | simp [narrow]) ?_
    refine kI (h1.trans (congrArg _ (Eq.symm (errN_of ⟨by omega, hP, fun q => by omega⟩)))) k
theorem e_X3_isComplete (h : TX w tx) (k : K (vi (if 4 ≤ tx.length ∧ errN tx = tx.length then 1 else 0)) none w) : Ev G yX3_isComplete cX3_isComplete 1 mX3_isComplete none 6 0 0 [vr 45] w K X := by
  have h9 := h
  obtain ⟨h1, h2, h3, h4⟩ := h
  have b := errN_le tx
  refine Ev_intro mvX3_isComplete.1 rfl (fun h => by cases h) (allc1 rfl) (Nat.le_of_ble_eq_true rfl) (Or.inl rfl) ?_
  show Go G cX3_isComplete mX3_isComplete none 6 0 0 0 [some (vr 45)] [] w K X
  refine Go_ald0 dX3_isComplete_0 ?_
  refine gf2_1 dX3_isComplete_1 flX3_15 (by first | assumption | rfl) ?_
  refine Go_iconst dX3_isComplete_4 ?_
  refine Go_icmp_lt (tgt := 23) dX3_isComplete_5 (by decide) (by constructor <;> omega) (by constructor <;> omega) (fun h5 => ?_) (fun h5 => ?_)
  · refine Go_iconst dX3_isComplete_23 ?_
    refine Go_ireturn dX3_isComplete_24 rfl (by first | rfl | decide | simp [narrow]) ?_
    first | (refine kI (Eq.symm (if_neg (by omega))) k) | (refine kI (Eq.symm (if_pos (by omega))) k)
  · refine Go_ald0 dX3_isComplete_8 ?_
    refine Go_cV0 (d' := 5) (bc' := 0) (bs' := 0) rfl dX3_isComplete_9 mvX3_errorIndex rfl lkX3_27 (by first | assumption | rfl) rfl trivial (by decide) (by decide) (by decide) (Nat.le_of_ble_eq_true rfl) ?_
    refine e_X3_errorIndex h9 ?_
    refine Go_ald0 dX3_isComplete_12 ?_
    refine gf2_1 dX3_isComplete_13 flX3_15 (by first | assumption | rfl) ?_
    refine Go_icmp_ne (tgt := 23) dX3_isComplete_16 (by decide) (by constructor <;> omega) (by constructor <;> omega) (fun h16 => ?_) (fun h16 => ?_)
    · refine Go_iconst dX3_isComplete_23 ?_
      refine Go_ireturn dX3_isComplete_24 rfl (by first | rfl | decide | simp [narrow]) ?_
      first | (refine kI (Eq.symm (if_neg (by omega))) k) | (refine kI (Eq.symm (if_pos (by omega))) k)
    · refine Go_iconst dX3_isComplete_19 ?_
      refine Go_goto (tgt := 24) dX3_isComplete_20 (by decide) ?_
      refine Go_ireturn dX3_isComplete_24 rfl (by first | rfl | decide | simp [narrow]) ?_
      first | (refine kI (Eq.symm (if_neg (by omega))) k) | (refine kI (Eq.symm (if_pos (by omega))) k)
theorem e_X3_layOut {ps : List (List Nat)} (h : TX w tx) (hm : MK (w 4) (w 5) ps) (h5 : ps.length ≤ 5) (h4 : 4 ≤ tx.length) (hg : errN tx = tx.length)
    (kt : ∀ w', wkA ps tx (tx.length - 3) = true → TR w' 47 (wkL tx (tx.length - 3)) → frm w w' [47, 48] → K (vi 1) none w')
    (kf : ∀ w', wkA ps tx (tx.length - 3) = false → frm w w' [47, 48] → K (vi 0) none w') : Ev G yX3_layOut cX3_layOut 5 mX3_layOut none 4 0 0 [vr 45, vr 47, vr 2] w K X := by
  have h9 := h
  have ga := errN_all hg
  obtain ⟨h1, h2, h3, hc⟩ := h
  have g0 := ga 0 (by omega)
  have g2 := ga 2 (by omega)
  have e0 := h3 0 (by omega)
  have e2 := h3 2 (by omega)
  simp only [goodC, true_or, or_true, if_true, decide_eq_true_eq] at g0 g2
  have z0 := wkS_in tx 0
  have eS : numI (w 46 0 - 48) (w 46 2 - 48) = wkS tx 0 := by rw [e0, e2]; rfl
  refine Ev_intro mvX3_layOut.1 rfl (fun h => by cases h) (allc1 rfl) (Nat.le_of_ble_eq_true rfl) (Or.inl rfl) ?_
  show Go G cX3_layOut mX3_layOut none 4 0 0 0 [some (vr 45), some (vr 47), some (vr 2), none, none] [] w K X
  by_cases q27 : 0 ≤ wkS tx 0 ∧ wkS tx 0 < 100 ∧ ow ps (wkS tx 0).toNat = -1
  case neg =>
    refine Go_ald0 dX3_layOut_0 ?_
    refine gf2_0 dX3_layOut_1 flX3_9 ?_
    refine Go_iconst dX3_layOut_4 ?_
    refine Go_cald dX3_layOut_5 (by first | assumption | rfl) trivial (by omega) (by omega) (by decide) ?_
    refine Go_bipush dX3_layOut_6 (by decide +kernel) ?_
    refine Go_isub dX3_layOut_8 ?_
    refine Go_ald0 dX3_layOut_9 ?_
    refine gf2_0 dX3_layOut_10 flX3_9 ?_
    refine Go_iconst dX3_layOut_13 ?_
    refine Go_cald dX3_layOut_14 (by first | assumption | rfl) trivial (by omega) (by omega) (by decide) ?_
    refine Go_bipush dX3_layOut_15 (by decide +kernel) ?_
    refine Go_isub dX3_layOut_17 ?_
    rw [show (0 : Int).toNat = 0 from rfl, show (2 : Int).toNat = 2 from rfl]
    refine Go_cS2 (d' := 0) (bc' := 0) (bs' := 0) rfl dX3_layOut_18 msX2_number rfl lkX3_39 (by decide) (by decide) (by decide) (Nat.le_of_ble_eq_true rfl) ?_
    refine e_X2_number (by constructor <;> omega) (by constructor <;> omega) ?_
    rw [eS]
    refine Go_ist3 dX3_layOut_21 rfl ?_
    refine Go_ald2 dX3_layOut_22 ?_
    refine Go_ild3 dX3_layOut_23 ?_
    refine Go_cV1 (d' := 1) (bc' := 0) (bs' := 0) rfl dX3_layOut_24 mvX0_isFree rfl lkX3_45 (by first | assumption | rfl) rfl trivial (by decide) (by decide) (by decide) (Nat.le_of_ble_eq_true rfl) ?_
    refine e_X0_isFree hm h5 (by constructor <;> omega) ?_
    refine Go_ifb_ne (tgt := 32) dX3_layOut_27 (by decide)  (fun h27 => by exact absurd h27 q27) (fun h27 => ?_)
    refine Go_iconst dX3_layOut_30 ?_
    refine Go_ireturn dX3_layOut_31 rfl (by first | rfl | decide | simp [narrow]) ?_
    refine kf _ (wkA_false (i := 0) (by omega) ?_) frm.rfl
    unfold wkOK
    rw [decide_eq_false_iff_not]
    exact fun q => q27 ⟨q.1, by omega, q.2.1⟩
  refine Go_ald0 dX3_layOut_0 ?_
  refine gf2_0 dX3_layOut_1 flX3_9 ?_
  refine Go_iconst dX3_layOut_4 ?_
  refine Go_cald dX3_layOut_5 (by first | assumption | rfl) trivial (by omega) (by omega) (by decide) ?_
  refine Go_bipush dX3_layOut_6 (by decide +kernel) ?_
  refine Go_isub dX3_layOut_8 ?_
  refine Go_ald0 dX3_layOut_9 ?_
  refine gf2_0 dX3_layOut_10 flX3_9 ?_
  refine Go_iconst dX3_layOut_13 ?_
  refine Go_cald dX3_layOut_14 (by first | assumption | rfl) trivial (by omega) (by omega) (by decide) ?_
  refine Go_bipush dX3_layOut_15 (by decide +kernel) ?_
  refine Go_isub dX3_layOut_17 ?_
  rw [show (0 : Int).toNat = 0 from rfl, show (2 : Int).toNat = 2 from rfl]
  refine Go_cS2 (d' := 0) (bc' := 0) (bs' := 0) rfl dX3_layOut_18 msX2_number rfl lkX3_39 (by decide) (by decide) (by decide) (Nat.le_of_ble_eq_true rfl) ?_
  refine e_X2_number (by constructor <;> omega) (by constructor <;> omega) ?_
  rw [eS]
  refine Go_ist3 dX3_layOut_21 rfl ?_
  refine Go_ald2 dX3_layOut_22 ?_
  refine Go_ild3 dX3_layOut_23 ?_
  refine Go_cV1 (d' := 1) (bc' := 0) (bs' := 0) rfl dX3_layOut_24 mvX0_isFree rfl lkX3_45 (by first | assumption | rfl) rfl trivial (by decide) (by decide) (by decide) (Nat.le_of_ble_eq_true rfl) ?_
  refine e_X0_isFree hm h5 (by constructor <;> omega) ?_
  refine Go_ifb_ne (tgt := 32) dX3_layOut_27 (by decide)  (fun h27 => ?_) (fun h27 => by exact absurd q27 h27)
  refine Go_ald1 dX3_layOut_32 ?_
  refine Go_ild3 dX3_layOut_33 ?_
  rw [show wkS tx 0 = (((wkS tx 0).toNat : Nat) : Int) by omega]
  refine Go_cVv1 (d' := 2) (bc' := 0) (bs' := 0) rfl dX3_layOut_34 mvX9_begin rfl lkX3_51 (by first | assumption | rfl) rfl trivial (by decide) (by decide) (by decide) (Nat.le_of_ble_eq_true rfl) ?_
  refine e_X9_begin rfl (fun w1 t1 f1 => ?_)
  refine Go_iconst dX3_layOut_37 ?_
  refine Go_ist4 dX3_layOut_38 rfl ?_
  have o0 : wkA ps tx 1 = true := by
    rw [wkA_succ]
    show (true && _) = true
    rw [Bool.true_and]
    unfold wkOK
    rw [decide_eq_true_eq]
    exact ⟨h27.1, h27.2.2, by simp [wkL], by omega⟩
  refine Go_upTo (n := tx.length - 4) (L := fun i => [some (vr 45), some (vr 47), some (vr 2), some (vi (wkS tx i)), some (vi ((i : Int) + 4))]) (P := fun i v => frm w v [47, 48] ∧ TR v 47 (wkL tx (i + 1)) ∧ wkA ps tx (i + 1) = true) ?_ ⟨f1, t1, o0⟩ (fun i v hi hP kn => ?_) (fun v hP => ?_)
  · rw [show (((wkS tx 0).toNat : Nat) : Int) = wkS tx 0 by omega]; exact (by repeat' (first | exact Or.inl rfl | exact Or.inr rfl | exact Or.inr (lcg (by omega)) | exact trivial | constructor))
  · try dsimp only at hP kn
    try dsimp only
    obtain ⟨f2, t2, o2⟩ := hP
    have tv := h9.frm f2 (by decide) (by decide)
    have mv : MK (v 4) (v 5) ps := by rw [f2 4 (by decide), f2 5 (by decide)]; exact hm
    have v1 := tv.1
    have e4 := tv.2.2.1 (i + 4) (by omega)
    have c4 := hc.at (i + 4)
    have b := wkS_in tx i
    have b1 := wkS_in tx (i + 1)
    have bi := ixI_in (tx.getD (i + 4) 0 : Int)
    have o3 := o2
    rw [wkA_succ] at o3
    have o4 := (Bool.and_eq_true _ _).mp o3
    have o5 := o4.2
    unfold wkOK at o5
    rw [decide_eq_true_eq] at o5
    have eN : nbI (wkS tx i) (ixI (tx.getD (i + 4) 0 : Int)) = wkS tx (i + 1) := rfl
    have bad : ¬ (0 ≤ wkS tx (i + 1) ∧ ow ps (wkS tx (i + 1)).toNat = -1 ∧ (wkS tx (i + 1)).toNat ∉ wkL tx (i + 1) ∧ i + 1 < 60) → wkA ps tx (tx.length - 3) = false := fun q => wkA_false (i := i + 1) (by omega) (by unfold wkOK; rw [decide_eq_false_iff_not]; exact q)
    refine Go_ild4 dX3_layOut_40 ?_
    refine Go_ald0 dX3_layOut_42 ?_
    refine gf2_1 dX3_layOut_43 flX3_15 (by first | assumption | rfl) ?_
    refine Go_icmp_ge (tgt := 102) dX3_layOut_46 (by decide) (by constructor <;> omega) (by constructor <;> omega) (fun h46 => by omega) (fun h46 => ?_)
    refine Go_ild3 dX3_layOut_49 ?_
    refine Go_ldcU dX3_layOut_50 rfl ?_
    refine Go_ald0 dX3_layOut_52 ?_
    refine gf2_0 dX3_layOut_53 flX3_9 ?_
    refine Go_ild4 dX3_layOut_56 ?_
    refine Go_cald dX3_layOut_58 (by first | assumption | rfl) trivial (by omega) (by omega) (by decide) ?_
    rw [show ((i : Int) + 4).toNat = i + 4 by omega, e4]
    refine Go_callT (d' := 3) (as := [vi ((tx.getD (i + 4) 0 : Nat))]) rfl dX3_layOut_59 mvJ0_indexOf_0f7a4 rfl lkX3_33 rfl rfl rfl (Nat.le_of_ble_eq_true rfl) (by decide) ?_
    refine e_J0_indexOf (by omega) (by omega) ?_
    refine Go_cS2 (d' := 1) (bc' := 0) (bs' := 0) rfl dX3_layOut_62 msX2_neighbour rfl lkX3_57 (by decide) (by decide) (by decide) (Nat.le_of_ble_eq_true rfl) ?_
    refine e_X2_neighbour (by omega) (by omega) (by constructor <;> omega) ?_
    rw [eN]
    refine Go_ist3 dX3_layOut_65 rfl ?_
    refine Go_ald2 dX3_layOut_66 ?_
    refine Go_ild3 dX3_layOut_67 ?_
    refine Go_cV1 (d' := 1) (bc' := 0) (bs' := 0) rfl dX3_layOut_68 mvX0_isFree rfl lkX3_45 (by first | assumption | rfl) rfl trivial (by decide) (by decide) (by decide) (Nat.le_of_ble_eq_true rfl) ?_
    refine e_X0_isFree mv h5 (by constructor <;> omega) ?_
    refine Go_ifb_eq (tgt := 89) dX3_layOut_71 (by decide)  (fun h71 => ?_) (fun h71 => ?_)
    · refine Go_iconst dX3_layOut_89 ?_
      refine Go_ireturn dX3_layOut_90 rfl (by first | rfl | decide | simp [narrow]) ?_
      exact kf _ (bad (fun q => by first | exact h71 ⟨q.1, by omega, q.2.1⟩ | exact q.2.2.1 h79 | omega)) f2
    · refine Go_ald1 dX3_layOut_74 ?_
      refine Go_ild3 dX3_layOut_75 ?_
      have eZ : vi (wkS tx (i + 1)) = vi (((wkS tx (i + 1)).toNat : Nat) : Int) := by rw [Int.toNat_of_nonneg h71.1]
      rw [eZ]
      refine Go_cV1 (d' := 0) (bc' := 0) (bs' := 0) rfl dX3_layOut_76 mvX9_covers rfl lkX3_60 (by first | assumption | rfl) rfl trivial (by decide) (by decide) (by decide) (Nat.le_of_ble_eq_true rfl) ?_
      refine e_X9_covers t2 (wkL_LT _ _) (by omega) ?_
      refine Go_ifb_ne (tgt := 89) dX3_layOut_79 (by decide)  (fun h79 => ?_) (fun h79 => ?_)
      · refine Go_iconst dX3_layOut_89 ?_
        refine Go_ireturn dX3_layOut_90 rfl (by first | rfl | decide | simp [narrow]) ?_
        exact kf _ (bad (fun q => by first | exact h71 ⟨q.1, by omega, q.2.1⟩ | exact q.2.2.1 h79 | omega)) f2
      · refine Go_ald1 dX3_layOut_82 ?_
        refine Go_cV0 (d' := 0) (bc' := 0) (bs' := 0) rfl dX3_layOut_83 mvX9_isFull rfl lkX3_63 (by first | assumption | rfl) rfl trivial (by decide) (by decide) (by decide) (Nat.le_of_ble_eq_true rfl) ?_
        refine e_X9_isFull t2 ?_
        rw [wkL_len]
        have hi61 : (wkL tx (i + 1)).length ≤ 60 := t2.2.2.1
        rw [wkL_len] at hi61
        refine Go_ifb_eq (tgt := 91) dX3_layOut_86 (by decide)  (fun h86 => ?_) (fun h86 => ?_)
        · refine Go_ald1 dX3_layOut_91 ?_
          refine Go_ild3 dX3_layOut_92 ?_
          refine Go_cVv1 (d' := 1) (bc' := 0) (bs' := 0) rfl dX3_layOut_93 mvX9_push rfl lkX3_64 (by first | assumption | rfl) rfl trivial (by decide) (by decide) (by decide) (Nat.le_of_ble_eq_true rfl) ?_
          refine e_X9_push t2 (by rw [wkL_len]; omega) (fun w4 t4 f4 => ?_)
          refine Go_inc4 dX3_layOut_96 rfl ?_
          refine Go_goto (tgt := 40) dX3_layOut_99 (by decide) ?_
          rw [← wkL_succ] at t4
          refine Go_forget (ls' := _) ?_ (kn w4 ⟨f2.trans f4 (fun _ h => h), t4, ?_⟩)
          · rw [show (((wkS tx (i + 1)).toNat : Nat) : Int) = wkS tx (i + 1) by omega]; exact (by repeat' (first | exact Or.inl rfl | exact Or.inr rfl | exact Or.inr (lcg (by omega)) | exact trivial | constructor))
          · rw [wkA_succ, o2, Bool.true_and]; unfold wkOK; rw [decide_eq_true_eq]; exact ⟨h71.1, h71.2.2, h79, by omega⟩
        · refine Go_iconst dX3_layOut_89 ?_
          refine Go_ireturn dX3_layOut_90 rfl (by first | rfl | decide | simp [narrow]) ?_
          exact kf _ (bad (fun q => by first | exact h71 ⟨q.1, by omega, q.2.1⟩ | exact q.2.2.1 h79 | omega)) f2
  · try dsimp only at hP
    try dsimp only
    obtain ⟨f2, t2, o2⟩ := hP
    have tv := h9.frm f2 (by decide) (by decide)
    have v1 := tv.1
    rw [show tx.length - 4 + 1 = tx.length - 3 by omega] at t2 o2
    refine Go_ild4 dX3_layOut_40 ?_
    refine Go_ald0 dX3_layOut_42 ?_
    refine gf2_1 dX3_layOut_43 flX3_15 (by first | assumption | rfl) ?_
    refine Go_icmp_ge (tgt := 102) dX3_layOut_46 (by decide) (by constructor <;> omega) (by constructor <;> omega) (fun h46 => ?_) (fun h46 => by omega)
    refine Go_iconst dX3_layOut_102 ?_
    refine Go_ireturn dX3_layOut_103 rfl (by first | rfl | decide | simp [narrow]) ?_
    exact kt _ o2 t2 f2
theorem e_X3_tell {t : Nat} {l : List Nat} (h : TX w tx) (ht : TR w t l) (hl : LT l) (hp : 1 ≤ l.length) (h45 : t + 1 < 45) (k : ∀ w', TX w' (wrT l) → frm w w' [45, 46] → K (vi 0) none w') : Ev G yX3_tell cX3_tell 3 mX3_tell none 4 0 0 [vr 45, vr t] w K X := by
  have b0 := hl.at 0
  have hts1 := ht.1
  have tf : ∀ w', frm w w' [45, 46] → TR w' t l := fun w' f => ht.frm f (by simp; omega) (by simp; omega)
  have h60 := ht.2.2.1
  refine Ev_intro mvX3_tell.1 rfl (fun h => by cases h) (allc1 rfl) (Nat.le_of_ble_eq_true rfl) (Or.inl rfl) ?_
  show Go G cX3_tell mX3_tell none 4 0 0 0 [some (vr 45), some (vr t), none] [] w K X
  refine Go_ald0 dX3_tell_0 ?_
  refine Go_cVv0 (d' := 0) (bc' := 0) (bs' := 0) rfl dX3_tell_1 mvX3_clear rfl lkX3_67 (by first | assumption | rfl) rfl trivial (by decide) (by decide) (by decide) (Nat.le_of_ble_eq_true rfl) ?_
  refine e_X3_clear (fun w1 t1 f1 => ?_)
  have r1 := tf w1 f1
  refine Go_ald0 dX3_tell_4 ?_
  refine Go_bipush dX3_tell_5 (by decide +kernel) ?_
  refine Go_ald1 dX3_tell_7 ?_
  refine Go_cV0 (d' := 2) (bc' := 0) (bs' := 0) rfl dX3_tell_8 mvX9_tail rfl lkX3_70 (by first | assumption | rfl) rfl trivial (by decide) (by decide) (by decide) (Nat.le_of_ble_eq_true rfl) ?_
  refine e_X9_tailN r1 hp ?_
  refine Go_cS1 (d' := 0) (bc' := 0) (bs' := 0) rfl dX3_tell_11 msX2_column rfl lkX3_73 (by decide) (by decide) (by decide) (Nat.le_of_ble_eq_true rfl) ?_
  refine e_X2_column (by omega) (by omega) ?_
  refine Go_iadd dX3_tell_14 ?_
  refine Go_i2c dX3_tell_15 (by omega) (by omega) ?_
  rw [show (48 : Int) + (l.getD 0 0 : Int) % 10 = ((48 + l.getD 0 0 % 10 : Nat) : Int) by omega]
  refine Go_cVv1 (d' := 1) (bc' := 0) (bs' := 0) rfl dX3_tell_16 mvX3_add rfl lkX3_76 (by first | assumption | rfl) rfl trivial (by decide) (by decide) (by decide) (Nat.le_of_ble_eq_true rfl) ?_
  refine e_X3_add t1 (by simp) (by omega) (fun w2 t2 f2 => ?_)
  refine Go_ald0 dX3_tell_19 ?_
  refine Go_bipush dX3_tell_20 (by decide +kernel) ?_
  rw [show (44 : Int) = ((44 : Nat) : Int) by rfl]
  refine Go_cVv1 (d' := 1) (bc' := 0) (bs' := 0) rfl dX3_tell_22 mvX3_add rfl lkX3_76 (by first | assumption | rfl) rfl trivial (by decide) (by decide) (by decide) (Nat.le_of_ble_eq_true rfl) ?_
  refine e_X3_add t2 (by simp) (by omega) (fun w3 t3 f3 => ?_)
  have r3 := tf w3 ((f1.trans f2 (fun _ h => h)).trans f3 (fun _ h => h))
  refine Go_ald0 dX3_tell_25 ?_
  refine Go_bipush dX3_tell_26 (by decide +kernel) ?_
  refine Go_ald1 dX3_tell_28 ?_
  refine Go_cV0 (d' := 2) (bc' := 0) (bs' := 0) rfl dX3_tell_29 mvX9_tail rfl lkX3_70 (by first | assumption | rfl) rfl trivial (by decide) (by decide) (by decide) (Nat.le_of_ble_eq_true rfl) ?_
  refine e_X9_tailN r3 hp ?_
  refine Go_cS1 (d' := 0) (bc' := 0) (bs' := 0) rfl dX3_tell_32 msX2_row rfl lkX3_80 (by decide) (by decide) (by decide) (Nat.le_of_ble_eq_true rfl) ?_
  refine e_X2_row (by omega) (by omega) ?_
  refine Go_iadd dX3_tell_35 ?_
  refine Go_i2c dX3_tell_36 (by omega) (by omega) ?_
  rw [show (48 : Int) + (l.getD 0 0 : Int) / 10 = ((48 + l.getD 0 0 / 10 : Nat) : Int) by omega]
  refine Go_cVv1 (d' := 1) (bc' := 0) (bs' := 0) rfl dX3_tell_37 mvX3_add rfl lkX3_76 (by first | assumption | rfl) rfl trivial (by decide) (by decide) (by decide) (Nat.le_of_ble_eq_true rfl) ?_
  refine e_X3_add t3 (by simp) (by omega) (fun w4 t4 f4 => ?_)
  refine Go_ald0 dX3_tell_40 ?_
  refine Go_bipush dX3_tell_41 (by decide +kernel) ?_
  rw [show (58 : Int) = ((58 : Nat) : Int) by rfl]
  refine Go_cVv1 (d' := 1) (bc' := 0) (bs' := 0) rfl dX3_tell_43 mvX3_add rfl lkX3_76 (by first | assumption | rfl) rfl trivial (by decide) (by decide) (by decide) (Nat.le_of_ble_eq_true rfl) ?_
  refine e_X3_add t4 (by simp) (by omega) (fun w5 t5 f5 => ?_)
  have f9 : frm w w5 [45, 46] := (((f1.trans f2 (fun _ h => h)).trans f3 (fun _ h => h)).trans f4 (fun _ h => h)).trans f5 (fun _ h => h)
  refine Go_iconst dX3_tell_46 ?_
  refine Go_ist2 dX3_tell_47 rfl ?_
  refine Go_upTo (n := l.length - 1) (L := fun i => [some (vr 45), some (vr t), some (vi (i : Int))]) (P := fun i v => TX v ([48 + l.getD 0 0 % 10, 44, 48 + l.getD 0 0 / 10, 58] ++ (List.range i).map fun j => (urdlI (stJ l j).toNat).toNat) ∧ frm w v [45, 46]) (by repeat' (first | exact Or.inl rfl | exact Or.inr rfl | exact Or.inr (lcg (by omega)) | exact trivial | constructor)) (⟨t5, f9⟩) (fun i v hi hP kn => ?_) (fun v hP => ?_)
  · try dsimp only at hP kn
    try dsimp only
    obtain ⟨t6, f6⟩ := hP
    have r6 := tf v f6
    have b := stJ_in l i
    have bu := urdlI_in (stJ l i).toNat (by omega)
    refine Go_ild2 dX3_tell_48 ?_
    refine Go_ald1 dX3_tell_49 ?_
    refine Go_cV0 (d' := 0) (bc' := 0) (bs' := 0) rfl dX3_tell_50 mvX9_steps rfl lkX3_83 (by first | assumption | rfl) rfl trivial (by decide) (by decide) (by decide) (Nat.le_of_ble_eq_true rfl) ?_
    refine e_X9_steps r6 ?_
    refine Go_icmp_ge (tgt := 76) dX3_tell_53 (by decide) (by constructor <;> omega) (by constructor <;> omega) (fun h53 => by omega) (fun h53 => ?_)
    refine Go_ald0 dX3_tell_56 ?_
    refine Go_ldcU dX3_tell_57 rfl ?_
    refine Go_ald1 dX3_tell_59 ?_
    refine Go_ild2 dX3_tell_60 ?_
    refine Go_cV1 (d' := 3) (bc' := 0) (bs' := 0) rfl dX3_tell_61 mvX9_stepAt rfl lkX3_86 (by first | assumption | rfl) rfl trivial (by decide) (by decide) (by decide) (Nat.le_of_ble_eq_true rfl) ?_
    refine e_X9_stepAtN (j := i) r6 hl rfl (by omega) ?_
    refine Go_callT (d' := 3) (as := [vi (stJ l i)]) rfl dX3_tell_64 mvJ0_charAt_5068e rfl lkX3_89 rfl rfl rfl (Nat.le_of_ble_eq_true rfl) (by decide) ?_
    refine e_J0_charAt b.1 b.2 ?_
    rw [show urdlI (stJ l i).toNat = (((urdlI (stJ l i).toNat).toNat : Nat) : Int) by omega]
    refine Go_cVv1 (d' := 1) (bc' := 0) (bs' := 0) rfl dX3_tell_67 mvX3_add rfl lkX3_76 (by first | assumption | rfl) rfl trivial (by decide) (by decide) (by decide) (Nat.le_of_ble_eq_true rfl) ?_
    refine e_X3_add t6 (by simp; omega) (by omega) (fun w7 t7 f7 => ?_)
    refine Go_inc2 dX3_tell_70 rfl ?_
    refine Go_goto (tgt := 48) dX3_tell_73 (by decide) ?_
    refine Go_forget (by repeat' (first | exact Or.inl rfl | exact Or.inr rfl | exact Or.inr (lcg (by omega)) | exact trivial | constructor)) (kn _ ⟨?_, f6.trans f7 (fun _ h => h)⟩)
    rw [List.range_succ, List.map_append]
    rw [List.append_assoc] at t7
    exact t7
  · try dsimp only at hP
    try dsimp only
    obtain ⟨t6, f6⟩ := hP
    have r6 := tf v f6
    refine Go_ild2 dX3_tell_48 ?_
    refine Go_ald1 dX3_tell_49 ?_
    refine Go_cV0 (d' := 0) (bc' := 0) (bs' := 0) rfl dX3_tell_50 mvX9_steps rfl lkX3_83 (by first | assumption | rfl) rfl trivial (by decide) (by decide) (by decide) (Nat.le_of_ble_eq_true rfl) ?_
    refine e_X9_steps r6 ?_
    refine Go_icmp_ge (tgt := 76) dX3_tell_53 (by decide) (by constructor <;> omega) (by constructor <;> omega) (fun h53 => ?_) (fun h53 => by omega)
    refine Go_return dX3_tell_76 rfl ?_
    exact k _ t6 f6
end Text
