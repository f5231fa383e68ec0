/-! THE LAW'S OWN PICTURE: how many sites each path has (cell 68: with the counters), and the sites, four to an int (cell 69) -/
def PA (w : Wd) : Prop := ∀ i, i < 60 → 0 ≤ w 69 i ∧ w 69 i < 268435456
/-- the k-th site of a path -/
def PK (w : Wd) (p k : Nat) : Nat := dgt (w 69 (12 * p + k / 4)).toNat (k % 4)
theorem PK_lt (w : Wd) (p k : Nat) : PK w p k < 128 := dgt_lt _ _
theorem PA.frm {w w' : Wd} {A : List Nat} (h : PA w) (f : frm w w' A) (h1 : 69 ∉ A) : PA w' := fun i hi => by rw [f.at h1]; exact h i hi
theorem PK.frm {w w' : Wd} {A : List Nat} (f : frm w w' A) (h1 : 69 ∉ A) (p k : Nat) : PK w' p k = PK w p k := by unfold PK; rw [f.at h1]
/-- one site is put -/
theorem PK_up {w : Wd} (h : PA w) {p k s : Nat} (hp : p < 5) (hk : k < 48) (hs : s < 128) :
    PA (up w 69 (12 * p + k / 4) ((putD (w 69 (12 * p + k / 4)).toNat (k % 4) s : Nat) : Int)) ∧
    ∀ p' k', PK (up w 69 (12 * p + k / 4) ((putD (w 69 (12 * p + k / 4)).toNat (k % 4) s : Nat) : Int)) p' k' = if 12 * p' + k' / 4 = 12 * p + k / 4 ∧ k' % 4 = k % 4 then s else PK w p' k' := by
  have hx := h (12 * p + k / 4) (by omega)
  have hl := putD_lt (x := (w 69 (12 * p + k / 4)).toNat) (r := k % 4) (s := s) (by omega) (by omega) hs
  refine ⟨fun i hi => ?_, fun p' k' => ?_⟩
  · by_cases c : i = 12 * p + k / 4
    · rw [c, up_s]; omega
    · rw [up_k c]; exact h i hi
  · unfold PK
    by_cases c : 12 * p' + k' / 4 = 12 * p + k / 4
    · rw [c, up_s, Int.toNat_natCast, putD_dgt (by omega) (by omega) hs]
      by_cases c2 : k' % 4 = k % 4
      · rw [if_pos c2, if_pos ⟨rfl, c2⟩]
      · rw [if_neg c2, if_neg (fun z => c2 z.2)]
    · rw [up_k c, if_neg (fun z => c z.1)]
/-- a free site, or the path and the place of it -/
def whI (ps : List (List Nat)) (z : Nat) : Int := if ow ps z = -1 then -1 else 100 * ow ps z + plc ps z
/-- the arrays hold these paths -/
def RP (w : Wd) (ps : List (List Nat)) : Prop := PA w ∧ w 68 5 = (ps.length : Int) ∧ ∀ p, p < ps.length → w 68 p = ((pth ps p).length : Int) ∧ (pth ps p).length ≤ 48 ∧ ∀ k, k < (pth ps p).length → PK w p k = (pth ps p).getD k 0
theorem RP.frm {w w' : Wd} {ps : List (List Nat)} {A : List Nat} (h : RP w ps) (f : frm w w' A) (h1 : 68 ∉ A) (h2 : 69 ∉ A) : RP w' ps :=
  ⟨h.1.frm f h2, by rw [f.at h1]; exact h.2.1, fun p hp => ⟨by rw [f.at h1]; exact (h.2.2 p hp).1, (h.2.2 p hp).2.1, fun k hk => by rw [PK.frm f h2]; exact (h.2.2 p hp).2.2 k hk⟩⟩
theorem nbI_go {s d : Nat} (hs : s < 100) (hd : d < 4) : nbI s d = if (d : Int) = 0 then (if (s : Int) < 10 then -1 else (s : Int) - 10) else if (d : Int) = 1 then (if (s : Int) % 10 = 9 then -1 else (s : Int) + 1) else if (d : Int) = 2 then (if 89 < (s : Int) then -1 else (s : Int) + 10) else if (s : Int) % 10 = 0 then -1 else (s : Int) - 1 := by
  have key : ∀ s : Nat, s < 100 → ∀ d : Nat, d < 4 → nbI (s : Int) (d : Int) = if (d : Int) = 0 then (if (s : Int) < 10 then -1 else (s : Int) - 10) else if (d : Int) = 1 then (if (s : Int) % 10 = 9 then -1 else (s : Int) + 1) else if (d : Int) = 2 then (if 89 < (s : Int) then -1 else (s : Int) + 10) else if (s : Int) % 10 = 0 then -1 else (s : Int) - 1 := by decide +kernel
  exact key s hs d hd
theorem whI_in {ps : List (List Nat)} (h : OKp ps) (z : Nat) : -1 ≤ whI ps z ∧ whI ps z < 500 := by
  have a := ow_in ps z
  have b := h.plc z
  have c := h.1
  rcases ow_cases h.nd z with ⟨-, e1, e2⟩ | ⟨p, hp, -, e1, e2⟩
  · unfold whI; rw [if_pos e1]; omega
  · unfold whI; split <;> omega
theorem whI_dec {ps : List (List Nat)} (h : OKp ps) (z : Nat) : (whI ps z < 0 ↔ ow ps z = -1) ∧ (0 ≤ whI ps z → whI ps z / 100 = ow ps z ∧ whI ps z % 100 = plc ps z) := by
  have a := ow_in ps z
  have b := h.plc z
  rcases ow_cases h.nd z with ⟨-, e1, e2⟩ | ⟨p, hp, -, e1, e2⟩
  · unfold whI; rw [if_pos e1]; omega
  · unfold whI; rw [if_neg (by omega)]; omega
section Small
variable {G : Gm} {w : Wd} {K : Kt} {X : Xt} {ps : List (List Nat)}
theorem e_L_cell {z : Int} (hz : 0 ≤ z) (hz2 : z < 1000) (hL : GL G ≤ 260) (k : ∀ v, inR v → K (vi v) none w) : Ev G yL_cell cL_cell 2 mL_cell none 0 0 0 [vr 1000, vi z] w K X := by
  refine Ev_intro msL_cell.1 rfl (fun h => by cases h) (allc1 rfl) (Nat.le_of_ble_eq_true rfl) (Or.inl rfl) ?_
  show Go G cL_cell mL_cell none 0 0 0 0 [some (vr 1000), some (vi z)] [] w K X
  by_cases c : z < GL G
  · skip
    refine Go_ild1 dL_cell_0 ?_
    refine Go_ald0 dL_cell_1 ?_
    refine Go_xlen dL_cell_2 ?_
    refine Go_icmp_ge (tgt := 12) dL_cell_3 (by decide) (by constructor <;> omega) (by constructor <;> omega) (fun h3 => by omega) (fun h3 => ?_)
    refine Go_ald0 dL_cell_6 ?_
    refine Go_ild1 dL_cell_7 ?_
    refine Go_xld (j := z.toNat) dL_cell_8 (by omega) (by omega) (by omega) ?_
    refine Go_goto (tgt := 22) dL_cell_9 (by decide) ?_
    refine Go_ireturn dL_cell_22 rfl (by first | rfl | decide | exact nar_b | simp [narrow]) ?_
    exact k _ (sx_in G _)
  · skip
    refine Go_ild1 dL_cell_0 ?_
    refine Go_ald0 dL_cell_1 ?_
    refine Go_xlen dL_cell_2 ?_
    refine Go_icmp_ge (tgt := 12) dL_cell_3 (by decide) (by constructor <;> omega) (by constructor <;> omega) (fun h3 => ?_) (fun h3 => by omega)
    refine Go_ldcI (z := 43787) dL_cell_12 (by decide) ciL_7 ?_
    refine Go_ild1 dL_cell_14 ?_
    refine Go_bipush dL_cell_15 (by decide +kernel) ?_
    refine Go_iadd dL_cell_17 ?_
    refine Go_imul dL_cell_18 ?_
    refine Go_ldcI (z := 2466291) dL_cell_19 (by decide) ciL_8 ?_
    refine Go_iadd dL_cell_21 ?_
    refine Go_ireturn dL_cell_22 rfl (by first | rfl | decide | exact nar_b | simp [narrow]) ?_
    exact k _ (by constructor <;> omega)
theorem e_L_low {v n : Int} (hn : 0 < n) (hn2 : n < 2147483648) (k : ∀ j : Nat, (j : Int) < n → K (vi j) none w) : Ev G yL_low cL_low 2 mL_low none 0 0 0 [vi v, vi n] w K X := by
  refine Ev_intro msL_low.1 rfl (fun h => by cases h) (allc1 rfl) (Nat.le_of_ble_eq_true rfl) (Or.inl rfl) ?_
  show Go G cL_low mL_low none 0 0 0 0 [some (vi v), some (vi n)] [] w K X
  refine Go_ild0 dL_low_0 ?_
  refine Go_ldcI (z := 2147483647) dL_low_1 (by decide) ciL_9 ?_
  refine Go_iand31 dL_low_3 (fun j hj => ?_)
  refine Go_ild1 dL_low_4 ?_
  refine Go_irem dL_low_5 (by omega) (by omega) (by omega) (by omega) ?_
  refine Go_ireturn dL_low_6 rfl (by first | rfl | decide | exact nar_b | simp [narrow]) ?_
  have e : (j : Int) % n = (((j : Int) % n).toNat : Int) := by have := Int.emod_nonneg (j : Int) (show n ≠ 0 by omega); omega
  rw [e]
  exact k _ (by rw [← e]; exact Int.emod_lt_of_pos _ hn)
theorem e_L_at {p j : Nat} (h : PA w) (hp : p < 5) (hj : j < 48) (k : K (vi (PK w p j : Int)) none w) : Ev G yL_at cL_at 3 mL_at none 0 0 0 [vi (p : Int), vi (j : Int), vr 69] w K X := by
  have hx := h (12 * p + j / 4) (by omega)
  have he : w 69 ((12 * (p : Int) + (j : Int) / 4)).toNat = (((w 69 (12 * p + j / 4)).toNat : Nat) : Int) := by
    rw [show (12 * (p : Int) + (j : Int) / 4).toNat = 12 * p + j / 4 by omega]
    omega
  have hd : (w 69 (12 * p + j / 4)).toNat / 2 ^ (7 * (j % 4)) < 268435456 := Nat.lt_of_le_of_lt (Nat.div_le_self _ _) (by omega)
  refine Ev_intro msL_at.1 rfl (fun h => by cases h) (allc1 rfl) (Nat.le_of_ble_eq_true rfl) (Or.inl rfl) ?_
  show Go G cL_at mL_at none 0 0 0 0 [some (vi (p : Int)), some (vi (j : Int)), some (vr 69)] [] w K X
  refine Go_ald2 dL_at_0 ?_
  refine Go_bipush dL_at_1 (by decide +kernel) ?_
  refine Go_ild0 dL_at_3 ?_
  refine Go_imul dL_at_4 ?_
  refine Go_ild1 dL_at_5 ?_
  refine Go_iconst dL_at_6 ?_
  refine Go_idiv dL_at_7 (by omega) (by omega) (by omega) (by omega) ?_
  refine Go_iadd dL_at_8 ?_
  refine Go_iald dL_at_9 (by first | assumption | rfl) trivial (by omega) (by omega) (by decide) ?_
  rw [he]
  refine Go_bipush dL_at_10 (by decide +kernel) ?_
  refine Go_ild1 dL_at_12 ?_
  refine Go_iconst dL_at_13 ?_
  refine Go_irem dL_at_14 (by omega) (by omega) (by omega) (by omega) ?_
  refine Go_imul dL_at_15 ?_
  refine Go_ishr7 (r := j % 4) dL_at_16 (by omega) (by omega) (by omega) ?_
  refine Go_bipush dL_at_17 (by decide +kernel) ?_
  refine Go_iand127 dL_at_19 hd ?_
  refine Go_ireturn dL_at_20 rfl (by first | rfl | decide | exact nar_b | simp [narrow]) ?_
  exact k
theorem e_L_puts {p j s : Nat} (h : PA w) (hp : p < 5) (hj : j < 48) (hs : s < 128) (k : ∀ w', PA w' → frm w w' [69] → (∀ p' k', p' < 5 → k' < 48 → PK w' p' k' = if p' = p ∧ k' = j then s else PK w p' k') → K (vi 0) none w') : Ev G yL_puts cL_puts 5 mL_puts none 0 0 0 [vi (p : Int), vi (j : Int), vi (s : Int), vr 69] w K X := by
  have hx := h (12 * p + j / 4) (by omega)
  have he : w 69 ((12 * (p : Int) + (j : Int) / 4)).toNat = (((w 69 (12 * p + j / 4)).toNat : Nat) : Int) := by
    rw [show (12 * (p : Int) + (j : Int) / 4).toNat = 12 * p + j / 4 by omega]
    omega
  have kp := PK_up h hp hj hs
  refine Ev_intro msL_puts.1 rfl (fun h => by cases h) (allc1 rfl) (Nat.le_of_ble_eq_true rfl) (Or.inl rfl) ?_
  show Go G cL_puts mL_puts none 0 0 0 0 [some (vi (p : Int)), some (vi (j : Int)), some (vi (s : Int)), some (vr 69), none] [] w K X
  refine Go_bipush dL_puts_0 (by decide +kernel) ?_
  refine Go_ild0 dL_puts_2 ?_
  refine Go_imul dL_puts_3 ?_
  refine Go_ild1 dL_puts_4 ?_
  refine Go_iconst dL_puts_5 ?_
  refine Go_idiv dL_puts_6 (by omega) (by omega) (by omega) (by omega) ?_
  refine Go_iadd dL_puts_7 ?_
  refine Go_ist4 dL_puts_8 rfl ?_
  refine Go_ald3 dL_puts_10 ?_
  refine Go_ild4 dL_puts_11 ?_
  refine Go_ald3 dL_puts_13 ?_
  refine Go_ild4 dL_puts_14 ?_
  refine Go_iald dL_puts_16 (by first | assumption | rfl) trivial (by omega) (by omega) (by decide) ?_
  rw [he]
  refine Go_bipush dL_puts_17 (by decide +kernel) ?_
  refine Go_bipush dL_puts_19 (by decide +kernel) ?_
  refine Go_ild1 dL_puts_21 ?_
  refine Go_iconst dL_puts_22 ?_
  refine Go_irem dL_puts_23 (by omega) (by omega) (by omega) (by omega) ?_
  refine Go_imul dL_puts_24 ?_
  refine Go_ishl7 (x := 127) (r := j % 4) dL_puts_25 (by omega) (by omega) (by omega) ?_
  refine Go_iconst dL_puts_26 ?_
  refine Go_ixorM dL_puts_27 ?_
  refine Go_iandM (r := j % 4) dL_puts_28 (by omega) (by omega) rfl ?_
  refine Go_ild2 dL_puts_29 ?_
  refine Go_bipush dL_puts_30 (by decide +kernel) ?_
  refine Go_ild1 dL_puts_32 ?_
  refine Go_iconst dL_puts_33 ?_
  refine Go_irem dL_puts_34 (by omega) (by omega) (by omega) (by omega) ?_
  refine Go_imul dL_puts_35 ?_
  refine Go_ishl7 (r := j % 4) dL_puts_36 hs (by omega) (by omega) ?_
  refine Go_ior dL_puts_37 ?_
  refine Go_iast dL_puts_38 (by first | assumption | rfl) trivial (by omega) (by omega) (by decide) ?_
  refine Go_return dL_puts_39 rfl ?_
  rw [show (12 * (p : Int) + (j : Int) / 4).toNat = 12 * p + j / 4 by omega]
  refine k _ kp.1 (frm.rfl.up (by simp)) (fun p' k' hp' hk' => ?_)
  have e := kp.2 p' k'
  refine e.trans ?_
  by_cases c : p' = p ∧ k' = j
  · rw [if_pos c, if_pos (by omega)]
  · rw [if_neg c, if_neg (by omega)]
theorem e_L_go {s d : Nat} (hs : s < 100) (hd : d < 4) (k : K (vi (nbI s d)) none w) : Ev G yL_go cL_go 2 mL_go none 0 0 0 [vi (s : Int), vi (d : Int)] w K X := by
  have e := nbI_go hs hd
  refine Ev_intro msL_go.1 rfl (fun h => by cases h) (allc1 rfl) (Nat.le_of_ble_eq_true rfl) (Or.inl rfl) ?_
  show Go G cL_go mL_go none 0 0 0 0 [some (vi (s : Int)), some (vi (d : Int))] [] w K X
  refine Go_ild1 dL_go_0 ?_
  refine Go_if_ne (tgt := 19) dL_go_1 (by decide) (by constructor <;> omega) (fun h1 => ?_) (fun h1 => ?_)
  · refine Go_ild1 dL_go_19 ?_
    refine Go_iconst dL_go_20 ?_
    refine Go_icmp_ne (tgt := 41) dL_go_21 (by decide) (by constructor <;> omega) (by constructor <;> omega) (fun h21 => ?_) (fun h21 => ?_)
    · refine Go_ild1 dL_go_41 ?_
      refine Go_iconst dL_go_42 ?_
      refine Go_icmp_ne (tgt := 63) dL_go_43 (by decide) (by constructor <;> omega) (by constructor <;> omega) (fun h43 => ?_) (fun h43 => ?_)
      · refine Go_ild0 dL_go_63 ?_
        refine Go_bipush dL_go_64 (by decide +kernel) ?_
        refine Go_irem dL_go_66 (by omega) (by omega) (by omega) (by omega) ?_
        refine Go_if_ne (tgt := 74) dL_go_67 (by decide) (by constructor <;> omega) (fun h67 => ?_) (fun h67 => ?_)
        · refine Go_ild0 dL_go_74 ?_
          refine Go_iconst dL_go_75 ?_
          refine Go_isub dL_go_76 ?_
          refine Go_ireturn dL_go_77 rfl (by first | rfl | decide | exact nar_b | simp [narrow]) ?_
          exact kI (by rw [e]; (repeat' split) <;> omega) k
        · refine Go_iconst dL_go_70 ?_
          refine Go_goto (tgt := 77) dL_go_71 (by decide) ?_
          refine Go_ireturn dL_go_77 rfl (by first | rfl | decide | exact nar_b | simp [narrow]) ?_
          exact kI (by rw [e]; (repeat' split) <;> omega) k
      · refine Go_ild0 dL_go_46 ?_
        refine Go_bipush dL_go_47 (by decide +kernel) ?_
        refine Go_icmp_le (tgt := 56) dL_go_49 (by decide) (by constructor <;> omega) (by constructor <;> omega) (fun h49 => ?_) (fun h49 => ?_)
        · refine Go_ild0 dL_go_56 ?_
          refine Go_bipush dL_go_57 (by decide +kernel) ?_
          refine Go_iadd dL_go_59 ?_
          refine Go_goto (tgt := 77) dL_go_60 (by decide) ?_
          refine Go_ireturn dL_go_77 rfl (by first | rfl | decide | exact nar_b | simp [narrow]) ?_
          exact kI (by rw [e]; (repeat' split) <;> omega) k
        · refine Go_iconst dL_go_52 ?_
          refine Go_goto (tgt := 77) dL_go_53 (by decide) ?_
          refine Go_ireturn dL_go_77 rfl (by first | rfl | decide | exact nar_b | simp [narrow]) ?_
          exact kI (by rw [e]; (repeat' split) <;> omega) k
    · refine Go_ild0 dL_go_24 ?_
      refine Go_bipush dL_go_25 (by decide +kernel) ?_
      refine Go_irem dL_go_27 (by omega) (by omega) (by omega) (by omega) ?_
      refine Go_bipush dL_go_28 (by decide +kernel) ?_
      refine Go_icmp_ne (tgt := 37) dL_go_30 (by decide) (by constructor <;> omega) (by constructor <;> omega) (fun h30 => ?_) (fun h30 => ?_)
      · refine Go_ild0 dL_go_37 ?_
        refine Go_iconst dL_go_38 ?_
        refine Go_iadd dL_go_39 ?_
        refine Go_ireturn dL_go_40 rfl (by first | rfl | decide | exact nar_b | simp [narrow]) ?_
        exact kI (by rw [e]; (repeat' split) <;> omega) k
      · refine Go_iconst dL_go_33 ?_
        refine Go_goto (tgt := 40) dL_go_34 (by decide) ?_
        refine Go_ireturn dL_go_40 rfl (by first | rfl | decide | exact nar_b | simp [narrow]) ?_
        exact kI (by rw [e]; (repeat' split) <;> omega) k
  · refine Go_ild0 dL_go_4 ?_
    refine Go_bipush dL_go_5 (by decide +kernel) ?_
    refine Go_icmp_ge (tgt := 14) dL_go_7 (by decide) (by constructor <;> omega) (by constructor <;> omega) (fun h7 => ?_) (fun h7 => ?_)
    · refine Go_ild0 dL_go_14 ?_
      refine Go_bipush dL_go_15 (by decide +kernel) ?_
      refine Go_isub dL_go_17 ?_
      refine Go_ireturn dL_go_18 rfl (by first | rfl | decide | exact nar_b | simp [narrow]) ?_
      exact kI (by rw [e]; (repeat' split) <;> omega) k
    · refine Go_iconst dL_go_10 ?_
      refine Go_goto (tgt := 18) dL_go_11 (by decide) ?_
      refine Go_ireturn dL_go_18 rfl (by first | rfl | decide | exact nar_b | simp [narrow]) ?_
      exact kI (by rw [e]; (repeat' split) <;> omega) k
theorem e_L_turned {s t q : Nat} (hs : s < 100) (ht : t < 100) (h1 : 1 ≤ q) (h3 : q ≤ 3) (k : K (vi (swI s t q)) none w) : Ev G yL_turned cL_turned 7 mL_turned none 0 0 0 [vi (s : Int), vi (t : Int), vi (q : Int)] w K X := by
  have r := rcN_c ((s : Int) % 10 - (t : Int) % 10) ((s : Int) / 10 - (t : Int) / 10)
  have q3 : q = 1 ∨ q = 2 ∨ q = 3 := by omega
  refine Ev_intro msL_turned.1 rfl (fun h => by cases h) (allc1 rfl) (Nat.le_of_ble_eq_true rfl) (Or.inl rfl) ?_
  show Go G cL_turned mL_turned none 0 0 0 0 [some (vi (s : Int)), some (vi (t : Int)), some (vi (q : Int)), none, none, none, none] [] w K X
  rcases q3 with rfl | rfl | rfl
  · have e : swI s t 1 = numI ((t : Int) % 10 + -((s : Int) / 10 - (t : Int) / 10)) ((t : Int) / 10 + ((s : Int) % 10 - (t : Int) % 10)) := by unfold swI; rw [r.2.1]
    unfold numI at e
    refine Go_ild0 dL_turned_0 ?_
    refine Go_bipush dL_turned_1 (by decide +kernel) ?_
    refine Go_irem dL_turned_3 (by omega) (by omega) (by omega) (by omega) ?_
    refine Go_ild1 dL_turned_4 ?_
    refine Go_bipush dL_turned_5 (by decide +kernel) ?_
    refine Go_irem dL_turned_7 (by omega) (by omega) (by omega) (by omega) ?_
    refine Go_isub dL_turned_8 ?_
    refine Go_ist3 dL_turned_9 rfl ?_
    refine Go_ild0 dL_turned_10 ?_
    refine Go_bipush dL_turned_11 (by decide +kernel) ?_
    refine Go_idiv dL_turned_13 (by omega) (by omega) (by omega) (by omega) ?_
    refine Go_ild1 dL_turned_14 ?_
    refine Go_bipush dL_turned_15 (by decide +kernel) ?_
    refine Go_idiv dL_turned_17 (by omega) (by omega) (by omega) (by omega) ?_
    refine Go_isub dL_turned_18 ?_
    refine Go_ist4 dL_turned_19 rfl ?_
    refine Go_ild1 dL_turned_21 ?_
    refine Go_bipush dL_turned_22 (by decide +kernel) ?_
    refine Go_irem dL_turned_24 (by omega) (by omega) (by omega) (by omega) ?_
    refine Go_ild2 dL_turned_25 ?_
    refine Go_iconst dL_turned_26 ?_
    refine Go_icmp_ne (tgt := 36) dL_turned_27 (by decide) (by constructor <;> omega) (by constructor <;> omega) (fun h27 => by omega) (fun h27 => ?_)
    refine Go_ild4 dL_turned_30 ?_
    refine Go_ineg dL_turned_32 ?_
    refine Go_goto (tgt := 48) dL_turned_33 (by decide) ?_
    refine Go_iadd dL_turned_48 ?_
    refine Go_ist5 dL_turned_49 rfl ?_
    refine Go_ild1 dL_turned_51 ?_
    refine Go_bipush dL_turned_52 (by decide +kernel) ?_
    refine Go_idiv dL_turned_54 (by omega) (by omega) (by omega) (by omega) ?_
    refine Go_ild2 dL_turned_55 ?_
    refine Go_iconst dL_turned_56 ?_
    refine Go_icmp_ne (tgt := 64) dL_turned_57 (by decide) (by constructor <;> omega) (by constructor <;> omega) (fun h57 => ?_) (fun h57 => ?_)
    · refine Go_ild2 dL_turned_64 ?_
      refine Go_iconst dL_turned_65 ?_
      refine Go_icmp_ne (tgt := 75) dL_turned_66 (by decide) (by constructor <;> omega) (by constructor <;> omega) (fun h66 => ?_) (fun h66 => ?_)
      · refine Go_ild3 dL_turned_75 ?_
        refine Go_ineg dL_turned_76 ?_
        refine Go_iadd dL_turned_77 ?_
        refine Go_ist6 dL_turned_78 rfl ?_
        refine Go_ild5 dL_turned_80 ?_
        refine Go_if_lt (tgt := 104) dL_turned_82 (by decide) (by constructor <;> omega) (fun h82 => ?_) (fun h82 => ?_)
        · refine Go_iconst dL_turned_104 ?_
          refine Go_goto (tgt := 116) dL_turned_105 (by decide) ?_
          refine Go_ireturn dL_turned_116 rfl (by first | rfl | decide | exact nar_b | simp [narrow]) ?_
          exact kI (by rw [e]; split <;> omega) k
        · refine Go_ild5 dL_turned_85 ?_
          refine Go_bipush dL_turned_87 (by decide +kernel) ?_
          refine Go_icmp_gt (tgt := 104) dL_turned_89 (by decide) (by constructor <;> omega) (by constructor <;> omega) (fun h89 => ?_) (fun h89 => ?_)
          · refine Go_iconst dL_turned_104 ?_
            refine Go_goto (tgt := 116) dL_turned_105 (by decide) ?_
            refine Go_ireturn dL_turned_116 rfl (by first | rfl | decide | exact nar_b | simp [narrow]) ?_
            exact kI (by rw [e]; split <;> omega) k
          · refine Go_ild6 dL_turned_92 ?_
            refine Go_if_lt (tgt := 104) dL_turned_94 (by decide) (by constructor <;> omega) (fun h94 => ?_) (fun h94 => ?_)
            · refine Go_iconst dL_turned_104 ?_
              refine Go_goto (tgt := 116) dL_turned_105 (by decide) ?_
              refine Go_ireturn dL_turned_116 rfl (by first | rfl | decide | exact nar_b | simp [narrow]) ?_
              exact kI (by rw [e]; split <;> omega) k
            · refine Go_ild6 dL_turned_97 ?_
              refine Go_bipush dL_turned_99 (by decide +kernel) ?_
              refine Go_icmp_le (tgt := 108) dL_turned_101 (by decide) (by constructor <;> omega) (by constructor <;> omega) (fun h101 => ?_) (fun h101 => ?_)
              · refine Go_bipush dL_turned_108 (by decide +kernel) ?_
                refine Go_ild6 dL_turned_110 ?_
                refine Go_imul dL_turned_112 ?_
                refine Go_ild5 dL_turned_113 ?_
                refine Go_iadd dL_turned_115 ?_
                refine Go_ireturn dL_turned_116 rfl (by first | rfl | decide | exact nar_b | simp [narrow]) ?_
                exact kI (by rw [e]; split <;> omega) k
              · refine Go_iconst dL_turned_104 ?_
                refine Go_goto (tgt := 116) dL_turned_105 (by decide) ?_
                refine Go_ireturn dL_turned_116 rfl (by first | rfl | decide | exact nar_b | simp [narrow]) ?_
                exact kI (by rw [e]; split <;> omega) k
      · refine Go_ild4 dL_turned_69 ?_
        refine Go_ineg dL_turned_71 ?_
        refine Go_goto (tgt := 77) dL_turned_72 (by decide) ?_
        refine Go_iadd dL_turned_77 ?_
        refine Go_ist6 dL_turned_78 rfl ?_
        refine Go_ild5 dL_turned_80 ?_
        refine Go_if_lt (tgt := 104) dL_turned_82 (by decide) (by constructor <;> omega) (fun h82 => ?_) (fun h82 => ?_)
        · refine Go_iconst dL_turned_104 ?_
          refine Go_goto (tgt := 116) dL_turned_105 (by decide) ?_
          refine Go_ireturn dL_turned_116 rfl (by first | rfl | decide | exact nar_b | simp [narrow]) ?_
          exact kI (by rw [e]; split <;> omega) k
        · refine Go_ild5 dL_turned_85 ?_
          refine Go_bipush dL_turned_87 (by decide +kernel) ?_
          refine Go_icmp_gt (tgt := 104) dL_turned_89 (by decide) (by constructor <;> omega) (by constructor <;> omega) (fun h89 => ?_) (fun h89 => ?_)
          · refine Go_iconst dL_turned_104 ?_
            refine Go_goto (tgt := 116) dL_turned_105 (by decide) ?_
            refine Go_ireturn dL_turned_116 rfl (by first | rfl | decide | exact nar_b | simp [narrow]) ?_
            exact kI (by rw [e]; split <;> omega) k
          · refine Go_ild6 dL_turned_92 ?_
            refine Go_if_lt (tgt := 104) dL_turned_94 (by decide) (by constructor <;> omega) (fun h94 => ?_) (fun h94 => ?_)
            · refine Go_iconst dL_turned_104 ?_
              refine Go_goto (tgt := 116) dL_turned_105 (by decide) ?_
              refine Go_ireturn dL_turned_116 rfl (by first | rfl | decide | exact nar_b | simp [narrow]) ?_
              exact kI (by rw [e]; split <;> omega) k
            · refine Go_ild6 dL_turned_97 ?_
              refine Go_bipush dL_turned_99 (by decide +kernel) ?_
              refine Go_icmp_le (tgt := 108) dL_turned_101 (by decide) (by constructor <;> omega) (by constructor <;> omega) (fun h101 => ?_) (fun h101 => ?_)
              · refine Go_bipush dL_turned_108 (by decide +kernel) ?_
                refine Go_ild6 dL_turned_110 ?_
                refine Go_imul dL_turned_112 ?_
                refine Go_ild5 dL_turned_113 ?_
                refine Go_iadd dL_turned_115 ?_
                refine Go_ireturn dL_turned_116 rfl (by first | rfl | decide | exact nar_b | simp [narrow]) ?_
                exact kI (by rw [e]; split <;> omega) k
              · refine Go_iconst dL_turned_104 ?_
                refine Go_goto (tgt := 116) dL_turned_105 (by decide) ?_
                refine Go_ireturn dL_turned_116 rfl (by first | rfl | decide | exact nar_b | simp [narrow]) ?_
                exact kI (by rw [e]; split <;> omega) k
    · refine Go_ild3 dL_turned_60 ?_
      refine Go_goto (tgt := 77) dL_turned_61 (by decide) ?_
      refine Go_iadd dL_turned_77 ?_
      refine Go_ist6 dL_turned_78 rfl ?_
      refine Go_ild5 dL_turned_80 ?_
      refine Go_if_lt (tgt := 104) dL_turned_82 (by decide) (by constructor <;> omega) (fun h82 => ?_) (fun h82 => ?_)
      · refine Go_iconst dL_turned_104 ?_
        refine Go_goto (tgt := 116) dL_turned_105 (by decide) ?_
        refine Go_ireturn dL_turned_116 rfl (by first | rfl | decide | exact nar_b | simp [narrow]) ?_
        exact kI (by rw [e]; split <;> omega) k
      · refine Go_ild5 dL_turned_85 ?_
        refine Go_bipush dL_turned_87 (by decide +kernel) ?_
        refine Go_icmp_gt (tgt := 104) dL_turned_89 (by decide) (by constructor <;> omega) (by constructor <;> omega) (fun h89 => ?_) (fun h89 => ?_)
        · refine Go_iconst dL_turned_104 ?_
          refine Go_goto (tgt := 116) dL_turned_105 (by decide) ?_
          refine Go_ireturn dL_turned_116 rfl (by first | rfl | decide | exact nar_b | simp [narrow]) ?_
          exact kI (by rw [e]; split <;> omega) k
        · refine Go_ild6 dL_turned_92 ?_
          refine Go_if_lt (tgt := 104) dL_turned_94 (by decide) (by constructor <;> omega) (fun h94 => ?_) (fun h94 => ?_)
          · refine Go_iconst dL_turned_104 ?_
            refine Go_goto (tgt := 116) dL_turned_105 (by decide) ?_
            refine Go_ireturn dL_turned_116 rfl (by first | rfl | decide | exact nar_b | simp [narrow]) ?_
            exact kI (by rw [e]; split <;> omega) k
          · refine Go_ild6 dL_turned_97 ?_
            refine Go_bipush dL_turned_99 (by decide +kernel) ?_
            refine Go_icmp_le (tgt := 108) dL_turned_101 (by decide) (by constructor <;> omega) (by constructor <;> omega) (fun h101 => ?_) (fun h101 => ?_)
            · refine Go_bipush dL_turned_108 (by decide +kernel) ?_
              refine Go_ild6 dL_turned_110 ?_
              refine Go_imul dL_turned_112 ?_
              refine Go_ild5 dL_turned_113 ?_
              refine Go_iadd dL_turned_115 ?_
              refine Go_ireturn dL_turned_116 rfl (by first | rfl | decide | exact nar_b | simp [narrow]) ?_
              exact kI (by rw [e]; split <;> omega) k
            · refine Go_iconst dL_turned_104 ?_
              refine Go_goto (tgt := 116) dL_turned_105 (by decide) ?_
              refine Go_ireturn dL_turned_116 rfl (by first | rfl | decide | exact nar_b | simp [narrow]) ?_
              exact kI (by rw [e]; split <;> omega) k
  · have e : swI s t 2 = numI ((t : Int) % 10 + -((s : Int) % 10 - (t : Int) % 10)) ((t : Int) / 10 + -((s : Int) / 10 - (t : Int) / 10)) := by unfold swI; rw [r.2.2.1]
    unfold numI at e
    refine Go_ild0 dL_turned_0 ?_
    refine Go_bipush dL_turned_1 (by decide +kernel) ?_
    refine Go_irem dL_turned_3 (by omega) (by omega) (by omega) (by omega) ?_
    refine Go_ild1 dL_turned_4 ?_
    refine Go_bipush dL_turned_5 (by decide +kernel) ?_
    refine Go_irem dL_turned_7 (by omega) (by omega) (by omega) (by omega) ?_
    refine Go_isub dL_turned_8 ?_
    refine Go_ist3 dL_turned_9 rfl ?_
    refine Go_ild0 dL_turned_10 ?_
    refine Go_bipush dL_turned_11 (by decide +kernel) ?_
    refine Go_idiv dL_turned_13 (by omega) (by omega) (by omega) (by omega) ?_
    refine Go_ild1 dL_turned_14 ?_
    refine Go_bipush dL_turned_15 (by decide +kernel) ?_
    refine Go_idiv dL_turned_17 (by omega) (by omega) (by omega) (by omega) ?_
    refine Go_isub dL_turned_18 ?_
    refine Go_ist4 dL_turned_19 rfl ?_
    refine Go_ild1 dL_turned_21 ?_
    refine Go_bipush dL_turned_22 (by decide +kernel) ?_
    refine Go_irem dL_turned_24 (by omega) (by omega) (by omega) (by omega) ?_
    refine Go_ild2 dL_turned_25 ?_
    refine Go_iconst dL_turned_26 ?_
    refine Go_icmp_ne (tgt := 36) dL_turned_27 (by decide) (by constructor <;> omega) (by constructor <;> omega) (fun h27 => ?_) (fun h27 => by omega)
    refine Go_ild2 dL_turned_36 ?_
    refine Go_iconst dL_turned_37 ?_
    refine Go_icmp_ne (tgt := 46) dL_turned_38 (by decide) (by constructor <;> omega) (by constructor <;> omega) (fun h38 => by omega) (fun h38 => ?_)
    refine Go_ild3 dL_turned_41 ?_
    refine Go_ineg dL_turned_42 ?_
    refine Go_goto (tgt := 48) dL_turned_43 (by decide) ?_
    refine Go_iadd dL_turned_48 ?_
    refine Go_ist5 dL_turned_49 rfl ?_
    refine Go_ild1 dL_turned_51 ?_
    refine Go_bipush dL_turned_52 (by decide +kernel) ?_
    refine Go_idiv dL_turned_54 (by omega) (by omega) (by omega) (by omega) ?_
    refine Go_ild2 dL_turned_55 ?_
    refine Go_iconst dL_turned_56 ?_
    refine Go_icmp_ne (tgt := 64) dL_turned_57 (by decide) (by constructor <;> omega) (by constructor <;> omega) (fun h57 => ?_) (fun h57 => ?_)
    · refine Go_ild2 dL_turned_64 ?_
      refine Go_iconst dL_turned_65 ?_
      refine Go_icmp_ne (tgt := 75) dL_turned_66 (by decide) (by constructor <;> omega) (by constructor <;> omega) (fun h66 => by omega) (fun h66 => ?_)
      refine Go_ild4 dL_turned_69 ?_
      refine Go_ineg dL_turned_71 ?_
      refine Go_goto (tgt := 77) dL_turned_72 (by decide) ?_
      refine Go_iadd dL_turned_77 ?_
      refine Go_ist6 dL_turned_78 rfl ?_
      refine Go_ild5 dL_turned_80 ?_
      refine Go_if_lt (tgt := 104) dL_turned_82 (by decide) (by constructor <;> omega) (fun h82 => ?_) (fun h82 => ?_)
      · refine Go_iconst dL_turned_104 ?_
        refine Go_goto (tgt := 116) dL_turned_105 (by decide) ?_
        refine Go_ireturn dL_turned_116 rfl (by first | rfl | decide | exact nar_b | simp [narrow]) ?_
        exact kI (by rw [e]; split <;> omega) k
      · refine Go_ild5 dL_turned_85 ?_
        refine Go_bipush dL_turned_87 (by decide +kernel) ?_
        refine Go_icmp_gt (tgt := 104) dL_turned_89 (by decide) (by constructor <;> omega) (by constructor <;> omega) (fun h89 => ?_) (fun h89 => ?_)
        · refine Go_iconst dL_turned_104 ?_
          refine Go_goto (tgt := 116) dL_turned_105 (by decide) ?_
          refine Go_ireturn dL_turned_116 rfl (by first | rfl | decide | exact nar_b | simp [narrow]) ?_
          exact kI (by rw [e]; split <;> omega) k
        · refine Go_ild6 dL_turned_92 ?_
          refine Go_if_lt (tgt := 104) dL_turned_94 (by decide) (by constructor <;> omega) (fun h94 => ?_) (fun h94 => ?_)
          · refine Go_iconst dL_turned_104 ?_
            refine Go_goto (tgt := 116) dL_turned_105 (by decide) ?_
            refine Go_ireturn dL_turned_116 rfl (by first | rfl | decide | exact nar_b | simp [narrow]) ?_
            exact kI (by rw [e]; split <;> omega) k
          · refine Go_ild6 dL_turned_97 ?_
            refine Go_bipush dL_turned_99 (by decide +kernel) ?_
            refine Go_icmp_le (tgt := 108) dL_turned_101 (by decide) (by constructor <;> omega) (by constructor <;> omega) (fun h101 => ?_) (fun h101 => ?_)
            · refine Go_bipush dL_turned_108 (by decide +kernel) ?_
              refine Go_ild6 dL_turned_110 ?_
              refine Go_imul dL_turned_112 ?_
              refine Go_ild5 dL_turned_113 ?_
              refine Go_iadd dL_turned_115 ?_
              refine Go_ireturn dL_turned_116 rfl (by first | rfl | decide | exact nar_b | simp [narrow]) ?_
              exact kI (by rw [e]; split <;> omega) k
            · refine Go_iconst dL_turned_104 ?_
              refine Go_goto (tgt := 116) dL_turned_105 (by decide) ?_
              refine Go_ireturn dL_turned_116 rfl (by first | rfl | decide | exact nar_b | simp [narrow]) ?_
              exact kI (by rw [e]; split <;> omega) k
    · refine Go_ild3 dL_turned_60 ?_
      refine Go_goto (tgt := 77) dL_turned_61 (by decide) ?_
      refine Go_iadd dL_turned_77 ?_
      refine Go_ist6 dL_turned_78 rfl ?_
      refine Go_ild5 dL_turned_80 ?_
      refine Go_if_lt (tgt := 104) dL_turned_82 (by decide) (by constructor <;> omega) (fun h82 => ?_) (fun h82 => ?_)
      · refine Go_iconst dL_turned_104 ?_
        refine Go_goto (tgt := 116) dL_turned_105 (by decide) ?_
        refine Go_ireturn dL_turned_116 rfl (by first | rfl | decide | exact nar_b | simp [narrow]) ?_
        exact kI (by rw [e]; split <;> omega) k
      · refine Go_ild5 dL_turned_85 ?_
        refine Go_bipush dL_turned_87 (by decide +kernel) ?_
        refine Go_icmp_gt (tgt := 104) dL_turned_89 (by decide) (by constructor <;> omega) (by constructor <;> omega) (fun h89 => ?_) (fun h89 => ?_)
        · refine Go_iconst dL_turned_104 ?_
          refine Go_goto (tgt := 116) dL_turned_105 (by decide) ?_
          refine Go_ireturn dL_turned_116 rfl (by first | rfl | decide | exact nar_b | simp [narrow]) ?_
          exact kI (by rw [e]; split <;> omega) k
        · refine Go_ild6 dL_turned_92 ?_
          refine Go_if_lt (tgt := 104) dL_turned_94 (by decide) (by constructor <;> omega) (fun h94 => ?_) (fun h94 => ?_)
          · refine Go_iconst dL_turned_104 ?_
            refine Go_goto (tgt := 116) dL_turned_105 (by decide) ?_
            refine Go_ireturn dL_turned_116 rfl (by first | rfl | decide | exact nar_b | simp [narrow]) ?_
            exact kI (by rw [e]; split <;> omega) k
          · refine Go_ild6 dL_turned_97 ?_
            refine Go_bipush dL_turned_99 (by decide +kernel) ?_
            refine Go_icmp_le (tgt := 108) dL_turned_101 (by decide) (by constructor <;> omega) (by constructor <;> omega) (fun h101 => ?_) (fun h101 => ?_)
            · refine Go_bipush dL_turned_108 (by decide +kernel) ?_
              refine Go_ild6 dL_turned_110 ?_
              refine Go_imul dL_turned_112 ?_
              refine Go_ild5 dL_turned_113 ?_
              refine Go_iadd dL_turned_115 ?_
              refine Go_ireturn dL_turned_116 rfl (by first | rfl | decide | exact nar_b | simp [narrow]) ?_
              exact kI (by rw [e]; split <;> omega) k
            · refine Go_iconst dL_turned_104 ?_
              refine Go_goto (tgt := 116) dL_turned_105 (by decide) ?_
              refine Go_ireturn dL_turned_116 rfl (by first | rfl | decide | exact nar_b | simp [narrow]) ?_
              exact kI (by rw [e]; split <;> omega) k
  · have e : swI s t 3 = numI ((t : Int) % 10 + ((s : Int) / 10 - (t : Int) / 10)) ((t : Int) / 10 + -((s : Int) % 10 - (t : Int) % 10)) := by unfold swI; rw [r.2.2.2]; rw [Int.neg_neg]
    unfold numI at e
    refine Go_ild0 dL_turned_0 ?_
    refine Go_bipush dL_turned_1 (by decide +kernel) ?_
    refine Go_irem dL_turned_3 (by omega) (by omega) (by omega) (by omega) ?_
    refine Go_ild1 dL_turned_4 ?_
    refine Go_bipush dL_turned_5 (by decide +kernel) ?_
    refine Go_irem dL_turned_7 (by omega) (by omega) (by omega) (by omega) ?_
    refine Go_isub dL_turned_8 ?_
    refine Go_ist3 dL_turned_9 rfl ?_
    refine Go_ild0 dL_turned_10 ?_
    refine Go_bipush dL_turned_11 (by decide +kernel) ?_
    refine Go_idiv dL_turned_13 (by omega) (by omega) (by omega) (by omega) ?_
    refine Go_ild1 dL_turned_14 ?_
    refine Go_bipush dL_turned_15 (by decide +kernel) ?_
    refine Go_idiv dL_turned_17 (by omega) (by omega) (by omega) (by omega) ?_
    refine Go_isub dL_turned_18 ?_
    refine Go_ist4 dL_turned_19 rfl ?_
    refine Go_ild1 dL_turned_21 ?_
    refine Go_bipush dL_turned_22 (by decide +kernel) ?_
    refine Go_irem dL_turned_24 (by omega) (by omega) (by omega) (by omega) ?_
    refine Go_ild2 dL_turned_25 ?_
    refine Go_iconst dL_turned_26 ?_
    refine Go_icmp_ne (tgt := 36) dL_turned_27 (by decide) (by constructor <;> omega) (by constructor <;> omega) (fun h27 => ?_) (fun h27 => by omega)
    refine Go_ild2 dL_turned_36 ?_
    refine Go_iconst dL_turned_37 ?_
    refine Go_icmp_ne (tgt := 46) dL_turned_38 (by decide) (by constructor <;> omega) (by constructor <;> omega) (fun h38 => ?_) (fun h38 => by omega)
    refine Go_ild4 dL_turned_46 ?_
    refine Go_iadd dL_turned_48 ?_
    refine Go_ist5 dL_turned_49 rfl ?_
    refine Go_ild1 dL_turned_51 ?_
    refine Go_bipush dL_turned_52 (by decide +kernel) ?_
    refine Go_idiv dL_turned_54 (by omega) (by omega) (by omega) (by omega) ?_
    refine Go_ild2 dL_turned_55 ?_
    refine Go_iconst dL_turned_56 ?_
    refine Go_icmp_ne (tgt := 64) dL_turned_57 (by decide) (by constructor <;> omega) (by constructor <;> omega) (fun h57 => ?_) (fun h57 => ?_)
    · refine Go_ild2 dL_turned_64 ?_
      refine Go_iconst dL_turned_65 ?_
      refine Go_icmp_ne (tgt := 75) dL_turned_66 (by decide) (by constructor <;> omega) (by constructor <;> omega) (fun h66 => ?_) (fun h66 => by omega)
      refine Go_ild3 dL_turned_75 ?_
      refine Go_ineg dL_turned_76 ?_
      refine Go_iadd dL_turned_77 ?_
      refine Go_ist6 dL_turned_78 rfl ?_
      refine Go_ild5 dL_turned_80 ?_
      refine Go_if_lt (tgt := 104) dL_turned_82 (by decide) (by constructor <;> omega) (fun h82 => ?_) (fun h82 => ?_)
      · refine Go_iconst dL_turned_104 ?_
        refine Go_goto (tgt := 116) dL_turned_105 (by decide) ?_
        refine Go_ireturn dL_turned_116 rfl (by first | rfl | decide | exact nar_b | simp [narrow]) ?_
        exact kI (by rw [e]; split <;> omega) k
      · refine Go_ild5 dL_turned_85 ?_
        refine Go_bipush dL_turned_87 (by decide +kernel) ?_
        refine Go_icmp_gt (tgt := 104) dL_turned_89 (by decide) (by constructor <;> omega) (by constructor <;> omega) (fun h89 => ?_) (fun h89 => ?_)
        · refine Go_iconst dL_turned_104 ?_
          refine Go_goto (tgt := 116) dL_turned_105 (by decide) ?_
          refine Go_ireturn dL_turned_116 rfl (by first | rfl | decide | exact nar_b | simp [narrow]) ?_
          exact kI (by rw [e]; split <;> omega) k
        · refine Go_ild6 dL_turned_92 ?_
          refine Go_if_lt (tgt := 104) dL_turned_94 (by decide) (by constructor <;> omega) (fun h94 => ?_) (fun h94 => ?_)
          · refine Go_iconst dL_turned_104 ?_
            refine Go_goto (tgt := 116) dL_turned_105 (by decide) ?_
            refine Go_ireturn dL_turned_116 rfl (by first | rfl | decide | exact nar_b | simp [narrow]) ?_
            exact kI (by rw [e]; split <;> omega) k
          · refine Go_ild6 dL_turned_97 ?_
            refine Go_bipush dL_turned_99 (by decide +kernel) ?_
            refine Go_icmp_le (tgt := 108) dL_turned_101 (by decide) (by constructor <;> omega) (by constructor <;> omega) (fun h101 => ?_) (fun h101 => ?_)
            · refine Go_bipush dL_turned_108 (by decide +kernel) ?_
              refine Go_ild6 dL_turned_110 ?_
              refine Go_imul dL_turned_112 ?_
              refine Go_ild5 dL_turned_113 ?_
              refine Go_iadd dL_turned_115 ?_
              refine Go_ireturn dL_turned_116 rfl (by first | rfl | decide | exact nar_b | simp [narrow]) ?_
              exact kI (by rw [e]; split <;> omega) k
            · refine Go_iconst dL_turned_104 ?_
              refine Go_goto (tgt := 116) dL_turned_105 (by decide) ?_
              refine Go_ireturn dL_turned_116 rfl (by first | rfl | decide | exact nar_b | simp [narrow]) ?_
              exact kI (by rw [e]; split <;> omega) k
    · refine Go_ild3 dL_turned_60 ?_
      refine Go_goto (tgt := 77) dL_turned_61 (by decide) ?_
      refine Go_iadd dL_turned_77 ?_
      refine Go_ist6 dL_turned_78 rfl ?_
      refine Go_ild5 dL_turned_80 ?_
      refine Go_if_lt (tgt := 104) dL_turned_82 (by decide) (by constructor <;> omega) (fun h82 => ?_) (fun h82 => ?_)
      · refine Go_iconst dL_turned_104 ?_
        refine Go_goto (tgt := 116) dL_turned_105 (by decide) ?_
        refine Go_ireturn dL_turned_116 rfl (by first | rfl | decide | exact nar_b | simp [narrow]) ?_
        exact kI (by rw [e]; split <;> omega) k
      · refine Go_ild5 dL_turned_85 ?_
        refine Go_bipush dL_turned_87 (by decide +kernel) ?_
        refine Go_icmp_gt (tgt := 104) dL_turned_89 (by decide) (by constructor <;> omega) (by constructor <;> omega) (fun h89 => ?_) (fun h89 => ?_)
        · refine Go_iconst dL_turned_104 ?_
          refine Go_goto (tgt := 116) dL_turned_105 (by decide) ?_
          refine Go_ireturn dL_turned_116 rfl (by first | rfl | decide | exact nar_b | simp [narrow]) ?_
          exact kI (by rw [e]; split <;> omega) k
        · refine Go_ild6 dL_turned_92 ?_
          refine Go_if_lt (tgt := 104) dL_turned_94 (by decide) (by constructor <;> omega) (fun h94 => ?_) (fun h94 => ?_)
          · refine Go_iconst dL_turned_104 ?_
            refine Go_goto (tgt := 116) dL_turned_105 (by decide) ?_
            refine Go_ireturn dL_turned_116 rfl (by first | rfl | decide | exact nar_b | simp [narrow]) ?_
            exact kI (by rw [e]; split <;> omega) k
          · refine Go_ild6 dL_turned_97 ?_
            refine Go_bipush dL_turned_99 (by decide +kernel) ?_
            refine Go_icmp_le (tgt := 108) dL_turned_101 (by decide) (by constructor <;> omega) (by constructor <;> omega) (fun h101 => ?_) (fun h101 => ?_)
            · refine Go_bipush dL_turned_108 (by decide +kernel) ?_
              refine Go_ild6 dL_turned_110 ?_
              refine Go_imul dL_turned_112 ?_
              refine Go_ild5 dL_turned_113 ?_
              refine Go_iadd dL_turned_115 ?_
              refine Go_ireturn dL_turned_116 rfl (by first | rfl | decide | exact nar_b | simp [narrow]) ?_
              exact kI (by rw [e]; split <;> omega) k
            · refine Go_iconst dL_turned_104 ?_
              refine Go_goto (tgt := 116) dL_turned_105 (by decide) ?_
              refine Go_ireturn dL_turned_116 rfl (by first | rfl | decide | exact nar_b | simp [narrow]) ?_
              exact kI (by rw [e]; split <;> omega) k
theorem e_L_whose {z : Nat} (h : RP w ps) (ho : OKp ps) (hz : z < 100) (k : K (vi (whI ps z)) none w) : Ev G yL_whose cL_whose 5 mL_whose none 1 0 0 [vi (z : Int), vr 68, vr 69] w K X := by
  have h5 := ho.1
  have hl : ∀ p, p < ps.length → (pth ps p).length ≤ 48 := fun p hp => (h.2.2 p hp).2.1
  refine Ev_intro msL_whose.1 rfl (fun h => by cases h) (allc1 rfl) (Nat.le_of_ble_eq_true rfl) (Or.inl rfl) ?_
  show Go G cL_whose mL_whose none 1 0 0 0 [some (vi (z : Int)), some (vr 68), some (vr 69), none, none] [] w K X
  refine Go_iconst dL_whose_0 ?_
  refine Go_ist3 dL_whose_1 rfl ?_
  refine Go_upTo (n := ps.length) (L := fun i => [some (vi (z : Int)), some (vr 68), some (vr 69), some (vi (i : Int)), none]) (P := fun i v => v = w ∧ ∀ p, p < i → z ∉ pth ps p) (by repeat' (first | exact Or.inl rfl | exact Or.inr rfl | exact Or.inr (lcg (by omega)) | exact trivial | constructor)) (⟨rfl, fun p hp => absurd hp (by omega)⟩) (fun i v hi hP kn => ?_) (fun v hP => ?_)
  · try dsimp only at hP kn
    try dsimp only
    obtain ⟨rfl, hN⟩ := hP
    have hq := h.2.2 i hi
    refine Go_ild3 dL_whose_2 ?_
    refine Go_ald1 dL_whose_3 ?_
    refine Go_iconst dL_whose_4 ?_
    refine Go_iald dL_whose_5 (by first | assumption | rfl) trivial (by omega) (by omega) (by decide) ?_
    rw [show v 68 (Int.toNat 5) = (ps.length : Int) from h.2.1]
    refine Go_icmp_ge (tgt := 51) dL_whose_6 (by decide) (by constructor <;> omega) (by constructor <;> omega) (fun h6 => by omega) (fun h6 => ?_)
    refine Go_iconst dL_whose_9 ?_
    refine Go_ist4 dL_whose_10 rfl ?_
    refine Go_upTo (n := (pth ps i).length) (L := fun i2 => [some (vi (z : Int)), some (vr 68), some (vr 69), some (vi (i : Int)), some (vi (i2 : Int))]) (P := fun i2 v2 => v2 = v ∧ ∀ m, m < i2 → (pth ps i).getD m 0 ≠ z) (by repeat' (first | exact Or.inl rfl | exact Or.inr rfl | exact Or.inr (lcg (by omega)) | exact trivial | constructor)) (⟨rfl, fun p hp => absurd hp (by omega)⟩) (fun i2 v2 hi2 hP2 kn2 => ?_) (fun v2 hP2 => ?_)
    · try dsimp only at hP2 kn2
      try dsimp only
      obtain ⟨rfl, hM⟩ := hP2
      refine Go_ild4 dL_whose_12 ?_
      refine Go_ald1 dL_whose_14 ?_
      refine Go_ild3 dL_whose_15 ?_
      refine Go_iald dL_whose_16 (by first | assumption | rfl) trivial (by omega) (by omega) (by decide) ?_
      rw [Int.toNat_natCast, hq.1]
      refine Go_icmp_ge (tgt := 45) dL_whose_17 (by decide) (by constructor <;> omega) (by constructor <;> omega) (fun h17 => by omega) (fun h17 => ?_)
      have b9 := (ho.lt i).at i2
      refine Go_ild3 dL_whose_20 ?_
      refine Go_ild4 dL_whose_21 ?_
      refine Go_ald2 dL_whose_23 ?_
      refine Go_cS3 (d' := 0) (bc' := 0) (bs' := 0) rfl dL_whose_24 msL_at rfl lkL_70 (by decide) (by omega) (by omega) (Nat.le_of_ble_eq_true rfl) ?_
      refine e_L_at h.1 (by omega) (by omega) ?_
      rw [hq.2.2 i2 hi2]
      refine Go_ild0 dL_whose_27 ?_
      refine Go_icmp_ne (tgt := 39) dL_whose_28 (by decide) (by constructor <;> omega) (by constructor <;> omega) (fun h28 => ?_) (fun h28 => ?_)
      · refine Go_inc4 dL_whose_39 rfl ?_
        refine Go_goto (tgt := 12) dL_whose_42 (by decide) ?_
        exact Go_forget (by repeat' (first | exact Or.inl rfl | exact Or.inr rfl | exact Or.inr (lcg (by omega)) | exact trivial | constructor)) (kn2 _ ⟨rfl, fun m hm => by rcases Nat.lt_or_eq_of_le (Nat.le_of_lt_succ hm) with q | rfl; exact hM m q; omega⟩)
      · refine Go_bipush dL_whose_31 (by decide +kernel) ?_
        refine Go_ild3 dL_whose_33 ?_
        refine Go_imul dL_whose_34 ?_
        refine Go_ild4 dL_whose_35 ?_
        refine Go_iadd dL_whose_37 ?_
        refine Go_ireturn dL_whose_38 rfl (by first | rfl | decide | exact nar_b | simp [narrow]) ?_
        have hm : z ∈ pth ps i := by have := getD_mem hi2; rwa [show (pth ps i).getD i2 0 = z by omega] at this
        have e := ow_of ho.nd hm
        have ei := idx_getD (ho.nd i).1 hi2
        rw [show (pth ps i).getD i2 0 = z by omega] at ei
        rw [ei] at e
        have ew : whI ps z = 100 * (i : Int) + i2 := by unfold whI; rw [e.1, e.2, if_neg (by omega)]
        exact kI ew.symm k
    · try dsimp only at hP2
      try dsimp only
      obtain ⟨rfl, hM⟩ := hP2
      refine Go_ild4 dL_whose_12 ?_
      refine Go_ald1 dL_whose_14 ?_
      refine Go_ild3 dL_whose_15 ?_
      refine Go_iald dL_whose_16 (by first | assumption | rfl) trivial (by omega) (by omega) (by decide) ?_
      rw [Int.toNat_natCast, hq.1]
      refine Go_icmp_ge (tgt := 45) dL_whose_17 (by decide) (by constructor <;> omega) (by constructor <;> omega) (fun h17 => ?_) (fun h17 => by omega)
      refine Go_inc3 dL_whose_45 rfl ?_
      refine Go_goto (tgt := 2) dL_whose_48 (by decide) ?_
      exact Go_forget (by repeat' (first | exact Or.inl rfl | exact Or.inr rfl | exact Or.inr (lcg (by omega)) | exact trivial | constructor)) (kn _ ⟨rfl, fun p hp hz => by rcases Nat.lt_or_eq_of_le (Nat.le_of_lt_succ hp) with q | rfl; exact hN p q hz; obtain ⟨m, hm, e⟩ := mem_getD hz; exact hM m hm e⟩)
  · try dsimp only at hP
    try dsimp only
    obtain ⟨rfl, hN⟩ := hP
    have e : ow ps z = -1 := (ow_none (fun p hz => hN p (lt_of_pth hz) hz)).1
    refine Go_ild3 dL_whose_2 ?_
    refine Go_ald1 dL_whose_3 ?_
    refine Go_iconst dL_whose_4 ?_
    refine Go_iald dL_whose_5 (by first | assumption | rfl) trivial (by omega) (by omega) (by decide) ?_
    rw [show v 68 (Int.toNat 5) = (ps.length : Int) from h.2.1]
    refine Go_icmp_ge (tgt := 51) dL_whose_6 (by decide) (by constructor <;> omega) (by constructor <;> omega) (fun h6 => ?_) (fun h6 => by omega)
    refine Go_iconst dL_whose_51 ?_
    refine Go_ireturn dL_whose_52 rfl (by first | rfl | decide | exact nar_b | simp [narrow]) ?_
    exact kI (by unfold whI; rw [if_pos e]) k
theorem e_L_why {p z : Nat} {to fr : Int} (h : RP w ps) (ho : OKp ps) (ht : to = -1 ∨ to = z) (hz : z < 100) (hf : inR fr) (k : K (vi (if to = -1 then 1 else if whI ps z < 0 ∨ whI ps z = fr then 0 else if ow ps z = p then 2 else 3)) none w) (hp : p < 5) : Ev G yL_why cL_why 6 mL_why none 2 0 0 [vi (p : Int), vi to, vi fr, vr 68, vr 69] w K X := by
  have b := whI_in ho z
  have dc := whI_dec ho z
  obtain ⟨f1, f2⟩ := hf
  refine Ev_intro msL_why.1 rfl (fun h => by cases h) (allc1 rfl) (Nat.le_of_ble_eq_true rfl) (Or.inl rfl) ?_
  show Go G cL_why mL_why none 2 0 0 0 [some (vi (p : Int)), some (vi to), some (vi fr), some (vr 68), some (vr 69), none] [] w K X
  rcases ht with rfl | rfl
  · skip
    refine Go_ild1 dL_why_0 ?_
    refine Go_if_ge (tgt := 6) dL_why_1 (by decide) (by constructor <;> omega) (fun h1 => by omega) (fun h1 => ?_)
    refine Go_iconst dL_why_4 ?_
    refine Go_ireturn dL_why_5 rfl (by first | rfl | decide | exact nar_b | simp [narrow]) ?_
    exact kI (by rw [if_pos rfl]) k
  · rw [if_neg (by omega)] at k
    refine Go_ild1 dL_why_0 ?_
    refine Go_if_ge (tgt := 6) dL_why_1 (by decide) (by constructor <;> omega) (fun h1 => ?_) (fun h1 => by omega)
    refine Go_ild1 dL_why_6 ?_
    refine Go_ald3 dL_why_7 ?_
    refine Go_ald4 dL_why_8 ?_
    refine Go_cS3 (d' := 1) (bc' := 0) (bs' := 0) rfl dL_why_10 msL_whose rfl lkL_76 (by decide) (by omega) (by omega) (Nat.le_of_ble_eq_true rfl) ?_
    refine e_L_whose h ho hz ?_
    refine Go_ist5 dL_why_13 rfl ?_
    refine Go_ild5 dL_why_15 ?_
    refine Go_if_lt (tgt := 26) dL_why_17 (by decide) (by constructor <;> omega) (fun h17 => ?_) (fun h17 => ?_)
    · refine Go_iconst dL_why_26 ?_
      refine Go_goto (tgt := 44) dL_why_27 (by decide) ?_
      refine Go_ireturn dL_why_44 rfl (by first | rfl | decide | exact nar_b | simp [narrow]) ?_
      exact kI (by (repeat' split) <;> omega) k
    · refine Go_ild5 dL_why_20 ?_
      refine Go_ild2 dL_why_22 ?_
      refine Go_icmp_ne (tgt := 30) dL_why_23 (by decide) (by constructor <;> omega) (by constructor <;> omega) (fun h23 => ?_) (fun h23 => ?_)
      · refine Go_ild5 dL_why_30 ?_
        refine Go_bipush dL_why_32 (by decide +kernel) ?_
        refine Go_idiv dL_why_34 (by omega) (by omega) (by omega) (by omega) ?_
        refine Go_ild0 dL_why_35 ?_
        refine Go_icmp_ne (tgt := 43) dL_why_36 (by decide) (by constructor <;> omega) (by constructor <;> omega) (fun h36 => ?_) (fun h36 => ?_)
        · refine Go_iconst dL_why_43 ?_
          refine Go_ireturn dL_why_44 rfl (by first | rfl | decide | exact nar_b | simp [narrow]) ?_
          exact kI (by (repeat' split) <;> omega) k
        · refine Go_iconst dL_why_39 ?_
          refine Go_goto (tgt := 44) dL_why_40 (by decide) ?_
          refine Go_ireturn dL_why_44 rfl (by first | rfl | decide | exact nar_b | simp [narrow]) ?_
          exact kI (by (repeat' split) <;> omega) k
      · refine Go_iconst dL_why_26 ?_
        refine Go_goto (tgt := 44) dL_why_27 (by decide) ?_
        refine Go_ireturn dL_why_44 rfl (by first | rfl | decide | exact nar_b | simp [narrow]) ?_
        exact kI (by (repeat' split) <;> omega) k
end Small
