section Model6
variable {G : Gm} {w : Wd} {K : Kt} {X : Xt} {s : Sta} {sv : List Sta} {g : Nat → Option Sta} {tx : List Nat} {z z1 z2 z3 : Int} {p pl q k0 n : Nat} {l : List Nat}
/-- the buffer alone has changed -/
theorem mt_of {w w' : Wd} {tx' : List Nat} {A : List Nat} (h : MInv w s sv g tx) (t : MTx w' tx') (f : frm w w' A) (hA : ∀ a ∈ A, a = 68 ∨ a = 73 ∨ (74 ≤ a ∧ a ≤ 83)) (h0 : w' 68 0 = 0) (e3 : w' 68 3 = w 68 3) : MX w w' 0 s sv g tx' := by
  have n : ∀ a, 69 ≤ a → a ≤ 72 → a ∉ A := fun a h1 h2 q => by have := hA a q; omega
  refine ⟨⟨h.1.frm f (n _ (by decide) (by decide)), h.2.1.frm f (n _ (by decide) (by decide)) e3, h.2.2.1.frm f (n _ (by decide) (by decide)) (n _ (by decide) (by decide)), t⟩, h0, f.mono (fun a ha => ?_)⟩
  have := hA a ha
  have key : ∀ a, a < 84 → (a = 68 ∨ a = 73 ∨ (74 ≤ a ∧ a ≤ 83)) → a ∈ mcs := by decide
  exact key a (by omega) this
theorem e_X12_append (h : MInv w s sv g tx) (h1 : inR z1)
    (k : ∀ w' (c : Nat), z1 = c → 33 ≤ c → c ≤ 126 → tx.length < 70 → MX w w' 0 s sv g (tx ++ [c]) → K (vi (tx.length + 1)) none w')
    (x1 : ∀ w', ¬ (33 ≤ z1 ∧ z1 ≤ 126) → MX w w' 1 s sv g tx → K (vi 0) none w') (x2 : ∀ w', 33 ≤ z1 → z1 ≤ 126 → tx.length = 70 → MX w w' 2 s sv g tx → K (vi 0) none w') : Ev G yX12_append cX12_append 2 mX12_append none 1 0 0 [vr 68, vi z1] w K X := by
  obtain ⟨t1, t2, t3, t4⟩ := h.2.2.2
  refine Ev_intro mvX12_append.1 rfl (fun h => by cases h) (allc1 rfl) (Nat.le_of_ble_eq_true rfl) (Or.inl rfl) ?_
  show Go G cX12_append mX12_append none 1 0 0 0 [some (vr 68), some (vi z1)] [] w K X
  refine Go_ald0 dX12_append_0 ?_
  refine Go_iconst dX12_append_1 ?_
  refine pf11_0 dX12_append_2 flX12_59 (by first | assumption | rfl) ?_
  refine Go_ild1 dX12_append_5 ?_
  refine Go_bipush dX12_append_6 (by decide +kernel) ?_
  refine Go_bipush dX12_append_8 (by decide +kernel) ?_
  refine Go_cS3 (d' := 0) (bc' := 0) (bs' := 0) rfl dX12_append_10 msX12_within rfl lkX12_62 (by decide) (by decide) (by decide) (Nat.le_of_ble_eq_true rfl) ?_
  refine e_X12_within h1 (by constructor <;> omega) (by constructor <;> omega) ?_
  refine Go_ifb_ne (tgt := 22) dX12_append_13 (by decide)  (fun h13 => ?_) (fun h13 => ?_)
  · refine Go_ald0 dX12_append_22 ?_
    refine gf11_7 dX12_append_23 flX12_146 (by first | assumption | rfl) ?_
    rw [up_k (by decide), t1]
    refine Go_bipush dX12_append_26 (by decide +kernel) ?_
    refine Go_icmp_ne (tgt := 37) dX12_append_28 (by decide) (by constructor <;> omega) (by constructor <;> omega) (fun h28 => ?_) (fun h28 => ?_)
    · refine Go_ald0 dX12_append_37 ?_
      refine gf11_6 dX12_append_38 flX12_22 ?_
      refine Go_ald0 dX12_append_41 ?_
      refine gf11_7 dX12_append_42 flX12_146 (by first | assumption | rfl) ?_
      rw [up_k (by decide), t1]
      refine Go_ild1 dX12_append_45 ?_
      refine Go_iast dX12_append_46 (by first | assumption | rfl) trivial (by omega) (by omega) (by decide) ?_
      rw [Int.toNat_natCast]
      refine Go_ald0 dX12_append_47 ?_
      refine Go_dup dX12_append_48 ?_
      refine gf11_7 dX12_append_49 flX12_146 (by first | assumption | rfl) ?_
      rw [up_a (by decide), up_k (by decide), t1]
      refine Go_iconst dX12_append_52 ?_
      refine Go_iadd dX12_append_53 ?_
      refine pf11_7 dX12_append_54 flX12_146 (by first | assumption | rfl) ?_
      refine Go_ald0 dX12_append_57 ?_
      refine gf11_7 dX12_append_58 flX12_146 (by first | assumption | rfl) ?_
      rw [up_s]
      refine Go_ireturn dX12_append_61 rfl (by first | rfl | decide | exact nar_b | simp [narrow]) ?_
      obtain ⟨c, rfl⟩ := Int.eq_ofNat_of_zero_le (show 0 ≤ z1 by omega)
      refine k _ c rfl (by omega) (by omega) (by omega) (mt_of h ⟨by rw [up_s, List.length_append]; rfl, by rw [List.length_append]; simp; omega, fun j hj => ?_, fun x hx => ?_⟩ (A := [68, 73]) (((frm.rfl.up (by decide)).up (by decide)).up (by decide)) (by decide) (by rw [up_k (by decide), up_a (by decide), up_s]) (by rw [up_k (by decide), up_a (by decide), up_k (by decide)]))
      · rw [List.length_append, List.length_cons, List.length_nil] at hj
        rw [up_a (by decide), gD_app]
        by_cases e : j = tx.length
        · subst e; rw [up_s, if_neg (by omega), Nat.sub_self]; rfl
        · rw [up_k e, up_a (by decide), if_pos (by omega)]; exact t3 j (by omega)
      · rcases List.mem_append.mp hx with q | q
        · exact t4 x q
        · rw [List.mem_singleton] at q; omega
    · refine Go_ald0 dX12_append_31 ?_
      refine Go_iconst dX12_append_32 ?_
      refine Go_cV1 (d' := 0) (bc' := 0) (bs' := 0) rfl dX12_append_33 mvX12_fails rfl lkX12_78 (by first | assumption | rfl) rfl trivial (by decide) (by decide) (by decide) (Nat.le_of_ble_eq_true rfl) ?_
      refine e_X12_fails ?_
      refine Go_ireturn dX12_append_36 rfl (by first | rfl | decide | exact nar_b | simp [narrow]) ?_
      exact x2 _ h13.1 h13.2 (by omega) (MX_fail h)
  · refine Go_ald0 dX12_append_16 ?_
    refine Go_iconst dX12_append_17 ?_
    refine Go_cV1 (d' := 0) (bc' := 0) (bs' := 0) rfl dX12_append_18 mvX12_fails rfl lkX12_78 (by first | assumption | rfl) rfl trivial (by decide) (by decide) (by decide) (Nat.le_of_ble_eq_true rfl) ?_
    refine e_X12_fails ?_
    refine Go_ireturn dX12_append_21 rfl (by first | rfl | decide | exact nar_b | simp [narrow]) ?_
    exact x1 _ h13 (MX_fail h)
theorem e_X12_clearBuffer (h : MInv w s sv g tx) (k : ∀ w', MX w w' 0 s sv g [] → K (vi tx.length) none w') : Ev G yX12_clearBuffer cX12_clearBuffer 2 mX12_clearBuffer none 0 0 0 [vr 68] w K X := by
  obtain ⟨t1, t2, t3, t4⟩ := h.2.2.2
  refine Ev_intro mvX12_clearBuffer.1 rfl (fun h => by cases h) (allc1 rfl) (Nat.le_of_ble_eq_true rfl) (Or.inl rfl) ?_
  show Go G cX12_clearBuffer mX12_clearBuffer none 0 0 0 0 [some (vr 68), none] [] w K X
  refine Go_ald0 dX12_clearBuffer_0 ?_
  refine Go_iconst dX12_clearBuffer_1 ?_
  refine pf11_0 dX12_clearBuffer_2 flX12_59 (by first | assumption | rfl) ?_
  refine Go_ald0 dX12_clearBuffer_5 ?_
  refine gf11_7 dX12_clearBuffer_6 flX12_146 (by first | assumption | rfl) ?_
  rw [up_k (by decide), t1]
  refine Go_ist1 dX12_clearBuffer_9 rfl ?_
  refine Go_ald0 dX12_clearBuffer_10 ?_
  refine Go_iconst dX12_clearBuffer_11 ?_
  refine pf11_7 dX12_clearBuffer_12 flX12_146 (by first | assumption | rfl) ?_
  refine Go_ild1 dX12_clearBuffer_15 ?_
  refine Go_ireturn dX12_clearBuffer_16 rfl (by first | rfl | decide | exact nar_b | simp [narrow]) ?_
  exact k _ (mt_of h ⟨up_s, by simp, fun j hj => by simp at hj, fun x hx => by simp at hx⟩ (A := [68]) ((frm.rfl.up (by decide)).up (by decide)) (by decide) (by rw [up_k (by decide), up_s]) (by rw [up_k (by decide), up_k (by decide)]))
theorem e_X12_letterOf (h0 : 0 ≤ z) (h1 : z < 4) (k : K (vi (urdlI z.toNat)) none w) : Ev G yX12_letterOf cX12_letterOf 1 mX12_letterOf none 0 0 0 [vi z] w K X := by
  have c : z = 0 ∨ z = 1 ∨ z = 2 ∨ z = 3 := by omega
  refine Ev_intro msX12_letterOf.1 rfl (fun h => by cases h) (allc1 rfl) (Nat.le_of_ble_eq_true rfl) (Or.inl rfl) ?_
  show Go G cX12_letterOf mX12_letterOf none 0 0 0 0 [some (vi z)] [] w K X
  rcases c with rfl | rfl | rfl | rfl
  · skip
    refine Go_ild0 dX12_letterOf_0 ?_
    refine Go_if_ne (tgt := 9) dX12_letterOf_1 (by decide) (by constructor <;> omega) (fun h1 => by omega) (fun h1 => ?_)
    refine Go_bipush dX12_letterOf_4 (by decide +kernel) ?_
    refine Go_goto (tgt := 31) dX12_letterOf_6 (by decide) ?_
    refine Go_ireturn dX12_letterOf_31 rfl (by first | rfl | decide | exact nar_b | simp [narrow]) ?_
    exact k
  · skip
    refine Go_ild0 dX12_letterOf_0 ?_
    refine Go_if_ne (tgt := 9) dX12_letterOf_1 (by decide) (by constructor <;> omega) (fun h1 => ?_) (fun h1 => by omega)
    refine Go_ild0 dX12_letterOf_9 ?_
    refine Go_iconst dX12_letterOf_10 ?_
    refine Go_icmp_ne (tgt := 19) dX12_letterOf_11 (by decide) (by constructor <;> omega) (by constructor <;> omega) (fun h11 => by omega) (fun h11 => ?_)
    refine Go_bipush dX12_letterOf_14 (by decide +kernel) ?_
    refine Go_goto (tgt := 31) dX12_letterOf_16 (by decide) ?_
    refine Go_ireturn dX12_letterOf_31 rfl (by first | rfl | decide | exact nar_b | simp [narrow]) ?_
    exact k
  · skip
    refine Go_ild0 dX12_letterOf_0 ?_
    refine Go_if_ne (tgt := 9) dX12_letterOf_1 (by decide) (by constructor <;> omega) (fun h1 => ?_) (fun h1 => by omega)
    refine Go_ild0 dX12_letterOf_9 ?_
    refine Go_iconst dX12_letterOf_10 ?_
    refine Go_icmp_ne (tgt := 19) dX12_letterOf_11 (by decide) (by constructor <;> omega) (by constructor <;> omega) (fun h11 => ?_) (fun h11 => by omega)
    refine Go_ild0 dX12_letterOf_19 ?_
    refine Go_iconst dX12_letterOf_20 ?_
    refine Go_icmp_ne (tgt := 29) dX12_letterOf_21 (by decide) (by constructor <;> omega) (by constructor <;> omega) (fun h21 => by omega) (fun h21 => ?_)
    refine Go_bipush dX12_letterOf_24 (by decide +kernel) ?_
    refine Go_goto (tgt := 31) dX12_letterOf_26 (by decide) ?_
    refine Go_ireturn dX12_letterOf_31 rfl (by first | rfl | decide | exact nar_b | simp [narrow]) ?_
    exact k
  · skip
    refine Go_ild0 dX12_letterOf_0 ?_
    refine Go_if_ne (tgt := 9) dX12_letterOf_1 (by decide) (by constructor <;> omega) (fun h1 => ?_) (fun h1 => by omega)
    refine Go_ild0 dX12_letterOf_9 ?_
    refine Go_iconst dX12_letterOf_10 ?_
    refine Go_icmp_ne (tgt := 19) dX12_letterOf_11 (by decide) (by constructor <;> omega) (by constructor <;> omega) (fun h11 => ?_) (fun h11 => by omega)
    refine Go_ild0 dX12_letterOf_19 ?_
    refine Go_iconst dX12_letterOf_20 ?_
    refine Go_icmp_ne (tgt := 29) dX12_letterOf_21 (by decide) (by constructor <;> omega) (by constructor <;> omega) (fun h21 => ?_) (fun h21 => by omega)
    refine Go_bipush dX12_letterOf_29 (by decide +kernel) ?_
    refine Go_ireturn dX12_letterOf_31 rfl (by first | rfl | decide | exact nar_b | simp [narrow]) ?_
    exact k
theorem e_X12_directionOf (h : inR z) (k : K (vi (ixI z)) none w) : Ev G yX12_directionOf cX12_directionOf 2 mX12_directionOf none 1 0 0 [vi z] w K X := by
  obtain ⟨a1, a2⟩ := id h
  have eu : urdlI 0 = 85 ∧ urdlI 1 = 82 ∧ urdlI 2 = 68 ∧ urdlI 3 = 76 := ⟨rfl, rfl, rfl, rfl⟩
  unfold ixI at k
  refine Ev_intro msX12_directionOf.1 rfl (fun h => by cases h) (allc1 rfl) (Nat.le_of_ble_eq_true rfl) (Or.inl rfl) ?_
  show Go G cX12_directionOf mX12_directionOf none 1 0 0 0 [some (vi z), none] [] w K X
  refine Go_iconst dX12_directionOf_0 ?_
  refine Go_ist1 dX12_directionOf_1 rfl ?_
  refine Go_upTo (n := 4) (L := fun i => [some (vi z), some (vi (i : Int))]) (P := fun i v => v = w ∧ ∀ j, j < i → urdlI j ≠ z) (by repeat' (first | exact Or.inl rfl | exact Or.inr rfl | exact Or.inr (lcg (by omega)) | exact trivial | constructor)) (⟨rfl, fun j q => by omega⟩) (fun i v hi hP kn => ?_) (fun v hP => ?_)
  · try dsimp only at hP kn
    try dsimp only
    obtain ⟨rfl, hP⟩ := hP
    have b := urdlI_in i hi
    refine Go_ild1 dX12_directionOf_2 ?_
    refine Go_iconst dX12_directionOf_3 ?_
    refine Go_icmp_ge (tgt := 23) dX12_directionOf_4 (by decide) (by constructor <;> omega) (by constructor <;> omega) (fun h4 => by omega) (fun h4 => ?_)
    refine Go_ild1 dX12_directionOf_7 ?_
    refine Go_cS1 (d' := 0) (bc' := 0) (bs' := 0) rfl dX12_directionOf_8 msX12_letterOf rfl lkX12_149 (by decide) (by decide) (by decide) (Nat.le_of_ble_eq_true rfl) ?_
    refine e_X12_letterOf (by omega) (by omega) ?_
    rw [Int.toNat_natCast]
    refine Go_ild0 dX12_directionOf_11 ?_
    refine Go_icmp_ne (tgt := 17) dX12_directionOf_12 (by decide) (by constructor <;> omega) (by constructor <;> omega) (fun h12 => ?_) (fun h12 => ?_)
    · refine Go_inc1 dX12_directionOf_17 rfl ?_
      refine Go_goto (tgt := 2) dX12_directionOf_20 (by decide) ?_
      refine Go_forget (by repeat' (first | exact Or.inl rfl | exact Or.inr rfl | exact Or.inr (lcg (by omega)) | exact trivial | constructor)) (kn _ ⟨rfl, fun j q => ?_⟩)
      by_cases c : j = i
      · subst c; exact h12
      · exact hP j (by omega)
    · refine Go_ild1 dX12_directionOf_15 ?_
      refine Go_ireturn dX12_directionOf_16 rfl (by first | rfl | decide | exact nar_b | simp [narrow]) ?_
      refine kI ?_ k
      have c : i = 0 ∨ i = 1 ∨ i = 2 ∨ i = 3 := by omega
      rcases c with rfl | rfl | rfl | rfl
      · rw [if_pos (by omega)]; rfl
      · rw [if_neg (by omega), if_pos (by omega)]; rfl
      · rw [if_neg (by omega), if_neg (by omega), if_pos (by omega)]; rfl
      · rw [if_neg (by omega), if_neg (by omega), if_neg (by omega), if_pos (by omega)]; rfl
  · try dsimp only at hP
    try dsimp only
    obtain ⟨rfl, hP⟩ := hP
    have p0 := hP 0 (by omega)
    have p1 := hP 1 (by omega)
    have p2 := hP 2 (by omega)
    have p3 := hP 3 (by omega)
    refine Go_ild1 dX12_directionOf_2 ?_
    refine Go_iconst dX12_directionOf_3 ?_
    refine Go_icmp_ge (tgt := 23) dX12_directionOf_4 (by decide) (by constructor <;> omega) (by constructor <;> omega) (fun h4 => ?_) (fun h4 => by omega)
    refine Go_iconst dX12_directionOf_23 ?_
    refine Go_ireturn dX12_directionOf_24 rfl (by first | rfl | decide | exact nar_b | simp [narrow]) ?_
    refine kI ?_ k
    rw [if_neg (by omega), if_neg (by omega), if_neg (by omega), if_neg (by omega)]
theorem e_X12_isGood (h : MTx w tx) (hj : n < tx.length) (k : K (vi (if goodC n (tx.getD n 0) = true then 1 else 0)) none w) : Ev G yX12_isGood cX12_isGood 3 mX12_isGood none 2 0 0 [vr 68, vi (n : Int)] w K X := by
  obtain ⟨t1, t2, t3, t4⟩ := h
  have e := t3 n hj
  have b := t4.at n
  refine Ev_intro mvX12_isGood.1 rfl (fun h => by cases h) (allc1 rfl) (Nat.le_of_ble_eq_true rfl) (Or.inl rfl) ?_
  show Go G cX12_isGood mX12_isGood none 2 0 0 0 [some (vr 68), some (vi (n : Int)), none] [] w K X
  by_cases q0 : n = 0 ∨ n = 2
  · have eg : goodC n (tx.getD n 0) = decide (48 ≤ (tx.getD n 0 : Int) ∧ (tx.getD n 0 : Int) ≤ 57) := by unfold goodC; rw [if_pos q0]
    rw [eg] at k
    simp only [decide_eq_true_eq] at k
    refine Go_ald0 dX12_isGood_0 ?_
    refine gf11_6 dX12_isGood_1 flX12_22 ?_
    refine Go_ild1 dX12_isGood_4 ?_
    refine Go_iald dX12_isGood_5 (by first | assumption | rfl) trivial (by omega) (by omega) (by decide) ?_
    rw [Int.toNat_natCast, e]
    refine Go_ist2 dX12_isGood_6 rfl ?_
    refine Go_ild1 dX12_isGood_7 ?_
    refine Go_if_eq (tgt := 16) dX12_isGood_8 (by decide) (by constructor <;> omega) (fun h8 => ?_) (fun h8 => ?_)
    · refine Go_ild2 dX12_isGood_16 ?_
      refine Go_bipush dX12_isGood_17 (by decide +kernel) ?_
      refine Go_bipush dX12_isGood_19 (by decide +kernel) ?_
      refine Go_cS3 (d' := 0) (bc' := 0) (bs' := 0) rfl dX12_isGood_21 msX12_within rfl lkX12_62 (by decide) (by decide) (by decide) (Nat.le_of_ble_eq_true rfl) ?_
      refine e_X12_within (by constructor <;> omega) (by constructor <;> omega) (by constructor <;> omega) ?_
      refine Go_ireturn dX12_isGood_24 rfl (by first | rfl | decide | exact nar_b | simp [narrow]) ?_
      exact k
    · refine Go_ild1 dX12_isGood_11 ?_
      refine Go_iconst dX12_isGood_12 ?_
      refine Go_icmp_ne (tgt := 25) dX12_isGood_13 (by decide) (by constructor <;> omega) (by constructor <;> omega) (fun h13 => ?_) (fun h13 => ?_)
      · refine Go_ild1 dX12_isGood_25 ?_
        refine Go_iconst dX12_isGood_26 ?_
        refine Go_icmp_ne (tgt := 44) dX12_isGood_27 (by decide) (by constructor <;> omega) (by constructor <;> omega) (fun h27 => by omega) (fun h27 => ?_)
        refine Go_ild2 dX12_isGood_30 ?_
        refine Go_bipush dX12_isGood_31 (by decide +kernel) ?_
        refine Go_icmp_ne (tgt := 40) dX12_isGood_33 (by decide) (by constructor <;> omega) (by constructor <;> omega) (fun h33 => by omega) (fun h33 => ?_)
        refine Go_iconst dX12_isGood_36 ?_
        refine Go_goto (tgt := 76) dX12_isGood_37 (by decide) ?_
        refine Go_ireturn dX12_isGood_76 rfl (by first | rfl | decide | exact nar_b | simp [narrow]) ?_
        exfalso; omega
      · refine Go_ild2 dX12_isGood_16 ?_
        refine Go_bipush dX12_isGood_17 (by decide +kernel) ?_
        refine Go_bipush dX12_isGood_19 (by decide +kernel) ?_
        refine Go_cS3 (d' := 0) (bc' := 0) (bs' := 0) rfl dX12_isGood_21 msX12_within rfl lkX12_62 (by decide) (by decide) (by decide) (Nat.le_of_ble_eq_true rfl) ?_
        refine e_X12_within (by constructor <;> omega) (by constructor <;> omega) (by constructor <;> omega) ?_
        refine Go_ireturn dX12_isGood_24 rfl (by first | rfl | decide | exact nar_b | simp [narrow]) ?_
        exact k
  by_cases q1 : n = 1
  · have eg : goodC n (tx.getD n 0) = decide ((tx.getD n 0 : Int) = 44) := by unfold goodC; rw [if_neg q0, if_pos q1]
    rw [eg] at k
    simp only [decide_eq_true_eq] at k
    refine Go_ald0 dX12_isGood_0 ?_
    refine gf11_6 dX12_isGood_1 flX12_22 ?_
    refine Go_ild1 dX12_isGood_4 ?_
    refine Go_iald dX12_isGood_5 (by first | assumption | rfl) trivial (by omega) (by omega) (by decide) ?_
    rw [Int.toNat_natCast, e]
    refine Go_ist2 dX12_isGood_6 rfl ?_
    refine Go_ild1 dX12_isGood_7 ?_
    refine Go_if_eq (tgt := 16) dX12_isGood_8 (by decide) (by constructor <;> omega) (fun h8 => by omega) (fun h8 => ?_)
    refine Go_ild1 dX12_isGood_11 ?_
    refine Go_iconst dX12_isGood_12 ?_
    refine Go_icmp_ne (tgt := 25) dX12_isGood_13 (by decide) (by constructor <;> omega) (by constructor <;> omega) (fun h13 => ?_) (fun h13 => by omega)
    refine Go_ild1 dX12_isGood_25 ?_
    refine Go_iconst dX12_isGood_26 ?_
    refine Go_icmp_ne (tgt := 44) dX12_isGood_27 (by decide) (by constructor <;> omega) (by constructor <;> omega) (fun h27 => by omega) (fun h27 => ?_)
    refine Go_ild2 dX12_isGood_30 ?_
    refine Go_bipush dX12_isGood_31 (by decide +kernel) ?_
    refine Go_icmp_ne (tgt := 40) dX12_isGood_33 (by decide) (by constructor <;> omega) (by constructor <;> omega) (fun h33 => ?_) (fun h33 => ?_)
    · refine Go_iconst dX12_isGood_40 ?_
      refine Go_goto (tgt := 76) dX12_isGood_41 (by decide) ?_
      refine Go_ireturn dX12_isGood_76 rfl (by first | rfl | decide | exact nar_b | simp [narrow]) ?_
      first | (refine kI (Eq.symm (if_neg (by omega))) k) | (refine kI (Eq.symm (if_pos (by omega))) k)
    · refine Go_iconst dX12_isGood_36 ?_
      refine Go_goto (tgt := 76) dX12_isGood_37 (by decide) ?_
      refine Go_ireturn dX12_isGood_76 rfl (by first | rfl | decide | exact nar_b | simp [narrow]) ?_
      first | (refine kI (Eq.symm (if_neg (by omega))) k) | (refine kI (Eq.symm (if_pos (by omega))) k)
  by_cases q3 : n = 3
  · have eg : goodC n (tx.getD n 0) = decide ((tx.getD n 0 : Int) = 58) := by unfold goodC; rw [if_neg q0, if_neg q1, if_pos q3]
    rw [eg] at k
    simp only [decide_eq_true_eq] at k
    refine Go_ald0 dX12_isGood_0 ?_
    refine gf11_6 dX12_isGood_1 flX12_22 ?_
    refine Go_ild1 dX12_isGood_4 ?_
    refine Go_iald dX12_isGood_5 (by first | assumption | rfl) trivial (by omega) (by omega) (by decide) ?_
    rw [Int.toNat_natCast, e]
    refine Go_ist2 dX12_isGood_6 rfl ?_
    refine Go_ild1 dX12_isGood_7 ?_
    refine Go_if_eq (tgt := 16) dX12_isGood_8 (by decide) (by constructor <;> omega) (fun h8 => by omega) (fun h8 => ?_)
    refine Go_ild1 dX12_isGood_11 ?_
    refine Go_iconst dX12_isGood_12 ?_
    refine Go_icmp_ne (tgt := 25) dX12_isGood_13 (by decide) (by constructor <;> omega) (by constructor <;> omega) (fun h13 => ?_) (fun h13 => by omega)
    refine Go_ild1 dX12_isGood_25 ?_
    refine Go_iconst dX12_isGood_26 ?_
    refine Go_icmp_ne (tgt := 44) dX12_isGood_27 (by decide) (by constructor <;> omega) (by constructor <;> omega) (fun h27 => ?_) (fun h27 => by omega)
    refine Go_ild1 dX12_isGood_44 ?_
    refine Go_iconst dX12_isGood_45 ?_
    refine Go_icmp_ne (tgt := 63) dX12_isGood_46 (by decide) (by constructor <;> omega) (by constructor <;> omega) (fun h46 => by omega) (fun h46 => ?_)
    refine Go_ild2 dX12_isGood_49 ?_
    refine Go_bipush dX12_isGood_50 (by decide +kernel) ?_
    refine Go_icmp_ne (tgt := 59) dX12_isGood_52 (by decide) (by constructor <;> omega) (by constructor <;> omega) (fun h52 => ?_) (fun h52 => ?_)
    · refine Go_iconst dX12_isGood_59 ?_
      refine Go_goto (tgt := 76) dX12_isGood_60 (by decide) ?_
      refine Go_ireturn dX12_isGood_76 rfl (by first | rfl | decide | exact nar_b | simp [narrow]) ?_
      first | (refine kI (Eq.symm (if_neg (by omega))) k) | (refine kI (Eq.symm (if_pos (by omega))) k)
    · refine Go_iconst dX12_isGood_55 ?_
      refine Go_goto (tgt := 76) dX12_isGood_56 (by decide) ?_
      refine Go_ireturn dX12_isGood_76 rfl (by first | rfl | decide | exact nar_b | simp [narrow]) ?_
      first | (refine kI (Eq.symm (if_neg (by omega))) k) | (refine kI (Eq.symm (if_pos (by omega))) k)
  have eg : goodC n (tx.getD n 0) = decide (0 ≤ ixI (tx.getD n 0)) := by unfold goodC; rw [if_neg q0, if_neg q1, if_neg q3]
  rw [eg] at k
  simp only [decide_eq_true_eq] at k
  have bi := ixI_in (tx.getD n 0 : Int)
  refine Go_ald0 dX12_isGood_0 ?_
  refine gf11_6 dX12_isGood_1 flX12_22 ?_
  refine Go_ild1 dX12_isGood_4 ?_
  refine Go_iald dX12_isGood_5 (by first | assumption | rfl) trivial (by omega) (by omega) (by decide) ?_
  rw [Int.toNat_natCast, e]
  refine Go_ist2 dX12_isGood_6 rfl ?_
  refine Go_ild1 dX12_isGood_7 ?_
  refine Go_if_eq (tgt := 16) dX12_isGood_8 (by decide) (by constructor <;> omega) (fun h8 => by omega) (fun h8 => ?_)
  refine Go_ild1 dX12_isGood_11 ?_
  refine Go_iconst dX12_isGood_12 ?_
  refine Go_icmp_ne (tgt := 25) dX12_isGood_13 (by decide) (by constructor <;> omega) (by constructor <;> omega) (fun h13 => ?_) (fun h13 => by omega)
  refine Go_ild1 dX12_isGood_25 ?_
  refine Go_iconst dX12_isGood_26 ?_
  refine Go_icmp_ne (tgt := 44) dX12_isGood_27 (by decide) (by constructor <;> omega) (by constructor <;> omega) (fun h27 => ?_) (fun h27 => by omega)
  refine Go_ild1 dX12_isGood_44 ?_
  refine Go_iconst dX12_isGood_45 ?_
  refine Go_icmp_ne (tgt := 63) dX12_isGood_46 (by decide) (by constructor <;> omega) (by constructor <;> omega) (fun h46 => ?_) (fun h46 => by omega)
  refine Go_ild2 dX12_isGood_63 ?_
  refine Go_cS1 (d' := 1) (bc' := 0) (bs' := 0) rfl dX12_isGood_64 msX12_directionOf rfl lkX12_152 (by decide) (by decide) (by decide) (Nat.le_of_ble_eq_true rfl) ?_
  refine e_X12_directionOf (by constructor <;> omega) ?_
  refine Go_iconst dX12_isGood_67 ?_
  refine Go_icmp_eq (tgt := 75) dX12_isGood_68 (by decide) (by constructor <;> omega) (by constructor <;> omega) (fun h68 => ?_) (fun h68 => ?_)
  · refine Go_iconst dX12_isGood_75 ?_
    refine Go_ireturn dX12_isGood_76 rfl (by first | rfl | decide | exact nar_b | simp [narrow]) ?_
    first | (refine kI (Eq.symm (if_neg (by omega))) k) | (refine kI (Eq.symm (if_pos (by omega))) k)
  · refine Go_iconst dX12_isGood_71 ?_
    refine Go_goto (tgt := 76) dX12_isGood_72 (by decide) ?_
    refine Go_ireturn dX12_isGood_76 rfl (by first | rfl | decide | exact nar_b | simp [narrow]) ?_
    first | (refine kI (Eq.symm (if_neg (by omega))) k) | (refine kI (Eq.symm (if_pos (by omega))) k)
theorem e_X12_findError (h : MTx w tx) (k : K (vi (errN tx)) none w) : Ev G yX12_findError cX12_findError 2 mX12_findError none 3 0 0 [vr 68] w K X := by
  obtain ⟨t1, t2, t3, t4⟩ := id h
  refine Ev_intro mvX12_findError.1 rfl (fun h => by cases h) (allc1 rfl) (Nat.le_of_ble_eq_true rfl) (Or.inl rfl) ?_
  show Go G cX12_findError mX12_findError none 3 0 0 0 [some (vr 68), none] [] w K X
  refine Go_iconst dX12_findError_0 ?_
  refine Go_ist1 dX12_findError_1 rfl ?_
  refine Go_upTo (n := tx.length) (L := fun i => [some (vr 68), some (vi (i : Int))]) (P := fun i v => v = w ∧ ∀ j, j < i → goodC j (tx.getD j 0 : Int) = true) (by repeat' (first | exact Or.inl rfl | exact Or.inr rfl | exact Or.inr (lcg (by omega)) | exact trivial | constructor)) (⟨rfl, fun j q => by omega⟩) (fun i v hi hP kn => ?_) (fun v hP => ?_)
  · try dsimp only at hP kn
    try dsimp only
    obtain ⟨rfl, hP⟩ := hP
    refine Go_ild1 dX12_findError_2 ?_
    refine Go_ald0 dX12_findError_3 ?_
    refine gf11_7 dX12_findError_4 flX12_146 (by first | assumption | rfl) ?_
    refine Go_icmp_ge (tgt := 24) dX12_findError_7 (by decide) (by constructor <;> omega) (by constructor <;> omega) (fun h7 => by omega) (fun h7 => ?_)
    refine Go_ald0 dX12_findError_10 ?_
    refine Go_ild1 dX12_findError_11 ?_
    refine Go_cV1 (d' := 2) (bc' := 0) (bs' := 0) rfl dX12_findError_12 mvX12_isGood rfl lkX12_155 (by first | assumption | rfl) rfl trivial (by decide) (by decide) (by decide) (Nat.le_of_ble_eq_true rfl) ?_
    refine e_X12_isGood h hi ?_
    refine Go_ifb_eq (tgt := 24) dX12_findError_15 (by decide)  (fun h15 => ?_) (fun h15 => ?_)
    · refine Go_ild1 dX12_findError_24 ?_
      refine Go_ireturn dX12_findError_25 rfl (by first | rfl | decide | exact nar_b | simp [narrow]) ?_
      refine kI (congrArg _ (Eq.symm (errN_of ⟨by omega, hP, fun _ => ?_⟩))) k
      exact Bool.eq_false_iff.mpr h15
    · refine Go_inc1 dX12_findError_18 rfl ?_
      refine Go_goto (tgt := 2) dX12_findError_21 (by decide) ?_
      refine Go_forget (by repeat' (first | exact Or.inl rfl | exact Or.inr rfl | exact Or.inr (lcg (by omega)) | exact trivial | constructor)) (kn _ ⟨rfl, fun j q => ?_⟩)
      by_cases e2 : j = i
      · subst e2; exact h15
      · exact hP j (by omega)
  · try dsimp only at hP
    try dsimp only
    obtain ⟨rfl, hP⟩ := hP
    refine Go_ild1 dX12_findError_2 ?_
    refine Go_ald0 dX12_findError_3 ?_
    refine gf11_7 dX12_findError_4 flX12_146 (by first | assumption | rfl) ?_
    refine Go_icmp_ge (tgt := 24) dX12_findError_7 (by decide) (by constructor <;> omega) (by constructor <;> omega) (fun h7 => ?_) (fun h7 => by omega)
    refine Go_ild1 dX12_findError_24 ?_
    refine Go_ireturn dX12_findError_25 rfl (by first | rfl | decide | exact nar_b | simp [narrow]) ?_
    refine kI (congrArg _ (Eq.symm (errN_of ⟨by omega, hP, fun q => by omega⟩))) k
theorem e_X12_firstError (h : MInv w s sv g tx) (k : ∀ w', MX w w' 0 s sv g tx → K (vi (errN tx)) none w') : Ev G yX12_firstError cX12_firstError 1 mX12_firstError none 4 0 0 [vr 68] w K X := by
  have hm := thr0.MInv h
  refine Ev_intro mvX12_firstError.1 rfl (fun h => by cases h) (allc1 rfl) (Nat.le_of_ble_eq_true rfl) (Or.inl rfl) ?_
  show Go G cX12_firstError mX12_firstError none 4 0 0 0 [some (vr 68)] [] w K X
  refine Go_ald0 dX12_firstError_0 ?_
  refine Go_iconst dX12_firstError_1 ?_
  refine pf11_0 dX12_firstError_2 flX12_59 (by first | assumption | rfl) ?_
  refine Go_ald0 dX12_firstError_5 ?_
  refine Go_cV0 (d' := 3) (bc' := 0) (bs' := 0) rfl dX12_firstError_6 mvX12_findError rfl lkX12_158 (by first | assumption | rfl) rfl trivial (by decide) (by decide) (by decide) (Nat.le_of_ble_eq_true rfl) ?_
  refine e_X12_findError hm.2.2.2 ?_
  refine Go_ireturn dX12_firstError_9 rfl (by first | rfl | decide | exact nar_b | simp [narrow]) ?_
  exact k _ (MX_q h thr0 up_s)
theorem l_X12_readsRow {y j : Int} (hj : inR j) (hl : inR (w 68 7)) (k : K (vi 0) none w) : Go G cX12_readsRow mX12_readsRow none 2 0 0 50 [some (vr 68), some (vi y), some (vi 0), some (vi j)] [] w K X := by
  refine Go_ild3 dX12_readsRow_50 ?_
  refine Go_ald0 dX12_readsRow_51 ?_
  refine gf11_7 dX12_readsRow_52 flX12_146 (by first | assumption | rfl) ?_
  refine Go_icmp_ge (tgt := 146) dX12_readsRow_55 (by decide) hj hl (fun h55 => ?_) (fun h55 => ?_)
  · refine Go_ild2 dX12_readsRow_146 ?_
    refine Go_ireturn dX12_readsRow_147 rfl (by first | rfl | decide | exact nar_b | simp [narrow]) ?_
    exact k
  · refine Go_ild2 dX12_readsRow_58 ?_
    refine Go_if_eq (tgt := 146) dX12_readsRow_59 (by decide) (by constructor <;> omega) (fun h59 => ?_) (fun h59 => by omega)
    refine Go_ild2 dX12_readsRow_146 ?_
    refine Go_ireturn dX12_readsRow_147 rfl (by first | rfl | decide | exact nar_b | simp [narrow]) ?_
    exact k
theorem e_X12_readsRow (h : MInv w s sv g tx) (h4 : 4 ≤ tx.length) (hg : errN tx = tx.length)
    (kt : ∀ w', s.1.length < 5 → wkA s.1 tx (tx.length - 3) = true → RW w' (wkL tx (tx.length - 3)) → mfr w w' → w' 68 0 = w 68 0 → K (vi 1) none w')
    (kf : ∀ w', ¬ (s.1.length < 5 ∧ wkA s.1 tx (tx.length - 3) = true) → mfr w w' → w' 68 0 = w 68 0 → K (vi 0) none w') : Ev G yX12_readsRow cX12_readsRow 4 mX12_readsRow none 2 0 0 [vr 68] w K X := by
  obtain ⟨t1, t2, t3, t4⟩ := h.2.2.2
  have h5 := h.1.1.1
  have ga := errN_all hg
  have g0 := ga 0 (by omega)
  have g2 := ga 2 (by omega)
  simp only [goodC, true_or, or_true, if_true, decide_eq_true_eq] at g0 g2
  have z0 : wkS tx 0 = 10 * ((tx.getD 2 0 : Int) - 48) + (tx.getD 0 0 : Int) - 48 := by
    show numI ((tx.getD 0 0 : Int) - 48) ((tx.getD 2 0 : Int) - 48) = _
    unfold numI
    rw [if_pos (by omega)]
    omega
  have zi := wkS_in tx 0
  refine Ev_intro mvX12_readsRow.1 rfl (fun h => by cases h) (allc1 rfl) (Nat.le_of_ble_eq_true rfl) (Or.inl rfl) ?_
  show Go G cX12_readsRow mX12_readsRow none 2 0 0 0 [some (vr 68), none, none, none] [] w K X
  by_cases q5 : s.1.length < 5
  case neg =>
    refine Go_ald0 dX12_readsRow_0 ?_
    refine Go_cVv0 (d' := 1) (bc' := 0) (bs' := 0) rfl dX12_readsRow_1 mvX12_lay rfl lkX12_114 (by first | assumption | rfl) rfl trivial (by decide) (by decide) (by decide) (Nat.le_of_ble_eq_true rfl) ?_
    refine e_X12_lay h.1 (fun w1 m1 f1 => ?_)
    have o1 := mfr.of f1 (by decide)
    have hs := o1.MInv h
    have e0 := st_n hs.1
    have en := hs.2.2.2.1
    refine Go_bipush dX12_readsRow_4 (by decide +kernel) ?_
    refine Go_ald0 dX12_readsRow_6 ?_
    refine gf11_6 dX12_readsRow_7 flX12_22 ?_
    refine Go_iconst dX12_readsRow_10 ?_
    refine Go_iald dX12_readsRow_11 (by first | assumption | rfl) trivial (by omega) (by omega) (by decide) ?_
    refine Go_bipush dX12_readsRow_12 (by decide +kernel) ?_
    refine Go_isub dX12_readsRow_14 ?_
    refine Go_imul dX12_readsRow_15 ?_
    refine Go_ald0 dX12_readsRow_16 ?_
    refine gf11_6 dX12_readsRow_17 flX12_22 ?_
    refine Go_iconst dX12_readsRow_20 ?_
    refine Go_iald dX12_readsRow_21 (by first | assumption | rfl) trivial (by omega) (by omega) (by decide) ?_
    refine Go_iadd dX12_readsRow_22 ?_
    refine Go_bipush dX12_readsRow_23 (by decide +kernel) ?_
    refine Go_isub dX12_readsRow_25 ?_
    refine Go_ist1 dX12_readsRow_26 rfl ?_
    refine Go_ald0 dX12_readsRow_27 ?_
    refine Go_iconst dX12_readsRow_28 ?_
    refine pf11_14 dX12_readsRow_29 flX12_101 (by first | assumption | rfl) ?_
    refine Go_ald0 dX12_readsRow_32 ?_
    refine gf11_1 dX12_readsRow_33 flX12_7 ?_
    refine Go_iconst dX12_readsRow_36 ?_
    refine Go_iald dX12_readsRow_37 (by first | assumption | rfl) trivial (by omega) (by omega) (by decide) ?_
    rw [show (0 : Int).toNat = 0 from rfl, up_a (by decide)]
    refine Go_iconst dX12_readsRow_38 ?_
    refine Go_icmp_ge (tgt := 46) dX12_readsRow_39 (by decide) (by constructor <;> omega) (by constructor <;> omega) (fun h39 => ?_) (fun h39 => by omega)
    refine Go_iconst dX12_readsRow_46 ?_
    refine Go_ist2 dX12_readsRow_47 rfl ?_
    refine Go_iconst dX12_readsRow_48 ?_
    refine Go_ist3 dX12_readsRow_49 rfl ?_
    exact l_X12_readsRow ⟨by decide, by decide⟩ (by rw [up_k (by decide)]; constructor <;> omega) (kf _ (fun q => q5 q.1) (o1.upd (by decide) (Or.inr ⟨by decide, by decide⟩)) (by rw [up_k (by decide), f1.at (by decide)]))
  refine Go_ald0 dX12_readsRow_0 ?_
  refine Go_cVv0 (d' := 1) (bc' := 0) (bs' := 0) rfl dX12_readsRow_1 mvX12_lay rfl lkX12_114 (by first | assumption | rfl) rfl trivial (by decide) (by decide) (by decide) (Nat.le_of_ble_eq_true rfl) ?_
  refine e_X12_lay h.1 (fun w1 m1 f1 => ?_)
  have o1 := mfr.of f1 (by decide)
  have hs := o1.MInv h
  have e0 := st_n hs.1
  obtain ⟨u1, u2, u3, u4⟩ := hs.2.2.2
  refine Go_bipush dX12_readsRow_4 (by decide +kernel) ?_
  refine Go_ald0 dX12_readsRow_6 ?_
  refine gf11_6 dX12_readsRow_7 flX12_22 ?_
  refine Go_iconst dX12_readsRow_10 ?_
  refine Go_iald dX12_readsRow_11 (by first | assumption | rfl) trivial (by omega) (by omega) (by decide) ?_
  rw [show (2 : Int).toNat = 2 from rfl, u3 2 (by omega)]
  refine Go_bipush dX12_readsRow_12 (by decide +kernel) ?_
  refine Go_isub dX12_readsRow_14 ?_
  refine Go_imul dX12_readsRow_15 ?_
  refine Go_ald0 dX12_readsRow_16 ?_
  refine gf11_6 dX12_readsRow_17 flX12_22 ?_
  refine Go_iconst dX12_readsRow_20 ?_
  refine Go_iald dX12_readsRow_21 (by first | assumption | rfl) trivial (by omega) (by omega) (by decide) ?_
  rw [show (0 : Int).toNat = 0 from rfl, u3 0 (by omega)]
  refine Go_iadd dX12_readsRow_22 ?_
  refine Go_bipush dX12_readsRow_23 (by decide +kernel) ?_
  refine Go_isub dX12_readsRow_25 ?_
  refine Go_ist1 dX12_readsRow_26 rfl ?_
  refine Go_ald0 dX12_readsRow_27 ?_
  refine Go_iconst dX12_readsRow_28 ?_
  refine pf11_14 dX12_readsRow_29 flX12_101 (by first | assumption | rfl) ?_
  refine Go_ald0 dX12_readsRow_32 ?_
  refine gf11_1 dX12_readsRow_33 flX12_7 ?_
  refine Go_iconst dX12_readsRow_36 ?_
  refine Go_iald dX12_readsRow_37 (by first | assumption | rfl) trivial (by omega) (by omega) (by decide) ?_
  rw [show (0 : Int).toNat = 0 from rfl, up_a (by decide)]
  refine Go_iconst dX12_readsRow_38 ?_
  refine Go_icmp_ge (tgt := 46) dX12_readsRow_39 (by decide) (by constructor <;> omega) (by constructor <;> omega) (fun h39 => by omega) (fun h39 => ?_)
  refine Go_iconst dX12_readsRow_42 ?_
  refine Go_goto (tgt := 47) dX12_readsRow_43 (by decide) ?_
  refine Go_ist2 dX12_readsRow_47 rfl ?_
  refine Go_iconst dX12_readsRow_48 ?_
  refine Go_ist3 dX12_readsRow_49 rfl ?_
  refine Go_upTo (n := tx.length - 3) (L := fun i => [some (vr 68), some (vi (wkS tx (i - 1))), some (vi 1), some (vi ((i : Int) + 3))]) (P := fun i v => mfr w v ∧ v 68 0 = w 68 0 ∧ RW v (wkL tx i) ∧ wkA s.1 tx i = true ∧ ∀ j, j < 100 → v 74 j = if j ∈ wkL tx i then 9 else ow s.1 j) ?_ ⟨o1.upd (by decide) (Or.inr ⟨by decide, by decide⟩), by rw [up_k (by decide), f1.at (by decide)], ⟨up_s, by simp [wkL], fun j hj => by simp [wkL] at hj⟩, rfl, fun j hj => by rw [up_a (by decide), (m1 j hj).1]; simp [wkL]⟩ (fun i v hi hP kn => ?_) (fun v hP => ?_)
  · rw [show wkS tx (0 - 1) = wkS tx 0 from rfl, z0]; exact (by repeat' (first | exact Or.inl rfl | exact Or.inr rfl | exact Or.inr (lcg (by omega)) | exact trivial | constructor))
  · try dsimp only at hP kn
    try dsimp only
    obtain ⟨o2, c0, r2, a2, m2⟩ := hP
    obtain ⟨u1, u2, u3, u4⟩ := (o2.MInv h).2.2.2
    have r14 := r2.1
    have r60 := r2.2.1
    rw [wkL_len] at r14 r60
    have bi := wkS_in tx i
    have bo := ow_in s.1 (wkS tx i).toNat
    have e74 : 0 ≤ wkS tx i → v 74 (wkS tx i).toNat = if (wkS tx i).toNat ∈ wkL tx i then 9 else ow s.1 (wkS tx i).toNat := fun q => m2 _ (by omega)
    have ir : 0 ≤ wkS tx i → inR (v 74 (wkS tx i).toNat) := fun q => by rw [e74 q]; split <;> constructor <;> omega
    have fin1 : (¬ (0 ≤ wkS tx i ∧ v 74 (wkS tx i).toNat = -1) ∨ ¬ i < 60) → wkA s.1 tx (tx.length - 3) = false := fun q => wkA_false (i := i) hi (by
      unfold wkOK
      rw [decide_eq_false_iff_not]
      intro x
      rcases q with q | q
      · exact q ⟨x.1, by rw [e74 x.1, if_neg x.2.2.1]; exact x.2.1⟩
      · exact q x.2.2.2)
    have bye : ∀ j : Int, inR j → wkA s.1 tx (tx.length - 3) = false → Go G cX12_readsRow mX12_readsRow none 2 0 0 50 [some (vr 68), some (vi (wkS tx i)), some (vi 0), some (vi j)] [] v K X := fun j hj q => l_X12_readsRow hj (by rw [u1]; constructor <;> omega) (kf _ (fun x => by rw [q] at x; cases x.2) o2 c0)
    have rest : Go G cX12_readsRow mX12_readsRow none 2 0 0 85 [some (vr 68), some (vi (wkS tx i)), some (vi 1), some (vi ((i : Int) + 3))] [] v K X := by
      by_cases q9 : 0 ≤ wkS tx i ∧ v 74 (wkS tx i).toNat = -1
      case neg =>
        refine Go_ald0 dX12_readsRow_85 ?_
        refine Go_ild1 dX12_readsRow_86 ?_
        refine Go_cV1 (d' := 0) (bc' := 0) (bs' := 0) rfl dX12_readsRow_87 mvX12_isFree rfl lkX12_87 (by first | assumption | rfl) rfl trivial (by decide) (by decide) (by decide) (Nat.le_of_ble_eq_true rfl) ?_
        refine e_X12_isFree bi ir ?_
        refine Go_ifb_eq (tgt := 106) dX12_readsRow_90 (by decide)  (fun h90 => ?_) (fun h90 => by exact absurd h90 q9)
        refine Go_iconst dX12_readsRow_106 ?_
        refine Go_ist2 dX12_readsRow_107 rfl ?_
        refine Go_ild2 dX12_readsRow_108 ?_
        refine Go_if_eq (tgt := 140) dX12_readsRow_109 (by decide) (by constructor <;> omega) (fun h109 => ?_) (fun h109 => by omega)
        refine Go_inc3 dX12_readsRow_140 rfl ?_
        refine Go_goto (tgt := 50) dX12_readsRow_143 (by decide) ?_
        exact bye _ ⟨by omega, by omega⟩ (fin1 (Or.inl q9))
      by_cases q60 : i < 60
      case neg =>
        refine Go_ald0 dX12_readsRow_85 ?_
        refine Go_ild1 dX12_readsRow_86 ?_
        refine Go_cV1 (d' := 0) (bc' := 0) (bs' := 0) rfl dX12_readsRow_87 mvX12_isFree rfl lkX12_87 (by first | assumption | rfl) rfl trivial (by decide) (by decide) (by decide) (Nat.le_of_ble_eq_true rfl) ?_
        refine e_X12_isFree bi ir ?_
        refine Go_ifb_eq (tgt := 106) dX12_readsRow_90 (by decide)  (fun h90 => by exact absurd q9 h90) (fun h90 => ?_)
        refine Go_ald0 dX12_readsRow_93 ?_
        refine gf11_14 dX12_readsRow_94 flX12_101 (by first | assumption | rfl) ?_
        refine Go_bipush dX12_readsRow_97 (by decide +kernel) ?_
        refine Go_icmp_ge (tgt := 106) dX12_readsRow_99 (by decide) (by constructor <;> omega) (by constructor <;> omega) (fun h99 => ?_) (fun h99 => by omega)
        refine Go_iconst dX12_readsRow_106 ?_
        refine Go_ist2 dX12_readsRow_107 rfl ?_
        refine Go_ild2 dX12_readsRow_108 ?_
        refine Go_if_eq (tgt := 140) dX12_readsRow_109 (by decide) (by constructor <;> omega) (fun h109 => ?_) (fun h109 => by omega)
        refine Go_inc3 dX12_readsRow_140 rfl ?_
        refine Go_goto (tgt := 50) dX12_readsRow_143 (by decide) ?_
        exact bye _ ⟨by omega, by omega⟩ (fin1 (Or.inr q60))
      have eo := e74 q9.1
      have nin : (wkS tx i).toNat ∉ wkL tx i := fun x => by rw [if_pos x] at eo; omega
      rw [if_neg nin] at eo
      have ok : wkOK s.1 tx i = true := by unfold wkOK; rw [decide_eq_true_eq]; exact ⟨q9.1, by omega, nin, q60⟩
      refine Go_ald0 dX12_readsRow_85 ?_
      refine Go_ild1 dX12_readsRow_86 ?_
      refine Go_cV1 (d' := 0) (bc' := 0) (bs' := 0) rfl dX12_readsRow_87 mvX12_isFree rfl lkX12_87 (by first | assumption | rfl) rfl trivial (by decide) (by decide) (by decide) (Nat.le_of_ble_eq_true rfl) ?_
      refine e_X12_isFree bi ir ?_
      refine Go_ifb_eq (tgt := 106) dX12_readsRow_90 (by decide)  (fun h90 => by exact absurd q9 h90) (fun h90 => ?_)
      refine Go_ald0 dX12_readsRow_93 ?_
      refine gf11_14 dX12_readsRow_94 flX12_101 (by first | assumption | rfl) ?_
      refine Go_bipush dX12_readsRow_97 (by decide +kernel) ?_
      refine Go_icmp_ge (tgt := 106) dX12_readsRow_99 (by decide) (by constructor <;> omega) (by constructor <;> omega) (fun h99 => by omega) (fun h99 => ?_)
      refine Go_iconst dX12_readsRow_102 ?_
      refine Go_goto (tgt := 107) dX12_readsRow_103 (by decide) ?_
      refine Go_ist2 dX12_readsRow_107 rfl ?_
      refine Go_ild2 dX12_readsRow_108 ?_
      refine Go_if_eq (tgt := 140) dX12_readsRow_109 (by decide) (by constructor <;> omega) (fun h109 => by omega) (fun h109 => ?_)
      refine Go_ald0 dX12_readsRow_112 ?_
      refine gf11_8 dX12_readsRow_113 flX12_25 ?_
      refine Go_ild1 dX12_readsRow_116 ?_
      refine Go_bipush dX12_readsRow_117 (by decide +kernel) ?_
      refine Go_iast dX12_readsRow_119 (by first | assumption | rfl) trivial (by omega) (by omega) (by decide) ?_
      refine Go_ald0 dX12_readsRow_120 ?_
      refine gf11_13 dX12_readsRow_121 flX12_37 ?_
      refine Go_ald0 dX12_readsRow_124 ?_
      refine gf11_14 dX12_readsRow_125 flX12_101 (by first | assumption | rfl) ?_
      rw [up_a (by decide), r14]
      refine Go_ild1 dX12_readsRow_128 ?_
      refine Go_iast dX12_readsRow_129 (by first | assumption | rfl) trivial (by omega) (by omega) (by decide) ?_
      refine Go_ald0 dX12_readsRow_130 ?_
      refine Go_dup dX12_readsRow_131 ?_
      refine gf11_14 dX12_readsRow_132 flX12_101 (by first | assumption | rfl) ?_
      refine Go_iconst dX12_readsRow_135 ?_
      refine Go_iadd dX12_readsRow_136 ?_
      refine pf11_14 dX12_readsRow_137 flX12_101 (by first | assumption | rfl) ?_
      refine Go_inc3 dX12_readsRow_140 rfl ?_
      refine Go_goto (tgt := 50) dX12_readsRow_143 (by decide) ?_
      rw [Int.toNat_natCast, up_a (a := 78) (b := 68) (by decide), up_a (a := 74) (b := 68) (by decide), r14]
      refine Go_forget (ls' := _) ?_ (kn _ ⟨((o2.upd (by decide) (Or.inl (by decide))).upd (by decide) (Or.inl (by decide))).upd (by decide) (Or.inr ⟨by decide, by decide⟩), by rw [up_k (by decide), up_a (by decide), up_a (by decide)]; exact c0, ⟨by rw [up_s, wkL_len]; rfl, by rw [wkL_len]; omega, fun j hj => ?_⟩, by rw [wkA_succ, a2, ok]; rfl, fun j hj => ?_⟩)
      · rw [show i + 1 - 1 = i by omega]; exact (by repeat' (first | exact Or.inl rfl | exact Or.inr rfl | exact Or.inr (lcg (by omega)) | exact trivial | constructor))
      · rw [wkL_len] at hj
        rw [up_a (by decide), wkL_succ, gD_app, wkL_len]
        by_cases c : j = i
        · subst c; rw [up_s, if_neg (by omega), Nat.sub_self]; show _ = (((wkS tx j).toNat : Nat) : Int); omega
        · rw [up_k c, up_a (by decide), if_pos (by omega)]; exact r2.2.2 j (by rw [wkL_len]; omega)
      · rw [up_a (by decide), up_a (by decide), wkL_succ]
        by_cases c : j = (wkS tx i).toNat
        · rw [c, up_s, if_pos (by simp)]
        · rw [up_k c, m2 j hj]
          by_cases c2 : j ∈ wkL tx i
          · rw [if_pos c2, if_pos (List.mem_append_left _ c2)]
          · rw [if_neg c2, if_neg (fun x => by rcases List.mem_append.mp x with x | x; exact c2 x; rw [List.mem_singleton] at x; exact c x)]
    by_cases qi : i = 0
    · subst qi
      refine Go_ild3 dX12_readsRow_50 ?_
      refine Go_ald0 dX12_readsRow_51 ?_
      refine gf11_7 dX12_readsRow_52 flX12_146 (by first | assumption | rfl) ?_
      refine Go_icmp_ge (tgt := 146) dX12_readsRow_55 (by decide) (by constructor <;> omega) (by constructor <;> omega) (fun h55 => by omega) (fun h55 => ?_)
      refine Go_ild2 dX12_readsRow_58 ?_
      refine Go_if_eq (tgt := 146) dX12_readsRow_59 (by decide) (by constructor <;> omega) (fun h59 => by omega) (fun h59 => ?_)
      refine Go_ild3 dX12_readsRow_62 ?_
      refine Go_iconst dX12_readsRow_63 ?_
      refine Go_icmp_ne (tgt := 71) dX12_readsRow_64 (by decide) (by constructor <;> omega) (by constructor <;> omega) (fun h64 => by omega) (fun h64 => ?_)
      refine Go_ild1 dX12_readsRow_67 ?_
      refine Go_goto (tgt := 84) dX12_readsRow_68 (by decide) ?_
      refine Go_ist1 dX12_readsRow_84 rfl ?_
      exact rest
    · have eN : nbI (wkS tx (i - 1)) (ixI (tx.getD (i + 3) 0 : Int)) = wkS tx i := by
        have : wkS tx (i - 1 + 1) = nbI (wkS tx (i - 1)) (ixI (tx.getD (i - 1 + 4) 0 : Int)) := rfl
        rw [show i - 1 + 1 = i by omega, show i - 1 + 4 = i + 3 by omega] at this
        exact this.symm
      have gx := gx_of (j := i - 1) (c := (tx.getD (i + 3) 0 : Int)) (by have := ga (i + 3) (by omega); rw [show i - 1 + 4 = i + 3 by omega]; exact this)
      have bx := ixI_in (tx.getD (i + 3) 0 : Int)
      have bc := t4.at (i + 3)
      have b1 := wkS_in tx (i - 1)
      have p0 : 0 ≤ wkS tx (i - 1) := by
        have := List.all_eq_true.mp a2 (i - 1) (List.mem_range.mpr (by omega))
        unfold wkOK at this
        rw [decide_eq_true_eq] at this
        exact this.1
      refine Go_ild3 dX12_readsRow_50 ?_
      refine Go_ald0 dX12_readsRow_51 ?_
      refine gf11_7 dX12_readsRow_52 flX12_146 (by first | assumption | rfl) ?_
      refine Go_icmp_ge (tgt := 146) dX12_readsRow_55 (by decide) (by constructor <;> omega) (by constructor <;> omega) (fun h55 => by omega) (fun h55 => ?_)
      refine Go_ild2 dX12_readsRow_58 ?_
      refine Go_if_eq (tgt := 146) dX12_readsRow_59 (by decide) (by constructor <;> omega) (fun h59 => by omega) (fun h59 => ?_)
      refine Go_ild3 dX12_readsRow_62 ?_
      refine Go_iconst dX12_readsRow_63 ?_
      refine Go_icmp_ne (tgt := 71) dX12_readsRow_64 (by decide) (by constructor <;> omega) (by constructor <;> omega) (fun h64 => ?_) (fun h64 => by omega)
      refine Go_ild1 dX12_readsRow_71 ?_
      refine Go_ald0 dX12_readsRow_72 ?_
      refine gf11_6 dX12_readsRow_73 flX12_22 ?_
      refine Go_ild3 dX12_readsRow_76 ?_
      refine Go_iald dX12_readsRow_77 (by first | assumption | rfl) trivial (by omega) (by omega) (by decide) ?_
      rw [show ((i : Int) + 3).toNat = i + 3 by omega, u3 (i + 3) (by omega)]
      refine Go_cS1 (d' := 1) (bc' := 0) (bs' := 0) rfl dX12_readsRow_78 msX12_directionOf rfl lkX12_152 (by decide) (by decide) (by decide) (Nat.le_of_ble_eq_true rfl) ?_
      refine e_X12_directionOf (by constructor <;> omega) ?_
      rw [show ixI (tx.getD (i + 3) 0 : Int) = (((ixI (tx.getD (i + 3) 0 : Int)).toNat : Nat) : Int) by omega]
      refine Go_cS2 (d' := 1) (bc' := 0) (bs' := 0) rfl dX12_readsRow_81 msX12_next rfl lkX12_84 (by decide) (by decide) (by decide) (Nat.le_of_ble_eq_true rfl) ?_
      refine e_X12_next p0 b1.2 (by omega) ?_
      rw [Int.toNat_of_nonneg gx, eN]
      refine Go_ist1 dX12_readsRow_84 rfl ?_
      exact rest
  · try dsimp only at hP
    obtain ⟨o2, c0, r2, a2, m2⟩ := hP
    obtain ⟨u1, u2, u3, u4⟩ := (o2.MInv h).2.2.2
    refine Go_ild3 dX12_readsRow_50 ?_
    refine Go_ald0 dX12_readsRow_51 ?_
    refine gf11_7 dX12_readsRow_52 flX12_146 (by first | assumption | rfl) ?_
    refine Go_icmp_ge (tgt := 146) dX12_readsRow_55 (by decide) (by constructor <;> omega) (by constructor <;> omega) (fun h55 => ?_) (fun h55 => by omega)
    refine Go_ild2 dX12_readsRow_146 ?_
    refine Go_ireturn dX12_readsRow_147 rfl (by first | rfl | decide | exact nar_b | simp [narrow]) ?_
    exact kt _ q5 a2 r2 o2 c0
theorem e_X12_draw (h : MInv w s sv g tx)
    (k : ∀ w', 4 ≤ tx.length → errN tx = tx.length → s.1.length < 5 → wkA s.1 tx (tx.length - 3) = true → MX w w' 0 (s.1 ++ [wkL tx (tx.length - 3)], s.2.1, s.2.2.1, s.2.2.2) (pushS sv s) g [] → K (vi s.1.length) none w')
    (x1 : ∀ w', ¬ (4 ≤ tx.length ∧ errN tx = tx.length) → MX w w' 1 s sv g tx → K (vi 0) none w') (x2 : ∀ w', 4 ≤ tx.length → errN tx = tx.length → ¬ (s.1.length < 5 ∧ wkA s.1 tx (tx.length - 3) = true) → MX w w' 2 s sv g tx → K (vi 0) none w') : Ev G yX12_draw cX12_draw 1 mX12_draw none 4 0 0 [vr 68] w K X := by
  have hm := thr0.MInv h
  have bt := errN_le tx
  obtain ⟨t1, t2, t3, t4⟩ := hm.2.2.2
  refine Ev_intro mvX12_draw.1 rfl (fun h => by cases h) (allc1 rfl) (Nat.le_of_ble_eq_true rfl) (Or.inl rfl) ?_
  show Go G cX12_draw mX12_draw none 4 0 0 0 [some (vr 68)] [] w K X
  by_cases q4 : 4 ≤ tx.length ∧ errN tx = tx.length
  case neg =>
    refine Go_ald0 dX12_draw_0 ?_
    refine Go_iconst dX12_draw_1 ?_
    refine pf11_0 dX12_draw_2 flX12_59 (by first | assumption | rfl) ?_
    refine Go_ald0 dX12_draw_5 ?_
    refine Go_cV0 (d' := 3) (bc' := 0) (bs' := 0) rfl dX12_draw_6 mvX12_findError rfl lkX12_158 (by first | assumption | rfl) rfl trivial (by decide) (by decide) (by decide) (Nat.le_of_ble_eq_true rfl) ?_
    refine e_X12_findError hm.2.2.2 ?_
    refine Go_ald0 dX12_draw_9 ?_
    refine gf11_7 dX12_draw_10 flX12_146 (by first | assumption | rfl) ?_
    refine Go_icmp_lt (tgt := 24) dX12_draw_13 (by decide) (by constructor <;> omega) (by constructor <;> omega) (fun h13 => ?_) (fun h13 => ?_)
    · refine Go_ald0 dX12_draw_24 ?_
      refine Go_iconst dX12_draw_25 ?_
      refine Go_cV1 (d' := 0) (bc' := 0) (bs' := 0) rfl dX12_draw_26 mvX12_fails rfl lkX12_78 (by first | assumption | rfl) rfl trivial (by decide) (by decide) (by decide) (Nat.le_of_ble_eq_true rfl) ?_
      refine e_X12_fails ?_
      refine Go_ireturn dX12_draw_29 rfl (by first | rfl | decide | exact nar_b | simp [narrow]) ?_
      exact x1 _ q4 (MX_fail h)
    · refine Go_ald0 dX12_draw_16 ?_
      refine gf11_7 dX12_draw_17 flX12_146 (by first | assumption | rfl) ?_
      refine Go_iconst dX12_draw_20 ?_
      refine Go_icmp_ge (tgt := 30) dX12_draw_21 (by decide) (by constructor <;> omega) (by constructor <;> omega) (fun h21 => by omega) (fun h21 => ?_)
      refine Go_ald0 dX12_draw_24 ?_
      refine Go_iconst dX12_draw_25 ?_
      refine Go_cV1 (d' := 0) (bc' := 0) (bs' := 0) rfl dX12_draw_26 mvX12_fails rfl lkX12_78 (by first | assumption | rfl) rfl trivial (by decide) (by decide) (by decide) (Nat.le_of_ble_eq_true rfl) ?_
      refine e_X12_fails ?_
      refine Go_ireturn dX12_draw_29 rfl (by first | rfl | decide | exact nar_b | simp [narrow]) ?_
      exact x1 _ q4 (MX_fail h)
  refine Go_ald0 dX12_draw_0 ?_
  refine Go_iconst dX12_draw_1 ?_
  refine pf11_0 dX12_draw_2 flX12_59 (by first | assumption | rfl) ?_
  refine Go_ald0 dX12_draw_5 ?_
  refine Go_cV0 (d' := 3) (bc' := 0) (bs' := 0) rfl dX12_draw_6 mvX12_findError rfl lkX12_158 (by first | assumption | rfl) rfl trivial (by decide) (by decide) (by decide) (Nat.le_of_ble_eq_true rfl) ?_
  refine e_X12_findError hm.2.2.2 ?_
  refine Go_ald0 dX12_draw_9 ?_
  refine gf11_7 dX12_draw_10 flX12_146 (by first | assumption | rfl) ?_
  refine Go_icmp_lt (tgt := 24) dX12_draw_13 (by decide) (by constructor <;> omega) (by constructor <;> omega) (fun h13 => by omega) (fun h13 => ?_)
  refine Go_ald0 dX12_draw_16 ?_
  refine gf11_7 dX12_draw_17 flX12_146 (by first | assumption | rfl) ?_
  refine Go_iconst dX12_draw_20 ?_
  refine Go_icmp_ge (tgt := 30) dX12_draw_21 (by decide) (by constructor <;> omega) (by constructor <;> omega) (fun h21 => ?_) (fun h21 => by omega)
  refine Go_ald0 dX12_draw_30 ?_
  refine Go_cV0 (d' := 2) (bc' := 0) (bs' := 0) rfl dX12_draw_31 mvX12_readsRow rfl lkX12_161 (by first | assumption | rfl) rfl trivial (by decide) (by decide) (by decide) (Nat.le_of_ble_eq_true rfl) ?_
  refine e_X12_readsRow hm q4.1 q4.2 (fun w1 a1 a2 r1 o1 c1 => ?_) (fun w1 a1 o1 c1 => ?_)
  · have hm1 := o1.MInv hm
    have oA : OKp (s.1 ++ [wkL tx (tx.length - 3)]) := wk_path h.1.1 a1 (by omega) a2 (fun j hj => gx_of (errN_all q4.2 (j + 4) (by omega)))
    refine Go_if_ne (tgt := 43) dX12_draw_34 (by decide) (by constructor <;> omega) (fun h34 => ?_) (fun h34 => by omega)
    refine Go_ald0 dX12_draw_43 ?_
    refine Go_cVv0 (d' := 0) (bc' := 0) (bs' := 0) rfl dX12_draw_44 mvX12_save rfl lkX12_81 (by first | assumption | rfl) rfl trivial (by decide) (by decide) (by decide) (Nat.le_of_ble_eq_true rfl) ?_
    refine e_X12_save hm1.1 hm1.2.1 (fun w2 v2 f2 g2 => ?_)
    have hm2 := MI_save hm1 v2 f2 g2
    have f9 : frm w w2 mcs := ((frm.rfl.up (by decide) : frm w (up w 68 0 0) mcs).trans (o1.1.mono scr_mcs) (fun _ h => h)).trans f2 (by decide)
    have t0 : w2 68 0 = 0 := by rw [g2 0 (by decide), c1, up_s]
    have r2 := (r1.frm f2 (by decide) (g2 14 (by decide))).frm (w' := up w2 68 7 0) (A := [68]) (frm.rfl.up (by decide)) (by decide) (up_k (by decide))
    have rc2 := hm2.1.rc.frm (w' := up w2 68 7 0) (A := [68]) (frm.rfl.up (by decide)) (by decide)
    have ha := st_a hm2.1
    refine Go_ald0 dX12_draw_47 ?_
    refine Go_iconst dX12_draw_48 ?_
    refine pf11_7 dX12_draw_49 flX12_146 (by first | assumption | rfl) ?_
    refine Go_ald0 dX12_draw_52 ?_
    refine Go_cV0 (d' := 1) (bc' := 0) (bs' := 0) rfl dX12_draw_53 mvX12_addPath rfl lkX12_117 (by first | assumption | rfl) rfl trivial (by decide) (by decide) (by decide) (Nat.le_of_ble_eq_true rfl) ?_
    refine e_X12_addPath rc2 (by omega) r2 (fun w3 r3 f3 g3 => ?_)
    refine Go_ireturn dX12_draw_56 rfl (by first | rfl | decide | exact nar_b | simp [narrow]) ?_
    have f4 : frm w2 w3 [68, 69] := ((frm.rfl.up (by decide) : frm w2 (up w2 68 7 0) [68]).mono (by decide)).trans f3 (by decide)
    refine k _ q4.1 q4.2 a1 a2 ⟨⟨RC.st r3 oA (by simp) (fun q hq => pth_app) ?_ ?_ ?_, hm2.2.1.frm f4 (by decide) ?_, hm2.2.2.1.frm f4 (by decide) (by decide), ?_⟩, ?_, f9.trans f4 (by decide)⟩
    · rw [g3 1 (by omega) (by omega), up_a (by decide)]; exact ha.1
    · rw [g3 2 (by omega) (by omega), up_a (by decide)]; exact ha.2.1
    · rw [g3 3 (by omega) (by omega), up_a (by decide)]; exact ha.2.2
    · rw [f3.at (by decide), up_k (by decide)]
    · exact ⟨by rw [f3.at (by decide), up_s]; rfl, by simp, fun j hj => by simp at hj, fun x hx => by simp at hx⟩
    · rw [f3.at (by decide), up_k (by decide)]; exact t0
  · skip
    refine Go_if_ne (tgt := 43) dX12_draw_34 (by decide) (by constructor <;> omega) (fun h34 => by omega) (fun h34 => ?_)
    refine Go_ald0 dX12_draw_37 ?_
    refine Go_iconst dX12_draw_38 ?_
    refine Go_cV1 (d' := 0) (bc' := 0) (bs' := 0) rfl dX12_draw_39 mvX12_fails rfl lkX12_78 (by first | assumption | rfl) rfl trivial (by decide) (by decide) (by decide) (Nat.le_of_ble_eq_true rfl) ?_
    refine e_X12_fails ?_
    refine Go_ireturn dX12_draw_42 rfl (by first | rfl | decide | exact nar_b | simp [narrow]) ?_
    exact x2 _ q4.1 q4.2 a1 ⟨((thr0.trans o1).upd (by decide) (Or.inr ⟨by decide, by decide⟩)).MInv h, up_s, ((thr0.trans o1).1.mono scr_mcs).up (by decide)⟩
theorem e_X12_write (h : MInv w s sv g tx) (h1 : inR z1)
    (k : ∀ w' (p : Nat), z1 = p → p < s.1.length → MX w w' 0 s sv g (wrT (pth s.1 p)) → K (vi ((wrT (pth s.1 p)).length)) none w')
    (x1 : ∀ w', ¬ (0 ≤ z1 ∧ z1 < s.1.length) → MX w w' 1 s sv g tx → K (vi 0) none w') : Ev G yX12_write cX12_write 4 mX12_write none 3 0 0 [vr 68, vi z1] w K X := by
  have hm := thr0.MInv h
  refine Ev_intro mvX12_write.1 rfl (fun h => by cases h) (allc1 rfl) (Nat.le_of_ble_eq_true rfl) (Or.inl rfl) ?_
  show Go G cX12_write mX12_write none 3 0 0 0 [some (vr 68), some (vi z1), none, none] [] w K X
  by_cases c : 0 ≤ z1 ∧ z1 < s.1.length
  case neg =>
    refine Go_ald0 dX12_write_0 ?_
    refine Go_iconst dX12_write_1 ?_
    refine pf11_0 dX12_write_2 flX12_59 (by first | assumption | rfl) ?_
    refine Go_ald0 dX12_write_5 ?_
    refine Go_ild1 dX12_write_6 ?_
    refine Go_cV1 (d' := 1) (bc' := 0) (bs' := 0) rfl dX12_write_7 mvX12_isPath rfl lkX12_66 (by first | assumption | rfl) rfl trivial (by decide) (by decide) (by decide) (Nat.le_of_ble_eq_true rfl) ?_
    refine e_X12_isPath hm.1 h1 ?_
    refine Go_ifb_ne (tgt := 19) dX12_write_10 (by decide)  (fun h10 => by exact absurd h10 c) (fun h10 => ?_)
    refine Go_ald0 dX12_write_13 ?_
    refine Go_iconst dX12_write_14 ?_
    refine Go_cV1 (d' := 0) (bc' := 0) (bs' := 0) rfl dX12_write_15 mvX12_fails rfl lkX12_78 (by first | assumption | rfl) rfl trivial (by decide) (by decide) (by decide) (Nat.le_of_ble_eq_true rfl) ?_
    refine e_X12_fails ?_
    refine Go_ireturn dX12_write_18 rfl (by first | rfl | decide | exact nar_b | simp [narrow]) ?_
    exact x1 _ c (MX_fail h)
  obtain ⟨p, rfl⟩ := Int.eq_ofNat_of_zero_le c.1
  have hp : p < s.1.length := by omega
  have hl := h.1.1.len hp
  have hx := h.1.1.lt p
  have hz := hx.at 0
  have ad := h.1.1.adj hp
  have wl : ∀ j, j < (pth s.1 p).length - 1 → (wrT (pth s.1 p)).getD (4 + j) 0 = (urdlI (stJ (pth s.1 p) j).toNat).toNat := fun j hj => by
    unfold wrT
    rw [gD_app, if_neg (by simp), show 4 + j - [48 + (pth s.1 p).getD 0 0 % 10, 44, 48 + (pth s.1 p).getD 0 0 / 10, 58].length = j by simp]
    exact rgD hj
  have wn : (wrT (pth s.1 p)).length = 4 + ((pth s.1 p).length - 1) := by unfold wrT; simp; omega
  refine Go_ald0 dX12_write_0 ?_
  refine Go_iconst dX12_write_1 ?_
  refine pf11_0 dX12_write_2 flX12_59 (by first | assumption | rfl) ?_
  refine Go_ald0 dX12_write_5 ?_
  refine Go_ild1 dX12_write_6 ?_
  refine Go_cV1 (d' := 1) (bc' := 0) (bs' := 0) rfl dX12_write_7 mvX12_isPath rfl lkX12_66 (by first | assumption | rfl) rfl trivial (by decide) (by decide) (by decide) (Nat.le_of_ble_eq_true rfl) ?_
  refine e_X12_isPath hm.1 h1 ?_
  refine Go_ifb_ne (tgt := 19) dX12_write_10 (by decide)  (fun h10 => ?_) (fun h10 => by exact absurd c h10)
  refine Go_ald0 dX12_write_19 ?_
  refine Go_ild1 dX12_write_20 ?_
  refine Go_iconst dX12_write_21 ?_
  refine Go_cV2 (d' := 0) (bc' := 0) (bs' := 0) rfl dX12_write_22 mvX12_siteOf rfl lkX12_74 (by first | assumption | rfl) rfl trivial (by decide) (by decide) (by decide) (Nat.le_of_ble_eq_true rfl) ?_
  refine e_X12_siteOf (k0 := 0) hm.1 hp rfl (by omega) ?_
  refine Go_ist2 dX12_write_25 rfl ?_
  refine Go_ald0 dX12_write_26 ?_
  refine gf11_6 dX12_write_27 flX12_22 ?_
  refine Go_iconst dX12_write_30 ?_
  refine Go_bipush dX12_write_31 (by decide +kernel) ?_
  refine Go_ild2 dX12_write_33 ?_
  refine Go_bipush dX12_write_34 (by decide +kernel) ?_
  refine Go_irem dX12_write_36 (by omega) (by omega) (by omega) (by omega) ?_
  refine Go_iadd dX12_write_37 ?_
  refine Go_iast dX12_write_38 (by first | assumption | rfl) trivial (by omega) (by omega) (by decide) ?_
  refine Go_ald0 dX12_write_39 ?_
  refine gf11_6 dX12_write_40 flX12_22 ?_
  refine Go_iconst dX12_write_43 ?_
  refine Go_bipush dX12_write_44 (by decide +kernel) ?_
  refine Go_iast dX12_write_46 (by first | assumption | rfl) trivial (by omega) (by omega) (by decide) ?_
  refine Go_ald0 dX12_write_47 ?_
  refine gf11_6 dX12_write_48 flX12_22 ?_
  refine Go_iconst dX12_write_51 ?_
  refine Go_bipush dX12_write_52 (by decide +kernel) ?_
  refine Go_ild2 dX12_write_54 ?_
  refine Go_bipush dX12_write_55 (by decide +kernel) ?_
  refine Go_idiv dX12_write_57 (by omega) (by omega) (by omega) (by omega) ?_
  refine Go_iadd dX12_write_58 ?_
  refine Go_iast dX12_write_59 (by first | assumption | rfl) trivial (by omega) (by omega) (by decide) ?_
  refine Go_ald0 dX12_write_60 ?_
  refine gf11_6 dX12_write_61 flX12_22 ?_
  refine Go_iconst dX12_write_64 ?_
  refine Go_bipush dX12_write_65 (by decide +kernel) ?_
  refine Go_iast dX12_write_67 (by first | assumption | rfl) trivial (by omega) (by omega) (by decide) ?_
  refine Go_ald0 dX12_write_68 ?_
  refine Go_iconst dX12_write_69 ?_
  refine pf11_7 dX12_write_70 flX12_146 (by first | assumption | rfl) ?_
  rw [show (0 : Int).toNat = 0 from rfl, show (1 : Int).toNat = 1 from rfl, show (2 : Int).toNat = 2 from rfl, show (3 : Int).toNat = 3 from rfl]
  refine Go_iconst dX12_write_73 ?_
  refine Go_ist3 dX12_write_74 rfl ?_
  refine Go_upTo (n := (pth s.1 p).length - 1) (L := fun i => [some (vr 68), some (vi (p : Int)), some (vi ((pth s.1 p).getD 0 0 : Int)), some (vi ((i : Int) + 1))]) (P := fun i v => v 68 7 = ((4 + i : Nat) : Int) ∧ v 68 0 = 0 ∧ v 68 3 = w 68 3 ∧ frm w v [68, 73] ∧ ∀ j, j < 4 + i → v 73 j = ((wrT (pth s.1 p)).getD j 0 : Int)) ((by repeat' (first | exact Or.inl rfl | exact Or.inr rfl | exact Or.inr (lcg (by omega)) | exact trivial | constructor))) ⟨up_s, by rw [up_k (by decide), up_a (by decide), up_a (by decide), up_a (by decide), up_a (by decide), up_s], by rw [up_k (by decide), up_a (by decide), up_a (by decide), up_a (by decide), up_a (by decide), up_k (by decide)], (((((frm.rfl.up (by decide)).up (by decide)).up (by decide)).up (by decide)).up (by decide)).up (by decide), fun j hj => ?_⟩ (fun i v hi hP kn => ?_) (fun v hP => ?_)
  · rw [up_a (by decide)]
    have cj : j = 0 ∨ j = 1 ∨ j = 2 ∨ j = 3 := by omega
    rcases cj with rfl | rfl | rfl | rfl
    · rw [up_k (by decide), up_k (by decide), up_k (by decide), up_s]; show (48 : Int) + ((pth s.1 p).getD 0 0 : Int) % 10 = ((48 + (pth s.1 p).getD 0 0 % 10 : Nat) : Int); omega
    · rw [up_k (by decide), up_k (by decide), up_s]; rfl
    · rw [up_k (by decide), up_s]; show (48 : Int) + ((pth s.1 p).getD 0 0 : Int) / 10 = ((48 + (pth s.1 p).getD 0 0 / 10 : Nat) : Int); omega
    · rw [up_s]; rfl
  · try dsimp only at hP kn
    try dsimp only
    obtain ⟨b1, b0, b3, f1, b4⟩ := hP
    have hs := h.1.frm f1 (by decide)
    have nb := ad i (by omega)
    have ed := dmI_dir nb
    have st := stJ_in (pth s.1 p) i
    have bu := urdlI_in (stJ (pth s.1 p) i).toNat (by omega)
    have est : dmI ((pth s.1 p).getD i 0) ((pth s.1 p).getD (i + 1) 0) = stJ (pth s.1 p) i := ed
    refine Go_ild3 dX12_write_75 ?_
    refine Go_ald0 dX12_write_76 ?_
    refine Go_ild1 dX12_write_77 ?_
    refine Go_cV1 (d' := 0) (bc' := 0) (bs' := 0) rfl dX12_write_78 mvX12_lengthOf rfl lkX12_70 (by first | assumption | rfl) rfl trivial (by decide) (by decide) (by decide) (Nat.le_of_ble_eq_true rfl) ?_
    refine e_X12_lengthOf hs hp ?_
    refine Go_icmp_ge (tgt := 129) dX12_write_81 (by decide) (by constructor <;> omega) (by constructor <;> omega) (fun h81 => by omega) (fun h81 => ?_)
    refine Go_ald0 dX12_write_84 ?_
    refine gf11_6 dX12_write_85 flX12_22 ?_
    refine Go_ald0 dX12_write_88 ?_
    refine gf11_7 dX12_write_89 flX12_146 (by first | assumption | rfl) ?_
    rw [b1]
    refine Go_ald0 dX12_write_92 ?_
    refine Go_ild1 dX12_write_93 ?_
    refine Go_ild3 dX12_write_94 ?_
    refine Go_iconst dX12_write_95 ?_
    refine Go_isub dX12_write_96 ?_
    refine Go_cV2 (d' := 0) (bc' := 0) (bs' := 0) rfl dX12_write_97 mvX12_siteOf rfl lkX12_74 (by first | assumption | rfl) rfl trivial (by decide) (by decide) (by decide) (Nat.le_of_ble_eq_true rfl) ?_
    refine e_X12_siteOf (k0 := i) hs hp (by omega) (by omega) ?_
    refine Go_ald0 dX12_write_100 ?_
    refine Go_ild1 dX12_write_101 ?_
    refine Go_ild3 dX12_write_102 ?_
    refine Go_cV2 (d' := 0) (bc' := 0) (bs' := 0) rfl dX12_write_103 mvX12_siteOf rfl lkX12_74 (by first | assumption | rfl) rfl trivial (by decide) (by decide) (by decide) (Nat.le_of_ble_eq_true rfl) ?_
    refine e_X12_siteOf (k0 := i + 1) hs hp (by omega) (by omega) ?_
    refine Go_cS2 (d' := 2) (bc' := 0) (bs' := 0) rfl dX12_write_106 msX12_direction rfl lkX12_140 (by decide) (by decide) (by decide) (Nat.le_of_ble_eq_true rfl) ?_
    refine e_X12_direction (by omega) (by have := hx.at i; omega) (by have := hx.at (i + 1); constructor <;> omega) ?_
    rw [est]
    refine Go_cS1 (d' := 0) (bc' := 0) (bs' := 0) rfl dX12_write_109 msX12_letterOf rfl lkX12_149 (by decide) (by decide) (by decide) (Nat.le_of_ble_eq_true rfl) ?_
    refine e_X12_letterOf (by omega) (by omega) ?_
    refine Go_iast dX12_write_112 (by first | assumption | rfl) trivial (by omega) (by omega) (by decide) ?_
    refine Go_ald0 dX12_write_113 ?_
    refine Go_dup dX12_write_114 ?_
    refine gf11_7 dX12_write_115 flX12_146 (by first | assumption | rfl) ?_
    rw [up_a (by decide), b1]
    refine Go_iconst dX12_write_118 ?_
    refine Go_iadd dX12_write_119 ?_
    refine pf11_7 dX12_write_120 flX12_146 (by first | assumption | rfl) ?_
    refine Go_inc3 dX12_write_123 rfl ?_
    refine Go_goto (tgt := 75) dX12_write_126 (by decide) ?_
    rw [Int.toNat_natCast]
    refine Go_forget (ls' := _) ?_ (kn _ ⟨by rw [up_s]; omega, by rw [up_k (by decide), up_a (by decide)]; exact b0, by rw [up_k (by decide), up_a (by decide)]; exact b3, (f1.up (by decide)).up (by decide), fun j hj => ?_⟩)
    · exact (by repeat' (first | exact Or.inl rfl | exact Or.inr rfl | exact Or.inr (lcg (by omega)) | exact trivial | constructor))
    · rw [up_a (by decide)]
      by_cases c : j = 4 + i
      · subst c; rw [up_s, wl i (by omega)]; omega
      · rw [up_k c]; exact b4 j (by omega)
  · try dsimp only at hP
    try dsimp only
    obtain ⟨b1, b0, b3, f1, b4⟩ := hP
    have hs := h.1.frm f1 (by decide)
    refine Go_ild3 dX12_write_75 ?_
    refine Go_ald0 dX12_write_76 ?_
    refine Go_ild1 dX12_write_77 ?_
    refine Go_cV1 (d' := 0) (bc' := 0) (bs' := 0) rfl dX12_write_78 mvX12_lengthOf rfl lkX12_70 (by first | assumption | rfl) rfl trivial (by decide) (by decide) (by decide) (Nat.le_of_ble_eq_true rfl) ?_
    refine e_X12_lengthOf hs hp ?_
    refine Go_icmp_ge (tgt := 129) dX12_write_81 (by decide) (by constructor <;> omega) (by constructor <;> omega) (fun h81 => ?_) (fun h81 => by omega)
    refine Go_ald0 dX12_write_129 ?_
    refine gf11_7 dX12_write_130 flX12_146 (by first | assumption | rfl) ?_
    refine Go_ireturn dX12_write_133 rfl (by first | rfl | decide | exact nar_b | simp [narrow]) ?_
    rw [b1]
    refine kI (by rw [wn]) (k _ p rfl hp (mt_of h ⟨by rw [b1, wn], by rw [wn]; omega, fun j hj => b4 j (by omega), fun x hx2 => ?_⟩ f1 (by decide) b0 b3))
    obtain ⟨j, hj, e⟩ := mem_getD hx2
    rw [wn] at hj
    by_cases c4 : j < 4
    · have cj : j = 0 ∨ j = 1 ∨ j = 2 ∨ j = 3 := by omega
      rcases cj with rfl | rfl | rfl | rfl
      · have : (wrT (pth s.1 p)).getD 0 0 = 48 + (pth s.1 p).getD 0 0 % 10 := rfl
        omega
      · have : (wrT (pth s.1 p)).getD 1 0 = 44 := rfl
        omega
      · have : (wrT (pth s.1 p)).getD 2 0 = 48 + (pth s.1 p).getD 0 0 / 10 := rfl
        omega
      · have : (wrT (pth s.1 p)).getD 3 0 = 58 := rfl
        omega
    · have := wl (j - 4) (by omega)
      rw [show 4 + (j - 4) = j by omega] at this
      have st := stJ_in (pth s.1 p) (j - 4)
      have bu := urdlI_in (stJ (pth s.1 p) (j - 4)).toNat (by omega)
      omega
end Model6
