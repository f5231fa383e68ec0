def MX (w w' : Wd) (c : Int) (s : Sta) (sv : List Sta) (g : Nat → Option Sta) (tx : List Nat) : Prop := MInv w' s sv g tx ∧ w' 68 0 = c ∧ frm w w' mcs
theorem thr0 {w : Wd} : mfr w (up w 68 0 0) := mfr.rfl.upd (by decide) (Or.inr ⟨by decide, by decide⟩)
theorem MX_fail {w : Wd} {s : Sta} {sv : List Sta} {g : Nat → Option Sta} {tx : List Nat} {c : Int} (h : MInv w s sv g tx) : MX w (up (up w 68 0 0) 68 0 c) c s sv g tx :=
  ⟨(thr0.upd (by decide) (Or.inr ⟨by decide, by decide⟩)).MInv h, up_s, (thr0.1.up (by decide)).mono scr_mcs⟩
theorem MX_q {w w' : Wd} {s : Sta} {sv : List Sta} {g : Nat → Option Sta} {tx : List Nat} (h : MInv w s sv g tx) (f : mfr w w') (h0 : w' 68 0 = 0) : MX w w' 0 s sv g tx := ⟨f.MInv h, h0, f.1.mono scr_mcs⟩
theorem MI_save {w w' : Wd} {s : Sta} {sv sv' : List Sta} {g : Nat → Option Sta} {tx : List Nat} (h : MInv w s sv g tx) (v : MSv w' sv') (f : frm w w' [68, 70]) (e : ∀ j, j ≠ 3 → w' 68 j = w 68 j) : MInv w' s sv' g tx :=
  ⟨h.1.frm f (by decide), v, h.2.2.1.frm f (by decide) (by decide), h.2.2.2.frm f (by decide) (e 7 (by decide))⟩
theorem MI_st {w w' : Wd} {s s' : Sta} {sv : List Sta} {g : Nat → Option Sta} {tx : List Nat} {A : List Nat} (h : MInv w s sv g tx) (m : ST w' 69 0 s') (f : frm w w' A) (hA : ∀ a ∈ A, a = 68 ∨ a = 69 ∨ (74 ≤ a ∧ a ≤ 83)) (e3 : w' 68 3 = w 68 3) (e7 : w' 68 7 = w 68 7) : MInv w' s' sv g tx := by
  have n : ∀ a, 70 ≤ a → a ≤ 73 → a ∉ A := fun a h1 h2 q => by have := hA a q; omega
  exact ⟨m, h.2.1.frm f (n _ (by decide) (by decide)) e3, h.2.2.1.frm f (n _ (by decide) (by decide)) (n _ (by decide) (by decide)), h.2.2.2.frm f (n _ (by decide) (by decide)) e7⟩
theorem st_set {w w' : Wd} {s : Sta} {p : Nat} {l : List Nat} {a' b' c' : Int} (h : ST w 69 0 s) (hp : p < s.1.length) (ho : OKp (s.1.set p l)) (hl : PR w' p l) (h0 : w' 69 0 = w 69 0) (hk : ∀ q, q < s.1.length → q ≠ p → PR w' q (pth s.1 q)) (h1 : w' 69 1 = a') (h2 : w' 69 2 = b') (h3 : w' 69 3 = c') : ST w' 69 0 (s.1.set p l, a', b', c') := by
  have n : (s.1.set p l).length = s.1.length := List.length_set
  refine RC.st (n := s.1.length) (P := fun q => if q = p then l else pth s.1 q) ⟨by rw [h0]; exact st_n h, h.1.1, fun q hq => ?_⟩ ho n (fun q hq => ?_) h1 h2 h3
  · dsimp only
    by_cases c : q = p
    · subst c; rw [if_pos rfl]; exact hl
    · rw [if_neg c]; exact hk q hq c
  · dsimp only; exact pth_set hp
theorem rsn_mk {f f' : Nat → Int} {ps : List (List Nat)} {p : Nat} {t : Int} (h : MK f f' ps) (ht : -1 ≤ t ∧ t < 100) : (if t = -1 then (1 : Int) else if f t.toNat = -1 then 0 else if f t.toNat = p then 2 else 3) = rsn ps p t := by
  unfold rsn
  by_cases c : t = -1
  · rw [if_pos c, if_pos c]
  · have e : owI ps t = ow ps t.toNat := by unfold owI; rw [if_pos (by omega)]
    rw [if_neg c, if_neg c, (h t.toNat (by omega)).1, e]
    by_cases c1 : ow ps t.toNat = -1
    · rw [if_pos c1, if_neg (by omega), if_pos c1]
    · rw [if_neg c1]
      by_cases c2 : ow ps t.toNat = p
      · rw [if_pos c2, if_pos c2]
      · rw [if_neg c2, if_neg c2, if_neg c1]
section Model3
variable {G : Gm} {w : Wd} {K : Kt} {X : Xt} {s : Sta} {sv : List Sta} {g : Nat → Option Sta} {tx : List Nat} {z z1 z2 z3 : Int} {p q k0 n : Nat} {l : List Nat}
theorem l_X12_save {sv' : List Sta} (h : ST w 69 0 s) (hv : MSv w sv') (h6 : sv'.length < 6) (k : ∀ w', MSv w' (sv' ++ [s]) → frm w w' [68, 70] → (∀ j, j ≠ 3 → w' 68 j = w 68 j) → K (vi 0) none w') : Go G cX12_save mX12_save none 0 0 0 50 [some (vr 68), none] [] w K X := by
  obtain ⟨e3, -, hs⟩ := hv
  refine Go_iconst dX12_save_50 ?_
  refine Go_ist1 dX12_save_51 rfl ?_
  refine Go_upTo (n := 309) (L := fun i => [some (vr 68), some (vi (i : Int))]) (P := fun i v => frm w v [70] ∧ (∀ j, j < 309 * sv'.length → v 70 j = w 70 j) ∧ ∀ j, j < i → v 70 (309 * sv'.length + j) = w 69 (0 + j)) (by repeat' (first | exact Or.inl rfl | exact Or.inr rfl | exact Or.inr (lcg (by omega)) | exact trivial | constructor)) (⟨frm.rfl, fun j hj => rfl, fun j hj => by omega⟩) (fun i v hi hP kn => ?_) (fun v hP => ?_)
  · try dsimp only at hP kn
    try dsimp only
    obtain ⟨f1, a1, a2⟩ := hP
    have e : v 68 3 = (sv'.length : Int) := by rw [f1.at (by decide)]; exact e3
    refine Go_ild1 dX12_save_52 ?_
    refine Go_sipush dX12_save_53 (by decide +kernel) ?_
    refine Go_icmp_ge (tgt := 86) dX12_save_56 (by decide) (by constructor <;> omega) (by constructor <;> omega) (fun h56 => by omega) (fun h56 => ?_)
    refine Go_ald0 dX12_save_59 ?_
    refine gf11_2 dX12_save_60 flX12_13 ?_
    refine Go_ald0 dX12_save_63 ?_
    refine gf11_3 dX12_save_64 flX12_55 (by first | assumption | rfl) ?_
    refine Go_sipush dX12_save_67 (by decide +kernel) ?_
    refine Go_imul dX12_save_70 ?_
    rw [e]
    refine Go_ild1 dX12_save_71 ?_
    refine Go_iadd dX12_save_72 ?_
    refine Go_ald0 dX12_save_73 ?_
    refine gf11_1 dX12_save_74 flX12_7 ?_
    refine Go_ild1 dX12_save_77 ?_
    refine Go_iald dX12_save_78 (by first | assumption | rfl) trivial (by omega) (by omega) (by decide) ?_
    refine Go_iast dX12_save_79 (by first | assumption | rfl) trivial (by omega) (by omega) (by decide) ?_
    refine Go_inc1 dX12_save_80 rfl ?_
    refine Go_goto (tgt := 52) dX12_save_83 (by decide) ?_
    rw [Int.toNat_natCast, show ((sv'.length : Int) * 309 + (i : Int)).toNat = 309 * sv'.length + i by omega]
    refine Go_forget (by repeat' (first | exact Or.inl rfl | exact Or.inr rfl | exact Or.inr (lcg (by omega)) | exact trivial | constructor)) (kn _ ⟨f1.up (by simp), fun j hj => by rw [up_k (by omega)]; exact a1 j hj, fun j hj => ?_⟩)
    by_cases c : j = i
    · subst c; rw [up_s, f1.at (by decide), Nat.zero_add]
    · rw [up_k (by omega)]; exact a2 j (by omega)
  · try dsimp only at hP
    try dsimp only
    obtain ⟨f1, a1, a2⟩ := hP
    have e : v 68 3 = (sv'.length : Int) := by rw [f1.at (by decide)]; exact e3
    refine Go_ild1 dX12_save_52 ?_
    refine Go_sipush dX12_save_53 (by decide +kernel) ?_
    refine Go_icmp_ge (tgt := 86) dX12_save_56 (by decide) (by constructor <;> omega) (by constructor <;> omega) (fun h56 => ?_) (fun h56 => by omega)
    refine Go_ald0 dX12_save_86 ?_
    refine Go_dup dX12_save_87 ?_
    refine gf11_3 dX12_save_88 flX12_55 (by first | assumption | rfl) ?_
    refine Go_iconst dX12_save_91 ?_
    refine Go_iadd dX12_save_92 ?_
    refine pf11_3 dX12_save_93 flX12_55 (by first | assumption | rfl) ?_
    refine Go_return dX12_save_96 rfl ?_
    refine k _ ⟨by rw [up_s, e, List.length_append]; rfl, by rw [List.length_append]; simp; omega, fun i hi => ?_⟩ ((f1.mono (by decide)).up (by simp)) (fun j hj => by rw [up_k hj, f1.at (by decide)])
    rw [List.length_append, List.length_cons, List.length_nil] at hi
    rw [gS_app]
    by_cases c : i < sv'.length
    · rw [if_pos c]
      exact (hs i c).copy (fun k hk => by rw [up_a (by decide)]; exact a1 _ (by omega))
    · have c2 : i = sv'.length := by omega
      subst c2
      rw [if_neg c, Nat.sub_self]
      exact h.copy (fun k hk => by rw [up_a (by decide)]; exact a2 k hk)
theorem e_X12_save (h : ST w 69 0 s) (hv : MSv w sv) (k : ∀ w', MSv w' (pushS sv s) → frm w w' [68, 70] → (∀ j, j ≠ 3 → w' 68 j = w 68 j) → K (vi 0) none w') : Ev G yX12_save cX12_save 2 mX12_save none 0 0 0 [vr 68] w K X := by
  obtain ⟨e3, l6, hs⟩ := id hv
  unfold pushS at k
  refine Ev_intro mvX12_save.1 rfl (fun h => by cases h) (allc1 rfl) (Nat.le_of_ble_eq_true rfl) (Or.inl rfl) ?_
  show Go G cX12_save mX12_save none 0 0 0 0 [some (vr 68), none] [] w K X
  by_cases q : sv.length = 6
  · rw [if_pos q] at k
    refine Go_ald0 dX12_save_0 ?_
    refine gf11_3 dX12_save_1 flX12_55 (by first | assumption | rfl) ?_
    refine Go_bipush dX12_save_4 (by decide +kernel) ?_
    refine Go_icmp_ne (tgt := 50) dX12_save_6 (by decide) (by constructor <;> omega) (by constructor <;> omega) (fun h6 => by omega) (fun h6 => ?_)
    refine Go_iconst dX12_save_9 ?_
    refine Go_ist1 dX12_save_10 rfl ?_
    refine Go_upTo (n := 1545) (L := fun i => [some (vr 68), some (vi (i : Int))]) (P := fun i v => frm w v [70] ∧ (∀ j, i ≤ j → v 70 j = w 70 j) ∧ ∀ j, j < i → v 70 j = w 70 (309 + j)) (by repeat' (first | exact Or.inl rfl | exact Or.inr rfl | exact Or.inr (lcg (by omega)) | exact trivial | constructor)) (⟨frm.rfl, fun j hj => rfl, fun j hj => by omega⟩) (fun i v hi hP kn => ?_) (fun v hP => ?_)
    · try dsimp only at hP kn
      try dsimp only
      obtain ⟨f1, a1, a2⟩ := hP
      refine Go_ild1 dX12_save_11 ?_
      refine Go_sipush dX12_save_12 (by decide +kernel) ?_
      refine Go_icmp_ge (tgt := 40) dX12_save_15 (by decide) (by constructor <;> omega) (by constructor <;> omega) (fun h15 => by omega) (fun h15 => ?_)
      refine Go_ald0 dX12_save_18 ?_
      refine gf11_2 dX12_save_19 flX12_13 ?_
      refine Go_ild1 dX12_save_22 ?_
      refine Go_ald0 dX12_save_23 ?_
      refine gf11_2 dX12_save_24 flX12_13 ?_
      refine Go_ild1 dX12_save_27 ?_
      refine Go_sipush dX12_save_28 (by decide +kernel) ?_
      refine Go_iadd dX12_save_31 ?_
      refine Go_iald dX12_save_32 (by first | assumption | rfl) trivial (by omega) (by omega) (by decide) ?_
      refine Go_iast dX12_save_33 (by first | assumption | rfl) trivial (by omega) (by omega) (by decide) ?_
      refine Go_inc1 dX12_save_34 rfl ?_
      refine Go_goto (tgt := 11) dX12_save_37 (by decide) ?_
      rw [Int.toNat_natCast, show ((i : Int) + 309).toNat = 309 + i by omega]
      refine Go_forget (by repeat' (first | exact Or.inl rfl | exact Or.inr rfl | exact Or.inr (lcg (by omega)) | exact trivial | constructor)) (kn _ ⟨f1.up (by simp), fun j hj => by rw [up_k (by omega)]; exact a1 j (by omega), fun j hj => ?_⟩)
      by_cases c : j = i
      · subst c; rw [up_s]; exact a1 _ (by omega)
      · rw [up_k (by omega)]; exact a2 j (by omega)
    · try dsimp only at hP
      try dsimp only
      obtain ⟨f1, a1, a2⟩ := hP
      have e : v 68 3 = (sv.length : Int) := by rw [f1.at (by decide)]; exact e3
      refine Go_ild1 dX12_save_11 ?_
      refine Go_sipush dX12_save_12 (by decide +kernel) ?_
      refine Go_icmp_ge (tgt := 40) dX12_save_15 (by decide) (by constructor <;> omega) (by constructor <;> omega) (fun h15 => ?_) (fun h15 => by omega)
      refine Go_ald0 dX12_save_40 ?_
      refine Go_dup dX12_save_41 ?_
      refine gf11_3 dX12_save_42 flX12_55 (by first | assumption | rfl) ?_
      refine Go_iconst dX12_save_45 ?_
      refine Go_isub dX12_save_46 ?_
      refine pf11_3 dX12_save_47 flX12_55 (by first | assumption | rfl) ?_
      rw [e]
      have f2 : frm w (up v 68 3 ((sv.length : Int) - 1)) [68, 70] := (f1.mono (by decide)).up (by simp)
      refine Go_forget (ls' := [some (vr 68), none]) (by exact ⟨Or.inr rfl, Or.inl rfl, trivial⟩) (l_X12_save (sv' := sv.drop 1) (h.frm f2 (by decide)) ⟨by rw [up_s, List.length_drop]; omega, by rw [List.length_drop]; omega, fun i hi => ?_⟩ (by rw [List.length_drop]; omega) (fun w' m f3 e4 => k w' m (f2.trans f3 (fun _ h => h)) (fun j hj => by rw [e4 j hj, up_k hj, f1.at (by decide)])))
      rw [List.length_drop] at hi
      rw [gS_drop]
      exact (hs (1 + i) (by omega)).copy (fun k hk => by rw [up_a (by decide), a2 _ (by omega), show 309 + (309 * i + k) = 309 * (1 + i) + k by omega])
  · rw [if_neg q] at k
    refine Go_ald0 dX12_save_0 ?_
    refine gf11_3 dX12_save_1 flX12_55 (by first | assumption | rfl) ?_
    refine Go_bipush dX12_save_4 (by decide +kernel) ?_
    refine Go_icmp_ne (tgt := 50) dX12_save_6 (by decide) (by constructor <;> omega) (by constructor <;> omega) (fun h6 => ?_) (fun h6 => by omega)
    exact l_X12_save h hv (by omega) k
theorem e_X12_undo (h : MInv w s sv g tx)
    (k : ∀ w', 0 < sv.length → MX w w' 0 (sv.getD (sv.length - 1) s00) (sv.take (sv.length - 1)) g tx → K (vi ((sv.length : Int) - 1)) none w')
    (x1 : ∀ w', sv.length = 0 → MX w w' 1 s sv g tx → K (vi 0) none w') : Ev G yX12_undo cX12_undo 2 mX12_undo none 1 0 0 [vr 68] w K X := by
  obtain ⟨e3, l6, hs⟩ := h.2.1
  refine Ev_intro mvX12_undo.1 rfl (fun h => by cases h) (allc1 rfl) (Nat.le_of_ble_eq_true rfl) (Or.inl rfl) ?_
  show Go G cX12_undo mX12_undo none 1 0 0 0 [some (vr 68), none] [] w K X
  by_cases q : sv.length = 0
  · skip
    refine Go_ald0 dX12_undo_0 ?_
    refine Go_iconst dX12_undo_1 ?_
    refine pf11_0 dX12_undo_2 flX12_59 (by first | assumption | rfl) ?_
    refine Go_ald0 dX12_undo_5 ?_
    refine gf11_3 dX12_undo_6 flX12_55 (by first | assumption | rfl) ?_
    rw [up_k (by decide), e3]
    refine Go_if_ne (tgt := 18) dX12_undo_9 (by decide) (by constructor <;> omega) (fun h9 => by omega) (fun h9 => ?_)
    refine Go_ald0 dX12_undo_12 ?_
    refine Go_iconst dX12_undo_13 ?_
    refine Go_cV1 (d' := 0) (bc' := 0) (bs' := 0) rfl dX12_undo_14 mvX12_fails rfl lkX12_78 (by first | assumption | rfl) rfl trivial (by decide) (by decide) (by decide) (Nat.le_of_ble_eq_true rfl) ?_
    refine e_X12_fails ?_
    refine Go_ireturn dX12_undo_17 rfl (by first | rfl | decide | exact nar_b | simp [narrow]) ?_
    exact x1 _ q (MX_fail h)
  · have hl := hs (sv.length - 1) (by omega)
    refine Go_ald0 dX12_undo_0 ?_
    refine Go_iconst dX12_undo_1 ?_
    refine pf11_0 dX12_undo_2 flX12_59 (by first | assumption | rfl) ?_
    refine Go_ald0 dX12_undo_5 ?_
    refine gf11_3 dX12_undo_6 flX12_55 (by first | assumption | rfl) ?_
    rw [up_k (by decide), e3]
    refine Go_if_ne (tgt := 18) dX12_undo_9 (by decide) (by constructor <;> omega) (fun h9 => ?_) (fun h9 => by omega)
    refine Go_ald0 dX12_undo_18 ?_
    refine Go_dup dX12_undo_19 ?_
    refine gf11_3 dX12_undo_20 flX12_55 (by first | assumption | rfl) ?_
    refine Go_iconst dX12_undo_23 ?_
    refine Go_isub dX12_undo_24 ?_
    rw [up_k (by decide), e3]
    refine pf11_3 dX12_undo_25 flX12_55 (by first | assumption | rfl) ?_
    refine Go_iconst dX12_undo_28 ?_
    refine Go_ist1 dX12_undo_29 rfl ?_
    refine Go_upTo (n := 309) (L := fun i => [some (vr 68), some (vi (i : Int))]) (P := fun i v => frm (up (up w 68 0 0) 68 3 ((sv.length : Int) - 1)) v [69] ∧ ∀ j, j < i → v 69 (0 + j) = w 70 (309 * (sv.length - 1) + j)) (by repeat' (first | exact Or.inl rfl | exact Or.inr rfl | exact Or.inr (lcg (by omega)) | exact trivial | constructor)) (⟨frm.rfl, fun j hj => by omega⟩) (fun i v hi hP kn => ?_) (fun v hP => ?_)
    · try dsimp only at hP kn
      try dsimp only
      obtain ⟨f1, a1⟩ := hP
      have e : v 68 3 = (sv.length : Int) - 1 := by rw [f1.at (by decide), up_s]
      have e70 : ∀ j, v 70 j = w 70 j := fun j => by rw [f1.at (by decide), up_a (by decide), up_a (by decide)]
      refine Go_ild1 dX12_undo_30 ?_
      refine Go_sipush dX12_undo_31 (by decide +kernel) ?_
      refine Go_icmp_ge (tgt := 64) dX12_undo_34 (by decide) (by constructor <;> omega) (by constructor <;> omega) (fun h34 => by omega) (fun h34 => ?_)
      refine Go_ald0 dX12_undo_37 ?_
      refine gf11_1 dX12_undo_38 flX12_7 ?_
      refine Go_ild1 dX12_undo_41 ?_
      refine Go_ald0 dX12_undo_42 ?_
      refine gf11_2 dX12_undo_43 flX12_13 ?_
      refine Go_ald0 dX12_undo_46 ?_
      refine gf11_3 dX12_undo_47 flX12_55 (by first | assumption | rfl) ?_
      rw [e]
      refine Go_sipush dX12_undo_50 (by decide +kernel) ?_
      refine Go_imul dX12_undo_53 ?_
      refine Go_ild1 dX12_undo_54 ?_
      refine Go_iadd dX12_undo_55 ?_
      refine Go_iald dX12_undo_56 (by first | assumption | rfl) trivial (by omega) (by omega) (by decide) ?_
      refine Go_iast dX12_undo_57 (by first | assumption | rfl) trivial (by omega) (by omega) (by decide) ?_
      refine Go_inc1 dX12_undo_58 rfl ?_
      refine Go_goto (tgt := 30) dX12_undo_61 (by decide) ?_
      rw [Int.toNat_natCast, show (((sv.length : Int) - 1) * 309 + (i : Int)).toNat = 309 * (sv.length - 1) + i by omega, e70]
      refine Go_forget (by repeat' (first | exact Or.inl rfl | exact Or.inr rfl | exact Or.inr (lcg (by omega)) | exact trivial | constructor)) (kn _ ⟨f1.up (by simp), fun j hj => ?_⟩)
      by_cases c : j = i
      · subst c; rw [Nat.zero_add, up_s]
      · rw [up_k (by omega)]; exact a1 j (by omega)
    · try dsimp only at hP
      try dsimp only
      obtain ⟨f1, a1⟩ := hP
      have e : v 68 3 = (sv.length : Int) - 1 := by rw [f1.at (by decide), up_s]
      have f0 : frm w (up (up w 68 0 0) 68 3 ((sv.length : Int) - 1)) [68] := (frm.rfl.up (by simp)).up (by simp)
      have f2 : frm w v [68, 69] := (f0.mono (by decide)).trans f1 (by decide)
      refine Go_ild1 dX12_undo_30 ?_
      refine Go_sipush dX12_undo_31 (by decide +kernel) ?_
      refine Go_icmp_ge (tgt := 64) dX12_undo_34 (by decide) (by constructor <;> omega) (by constructor <;> omega) (fun h34 => ?_) (fun h34 => by omega)
      refine Go_ald0 dX12_undo_64 ?_
      refine gf11_3 dX12_undo_65 flX12_55 (by first | assumption | rfl) ?_
      refine Go_ireturn dX12_undo_68 rfl (by first | rfl | decide | exact nar_b | simp [narrow]) ?_
      rw [e]
      refine k _ (by omega) ⟨⟨hl.copy a1, ⟨by rw [e, List.length_take]; omega, by rw [List.length_take]; omega, fun i hi => ?_⟩, h.2.2.1.frm f2 (by decide) (by decide), h.2.2.2.frm f2 (by decide) (by rw [f1.at (by decide), up_k (by decide), up_k (by decide)])⟩, by rw [f1.at (by decide), up_k (by decide), up_s], f2.mono (by decide)⟩
      rw [List.length_take] at hi
      rw [gS_take (by omega)]
      exact (hs i (by omega)).frm f2 (by decide)
theorem e_X12_keep (h : MInv w s sv g tx) (h1 : inR z1)
    (k : ∀ w' (i : Nat), z1 = i → i < 2 → MX w w' 0 s sv (putN g i s) tx → K (vi s.1.length) none w')
    (x1 : ∀ w', ¬ (0 ≤ z1 ∧ z1 ≤ 1) → MX w w' 1 s sv g tx → K (vi 0) none w') : Ev G yX12_keep cX12_keep 3 mX12_keep none 1 0 0 [vr 68, vi z1] w K X := by
  refine Ev_intro mvX12_keep.1 rfl (fun h => by cases h) (allc1 rfl) (Nat.le_of_ble_eq_true rfl) (Or.inl rfl) ?_
  show Go G cX12_keep mX12_keep none 1 0 0 0 [some (vr 68), some (vi z1), none] [] w K X
  by_cases q : 0 ≤ z1 ∧ z1 ≤ 1
  case neg =>
    refine Go_ald0 dX12_keep_0 ?_
    refine Go_iconst dX12_keep_1 ?_
    refine pf11_0 dX12_keep_2 flX12_59 (by first | assumption | rfl) ?_
    refine Go_ild1 dX12_keep_5 ?_
    refine Go_iconst dX12_keep_6 ?_
    refine Go_iconst dX12_keep_7 ?_
    refine Go_cS3 (d' := 0) (bc' := 0) (bs' := 0) rfl dX12_keep_8 msX12_within rfl lkX12_62 (by decide) (by decide) (by decide) (Nat.le_of_ble_eq_true rfl) ?_
    refine e_X12_within h1 (by constructor <;> omega) (by constructor <;> omega) ?_
    refine Go_ifb_ne (tgt := 20) dX12_keep_11 (by decide)  (fun h11 => by exact absurd h11 q) (fun h11 => ?_)
    refine Go_ald0 dX12_keep_14 ?_
    refine Go_iconst dX12_keep_15 ?_
    refine Go_cV1 (d' := 0) (bc' := 0) (bs' := 0) rfl dX12_keep_16 mvX12_fails rfl lkX12_78 (by first | assumption | rfl) rfl trivial (by decide) (by decide) (by decide) (Nat.le_of_ble_eq_true rfl) ?_
    refine e_X12_fails ?_
    refine Go_ireturn dX12_keep_19 rfl (by first | rfl | decide | exact nar_b | simp [narrow]) ?_
    exact x1 _ q (MX_fail h)
  obtain ⟨n, rfl⟩ := Int.eq_ofNat_of_zero_le q.1
  have h1' := thr0.MInv h
  refine Go_ald0 dX12_keep_0 ?_
  refine Go_iconst dX12_keep_1 ?_
  refine pf11_0 dX12_keep_2 flX12_59 (by first | assumption | rfl) ?_
  refine Go_ild1 dX12_keep_5 ?_
  refine Go_iconst dX12_keep_6 ?_
  refine Go_iconst dX12_keep_7 ?_
  refine Go_cS3 (d' := 0) (bc' := 0) (bs' := 0) rfl dX12_keep_8 msX12_within rfl lkX12_62 (by decide) (by decide) (by decide) (Nat.le_of_ble_eq_true rfl) ?_
  refine e_X12_within h1 (by constructor <;> omega) (by constructor <;> omega) ?_
  refine Go_ifb_ne (tgt := 20) dX12_keep_11 (by decide)  (fun h11 => ?_) (fun h11 => by exact absurd q h11)
  refine Go_iconst dX12_keep_20 ?_
  refine Go_ist2 dX12_keep_21 rfl ?_
  refine Go_upTo (n := 309) (L := fun i => [some (vr 68), some (vi (n : Int)), some (vi (i : Int))]) (P := fun i v => frm (up w 68 0 0) v [71] ∧ (∀ j, (j < 309 * n ∨ 309 * n + 309 ≤ j) → v 71 j = w 71 j) ∧ ∀ j, j < i → v 71 (309 * n + j) = w 69 (0 + j)) (by repeat' (first | exact Or.inl rfl | exact Or.inr rfl | exact Or.inr (lcg (by omega)) | exact trivial | constructor)) (⟨frm.rfl, fun j hj => rfl, fun j hj => by omega⟩) (fun i v hi hP kn => ?_) (fun v hP => ?_)
  · try dsimp only at hP kn
    try dsimp only
    obtain ⟨f1, a0, a1⟩ := hP
    have e69 : ∀ j, v 69 j = w 69 j := fun j => by rw [f1.at (by decide), up_a (by decide)]
    refine Go_ild2 dX12_keep_22 ?_
    refine Go_sipush dX12_keep_23 (by decide +kernel) ?_
    refine Go_icmp_ge (tgt := 53) dX12_keep_26 (by decide) (by constructor <;> omega) (by constructor <;> omega) (fun h26 => by omega) (fun h26 => ?_)
    refine Go_ald0 dX12_keep_29 ?_
    refine gf11_4 dX12_keep_30 flX12_16 ?_
    refine Go_sipush dX12_keep_33 (by decide +kernel) ?_
    refine Go_ild1 dX12_keep_36 ?_
    refine Go_imul dX12_keep_37 ?_
    refine Go_ild2 dX12_keep_38 ?_
    refine Go_iadd dX12_keep_39 ?_
    refine Go_ald0 dX12_keep_40 ?_
    refine gf11_1 dX12_keep_41 flX12_7 ?_
    refine Go_ild2 dX12_keep_44 ?_
    refine Go_iald dX12_keep_45 (by first | assumption | rfl) trivial (by omega) (by omega) (by decide) ?_
    refine Go_iast dX12_keep_46 (by first | assumption | rfl) trivial (by omega) (by omega) (by decide) ?_
    refine Go_inc2 dX12_keep_47 rfl ?_
    refine Go_goto (tgt := 22) dX12_keep_50 (by decide) ?_
    rw [Int.toNat_natCast, show (309 * (n : Int) + (i : Int)).toNat = 309 * n + i by omega, e69]
    refine Go_forget (by repeat' (first | exact Or.inl rfl | exact Or.inr rfl | exact Or.inr (lcg (by omega)) | exact trivial | constructor)) (kn _ ⟨f1.up (by simp), fun j hj => by rw [up_k (by omega)]; exact a0 j hj, fun j hj => ?_⟩)
    by_cases c : j = i
    · subst c; rw [Nat.zero_add, up_s]
    · rw [up_k (by omega)]; exact a1 j (by omega)
  · try dsimp only at hP
    try dsimp only
    obtain ⟨f1, a0, a1⟩ := hP
    have f2 : frm w v [68, 71] := ((frm.rfl.up (by simp) : frm w (up w 68 0 0) [68]).mono (by decide)).trans f1 (by decide)
    have hv : ST v 69 0 s := h.1.frm f2 (by decide)
    refine Go_ild2 dX12_keep_22 ?_
    refine Go_sipush dX12_keep_23 (by decide +kernel) ?_
    refine Go_icmp_ge (tgt := 53) dX12_keep_26 (by decide) (by constructor <;> omega) (by constructor <;> omega) (fun h26 => ?_) (fun h26 => by omega)
    refine Go_ald0 dX12_keep_53 ?_
    refine gf11_5 dX12_keep_54 flX12_19 ?_
    refine Go_ild1 dX12_keep_57 ?_
    refine Go_iconst dX12_keep_58 ?_
    refine Go_iast dX12_keep_59 (by first | assumption | rfl) trivial (by omega) (by omega) (by decide) ?_
    refine Go_ald0 dX12_keep_60 ?_
    refine gf11_1 dX12_keep_61 flX12_7 ?_
    refine Go_iconst dX12_keep_64 ?_
    refine Go_iald dX12_keep_65 (by first | assumption | rfl) trivial (by omega) (by omega) (by decide) ?_
    rw [show (0 : Int).toNat = 0 from rfl, up_a (by decide), st_n hv, Int.toNat_natCast]
    refine Go_ireturn dX12_keep_66 rfl (by first | rfl | decide | exact nar_b | simp [narrow]) ?_
    have f3 : frm w (up v 72 n 1) [68, 71, 72] := (f2.mono (by decide)).up (by simp)
    refine k _ n rfl (by omega) ⟨⟨h.1.frm f3 (by decide), h.2.1.frm f3 (by decide) (by rw [up_a (by decide), f1.at (by decide), up_k (by decide)]), fun i hi => ?_, h.2.2.2.frm f3 (by decide) (by rw [up_a (by decide), f1.at (by decide), up_k (by decide)])⟩, by rw [up_a (by decide), f1.at (by decide), up_s], f3.mono (by decide)⟩
    unfold putN
    by_cases c : i = n
    · subst c
      rw [if_pos rfl]
      exact ⟨up_s, h.1.copy (fun k hk => by rw [up_a (by decide)]; exact a1 k hk)⟩
    · rw [if_neg c]
      have hg := h.2.2.1 i hi
      cases gi : g i with
      | none => rw [gi] at hg; show up v 72 n 1 72 i = 0; rw [up_k c, f2.at (by decide)]; exact hg
      | some s' =>
        rw [gi] at hg
        exact ⟨by rw [up_k c, f2.at (by decide)]; exact hg.1, hg.2.copy (fun k hk => by rw [up_a (by decide)]; exact a0 _ (by omega))⟩
theorem e_X12_goBack (h : MInv w s sv g tx) (h1 : inR z1)
    (k : ∀ w' (i : Nat) (s' : Sta), z1 = i → i < 2 → g i = some s' → MX w w' 0 s' (pushS sv s) g tx → K (vi s'.1.length) none w')
    (x1 : ∀ w', ¬ (0 ≤ z1 ∧ z1 ≤ 1) → MX w w' 1 s sv g tx → K (vi 0) none w') (x2 : ∀ w' (i : Nat), z1 = i → i < 2 → g i = none → MX w w' 2 s sv g tx → K (vi 0) none w') : Ev G yX12_goBack cX12_goBack 3 mX12_goBack none 1 0 0 [vr 68, vi z1] w K X := by
  refine Ev_intro mvX12_goBack.1 rfl (fun h => by cases h) (allc1 rfl) (Nat.le_of_ble_eq_true rfl) (Or.inl rfl) ?_
  show Go G cX12_goBack mX12_goBack none 1 0 0 0 [some (vr 68), some (vi z1), none] [] w K X
  by_cases q : 0 ≤ z1 ∧ z1 ≤ 1
  case neg =>
    refine Go_ald0 dX12_goBack_0 ?_
    refine Go_iconst dX12_goBack_1 ?_
    refine pf11_0 dX12_goBack_2 flX12_59 (by first | assumption | rfl) ?_
    refine Go_ild1 dX12_goBack_5 ?_
    refine Go_iconst dX12_goBack_6 ?_
    refine Go_iconst dX12_goBack_7 ?_
    refine Go_cS3 (d' := 0) (bc' := 0) (bs' := 0) rfl dX12_goBack_8 msX12_within rfl lkX12_62 (by decide) (by decide) (by decide) (Nat.le_of_ble_eq_true rfl) ?_
    refine e_X12_within h1 (by constructor <;> omega) (by constructor <;> omega) ?_
    refine Go_ifb_ne (tgt := 20) dX12_goBack_11 (by decide)  (fun h11 => by exact absurd h11 q) (fun h11 => ?_)
    refine Go_ald0 dX12_goBack_14 ?_
    refine Go_iconst dX12_goBack_15 ?_
    refine Go_cV1 (d' := 0) (bc' := 0) (bs' := 0) rfl dX12_goBack_16 mvX12_fails rfl lkX12_78 (by first | assumption | rfl) rfl trivial (by decide) (by decide) (by decide) (Nat.le_of_ble_eq_true rfl) ?_
    refine e_X12_fails ?_
    refine Go_ireturn dX12_goBack_19 rfl (by first | rfl | decide | exact nar_b | simp [narrow]) ?_
    exact x1 _ q (MX_fail h)
  obtain ⟨n, rfl⟩ := Int.eq_ofNat_of_zero_le q.1
  have hm := thr0.MInv h
  have hg := h.2.2.1 n (by omega)
  rcases gn : g n with _ | s'
  · rw [gn] at hg
    have e : w 72 n = 0 := hg
    refine Go_ald0 dX12_goBack_0 ?_
    refine Go_iconst dX12_goBack_1 ?_
    refine pf11_0 dX12_goBack_2 flX12_59 (by first | assumption | rfl) ?_
    refine Go_ild1 dX12_goBack_5 ?_
    refine Go_iconst dX12_goBack_6 ?_
    refine Go_iconst dX12_goBack_7 ?_
    refine Go_cS3 (d' := 0) (bc' := 0) (bs' := 0) rfl dX12_goBack_8 msX12_within rfl lkX12_62 (by decide) (by decide) (by decide) (Nat.le_of_ble_eq_true rfl) ?_
    refine e_X12_within h1 (by constructor <;> omega) (by constructor <;> omega) ?_
    refine Go_ifb_ne (tgt := 20) dX12_goBack_11 (by decide)  (fun h11 => ?_) (fun h11 => by exact absurd q h11)
    refine Go_ald0 dX12_goBack_20 ?_
    refine gf11_5 dX12_goBack_21 flX12_19 ?_
    refine Go_ild1 dX12_goBack_24 ?_
    refine Go_iald dX12_goBack_25 (by first | assumption | rfl) trivial (by omega) (by omega) (by decide) ?_
    rw [Int.toNat_natCast, up_a (by decide), e]
    refine Go_if_ne (tgt := 35) dX12_goBack_26 (by decide) (by constructor <;> omega) (fun h26 => by omega) (fun h26 => ?_)
    refine Go_ald0 dX12_goBack_29 ?_
    refine Go_iconst dX12_goBack_30 ?_
    refine Go_cV1 (d' := 0) (bc' := 0) (bs' := 0) rfl dX12_goBack_31 mvX12_fails rfl lkX12_78 (by first | assumption | rfl) rfl trivial (by decide) (by decide) (by decide) (Nat.le_of_ble_eq_true rfl) ?_
    refine e_X12_fails ?_
    refine Go_ireturn dX12_goBack_34 rfl (by first | rfl | decide | exact nar_b | simp [narrow]) ?_
    exact x2 _ n rfl (by omega) gn (MX_fail h)
  · rw [gn] at hg
    have e : w 72 n = 1 := hg.1
    refine Go_ald0 dX12_goBack_0 ?_
    refine Go_iconst dX12_goBack_1 ?_
    refine pf11_0 dX12_goBack_2 flX12_59 (by first | assumption | rfl) ?_
    refine Go_ild1 dX12_goBack_5 ?_
    refine Go_iconst dX12_goBack_6 ?_
    refine Go_iconst dX12_goBack_7 ?_
    refine Go_cS3 (d' := 0) (bc' := 0) (bs' := 0) rfl dX12_goBack_8 msX12_within rfl lkX12_62 (by decide) (by decide) (by decide) (Nat.le_of_ble_eq_true rfl) ?_
    refine e_X12_within h1 (by constructor <;> omega) (by constructor <;> omega) ?_
    refine Go_ifb_ne (tgt := 20) dX12_goBack_11 (by decide)  (fun h11 => ?_) (fun h11 => by exact absurd q h11)
    refine Go_ald0 dX12_goBack_20 ?_
    refine gf11_5 dX12_goBack_21 flX12_19 ?_
    refine Go_ild1 dX12_goBack_24 ?_
    refine Go_iald dX12_goBack_25 (by first | assumption | rfl) trivial (by omega) (by omega) (by decide) ?_
    rw [Int.toNat_natCast, up_a (by decide), e]
    refine Go_if_ne (tgt := 35) dX12_goBack_26 (by decide) (by constructor <;> omega) (fun h26 => ?_) (fun h26 => by omega)
    refine Go_ald0 dX12_goBack_35 ?_
    refine Go_cVv0 (d' := 0) (bc' := 0) (bs' := 0) rfl dX12_goBack_36 mvX12_save rfl lkX12_81 (by first | assumption | rfl) rfl trivial (by decide) (by decide) (by decide) (Nat.le_of_ble_eq_true rfl) ?_
    refine e_X12_save hm.1 hm.2.1 (fun w1 v1 f1 g1 => ?_)
    refine Go_iconst dX12_goBack_39 ?_
    refine Go_ist2 dX12_goBack_40 rfl ?_
    have hm1 := MI_save hm v1 f1 g1
    have hg1 := hm1.2.2.1 n (by omega)
    rw [gn] at hg1
    refine Go_upTo (n := 309) (L := fun i => [some (vr 68), some (vi (n : Int)), some (vi (i : Int))]) (P := fun i v => frm w1 v [69] ∧ ∀ j, j < i → v 69 (0 + j) = w1 71 (309 * n + j)) (by repeat' (first | exact Or.inl rfl | exact Or.inr rfl | exact Or.inr (lcg (by omega)) | exact trivial | constructor)) (⟨frm.rfl, fun j hj => by omega⟩) (fun i v hi hP kn => ?_) (fun v hP => ?_)
    · try dsimp only at hP kn
      try dsimp only
      obtain ⟨f2, a1⟩ := hP
      refine Go_ild2 dX12_goBack_41 ?_
      refine Go_sipush dX12_goBack_42 (by decide +kernel) ?_
      refine Go_icmp_ge (tgt := 72) dX12_goBack_45 (by decide) (by constructor <;> omega) (by constructor <;> omega) (fun h45 => by omega) (fun h45 => ?_)
      refine Go_ald0 dX12_goBack_48 ?_
      refine gf11_1 dX12_goBack_49 flX12_7 ?_
      refine Go_ild2 dX12_goBack_52 ?_
      refine Go_ald0 dX12_goBack_53 ?_
      refine gf11_4 dX12_goBack_54 flX12_16 ?_
      refine Go_sipush dX12_goBack_57 (by decide +kernel) ?_
      refine Go_ild1 dX12_goBack_60 ?_
      refine Go_imul dX12_goBack_61 ?_
      refine Go_ild2 dX12_goBack_62 ?_
      refine Go_iadd dX12_goBack_63 ?_
      refine Go_iald dX12_goBack_64 (by first | assumption | rfl) trivial (by omega) (by omega) (by decide) ?_
      refine Go_iast dX12_goBack_65 (by first | assumption | rfl) trivial (by omega) (by omega) (by decide) ?_
      refine Go_inc2 dX12_goBack_66 rfl ?_
      refine Go_goto (tgt := 41) dX12_goBack_69 (by decide) ?_
      rw [Int.toNat_natCast, show (309 * (n : Int) + (i : Int)).toNat = 309 * n + i by omega, f2.at (by decide)]
      refine Go_forget (by repeat' (first | exact Or.inl rfl | exact Or.inr rfl | exact Or.inr (lcg (by omega)) | exact trivial | constructor)) (kn _ ⟨f2.up (by simp), fun j hj => ?_⟩)
      by_cases c : j = i
      · subst c; rw [Nat.zero_add, up_s]
      · rw [up_k (by omega)]; exact a1 j (by omega)
    · try dsimp only at hP
      try dsimp only
      obtain ⟨f2, a1⟩ := hP
      have m2 : ST v 69 0 s' := hg1.2.copy a1
      refine Go_ild2 dX12_goBack_41 ?_
      refine Go_sipush dX12_goBack_42 (by decide +kernel) ?_
      refine Go_icmp_ge (tgt := 72) dX12_goBack_45 (by decide) (by constructor <;> omega) (by constructor <;> omega) (fun h45 => ?_) (fun h45 => by omega)
      refine Go_ald0 dX12_goBack_72 ?_
      refine gf11_1 dX12_goBack_73 flX12_7 ?_
      refine Go_iconst dX12_goBack_76 ?_
      refine Go_iald dX12_goBack_77 (by first | assumption | rfl) trivial (by omega) (by omega) (by decide) ?_
      rw [show (0 : Int).toNat = 0 from rfl, st_n m2]
      refine Go_ireturn dX12_goBack_78 rfl (by first | rfl | decide | exact nar_b | simp [narrow]) ?_
      exact k _ n s' rfl (by omega) gn ⟨MI_st hm1 m2 f2 (by decide) (f2.at (by decide) 3) (f2.at (by decide) 7), by rw [f2.at (by decide), g1 0 (by decide), up_s], (((frm.rfl.up (by decide) : frm w (up w 68 0 0) mcs)).trans f1 (by decide)).trans f2 (by decide)⟩
/-- what comes before each change -/
theorem mx_of {w w1 w2 : Wd} {s s' : Sta} {sv : List Sta} {g : Nat → Option Sta} {tx : List Nat} {A : List Nat} (h : MInv w1 s (pushS sv s) g tx) (f1 : frm w w1 mcs) (h0 : w1 68 0 = 0) (m : ST w2 69 0 s') (f2 : frm w1 w2 A) (hA : ∀ a ∈ A, a = 68 ∨ a = 69 ∨ (74 ≤ a ∧ a ≤ 83)) (e0 : w2 68 0 = w1 68 0) (e3 : w2 68 3 = w1 68 3) (e7 : w2 68 7 = w1 68 7) : MX w w2 0 s' (pushS sv s) g tx :=
  ⟨MI_st h m f2 hA e3 e7, by rw [e0]; exact h0, f1.trans f2 (fun a ha => by
    have := hA a ha
    have key : ∀ a, a < 84 → (a = 68 ∨ a = 69 ∨ (74 ≤ a ∧ a ≤ 83)) → a ∈ mcs := by decide
    exact key a (by omega) this)⟩
theorem e_X12_start (h : MInv w s sv g tx) (h1 : inR z1) (h2 : inR z2)
    (k : ∀ w' (x : Nat), numI z1 z2 = x → ow s.1 x = -1 → s.1.length < 5 → MX w w' 0 (s.1 ++ [[x]], s.2.1, s.2.2.1, s.2.2.2) (pushS sv s) g tx → K (vi s.1.length) none w')
    (x1 : ∀ w', numI z1 z2 = -1 → MX w w' 1 s sv g tx → K (vi 0) none w') (x2 : ∀ w' (x : Nat), numI z1 z2 = x → ¬ (ow s.1 x = -1 ∧ s.1.length < 5) → MX w w' 2 s sv g tx → K (vi 0) none w') : Ev G yX12_start cX12_start 3 mX12_start none 2 0 0 [vr 68, vi z1, vi z2] w K X := by
  have hm := thr0.MInv h
  have h5 := h.1.1.1
  obtain ⟨a1, a2⟩ := id h1
  obtain ⟨b1, b2⟩ := id h2
  refine Ev_intro mvX12_start.1 rfl (fun h => by cases h) (allc1 rfl) (Nat.le_of_ble_eq_true rfl) (Or.inl rfl) ?_
  show Go G cX12_start mX12_start none 2 0 0 0 [some (vr 68), some (vi z1), some (vi z2)] [] w K X
  by_cases c : 0 ≤ z1 ∧ z1 < 10 ∧ 0 ≤ z2 ∧ z2 < 10
  case neg =>
    have en : numI z1 z2 = -1 := by unfold numI; rw [if_neg c]
    refine Go_ald0 dX12_start_0 ?_
    refine Go_iconst dX12_start_1 ?_
    refine pf11_0 dX12_start_2 flX12_59 (by first | assumption | rfl) ?_
    refine Go_ild1 dX12_start_5 ?_
    refine Go_iconst dX12_start_6 ?_
    refine Go_bipush dX12_start_7 (by decide +kernel) ?_
    refine Go_cS3 (d' := 0) (bc' := 0) (bs' := 0) rfl dX12_start_9 msX12_within rfl lkX12_62 (by decide) (by decide) (by decide) (Nat.le_of_ble_eq_true rfl) ?_
    refine e_X12_within h1 (by constructor <;> omega) (by constructor <;> omega) ?_
    refine Go_ifb_eq (tgt := 25) dX12_start_12 (by decide)  (fun h12 => ?_) (fun h12 => ?_)
    · refine Go_ald0 dX12_start_25 ?_
      refine Go_iconst dX12_start_26 ?_
      refine Go_cV1 (d' := 0) (bc' := 0) (bs' := 0) rfl dX12_start_27 mvX12_fails rfl lkX12_78 (by first | assumption | rfl) rfl trivial (by decide) (by decide) (by decide) (Nat.le_of_ble_eq_true rfl) ?_
      refine e_X12_fails ?_
      refine Go_ireturn dX12_start_30 rfl (by first | rfl | decide | exact nar_b | simp [narrow]) ?_
      exact x1 _ en (MX_fail h)
    · refine Go_ild2 dX12_start_15 ?_
      refine Go_iconst dX12_start_16 ?_
      refine Go_bipush dX12_start_17 (by decide +kernel) ?_
      refine Go_cS3 (d' := 0) (bc' := 0) (bs' := 0) rfl dX12_start_19 msX12_within rfl lkX12_62 (by decide) (by decide) (by decide) (Nat.le_of_ble_eq_true rfl) ?_
      refine e_X12_within h2 (by constructor <;> omega) (by constructor <;> omega) ?_
      refine Go_ifb_ne (tgt := 31) dX12_start_22 (by decide)  (fun h22 => by exact absurd ⟨by omega, by omega, by omega, by omega⟩ c) (fun h22 => ?_)
      refine Go_ald0 dX12_start_25 ?_
      refine Go_iconst dX12_start_26 ?_
      refine Go_cV1 (d' := 0) (bc' := 0) (bs' := 0) rfl dX12_start_27 mvX12_fails rfl lkX12_78 (by first | assumption | rfl) rfl trivial (by decide) (by decide) (by decide) (Nat.le_of_ble_eq_true rfl) ?_
      refine e_X12_fails ?_
      refine Go_ireturn dX12_start_30 rfl (by first | rfl | decide | exact nar_b | simp [narrow]) ?_
      exact x1 _ en (MX_fail h)
  have en : numI z1 z2 = ((10 * z2 + z1).toNat : Int) := by unfold numI; rw [if_pos c]; omega
  have hx : (10 * z2 + z1).toNat < 100 := by omega
  refine Go_ald0 dX12_start_0 ?_
  refine Go_iconst dX12_start_1 ?_
  refine pf11_0 dX12_start_2 flX12_59 (by first | assumption | rfl) ?_
  refine Go_ild1 dX12_start_5 ?_
  refine Go_iconst dX12_start_6 ?_
  refine Go_bipush dX12_start_7 (by decide +kernel) ?_
  refine Go_cS3 (d' := 0) (bc' := 0) (bs' := 0) rfl dX12_start_9 msX12_within rfl lkX12_62 (by decide) (by decide) (by decide) (Nat.le_of_ble_eq_true rfl) ?_
  refine e_X12_within h1 (by constructor <;> omega) (by constructor <;> omega) ?_
  refine Go_ifb_eq (tgt := 25) dX12_start_12 (by decide)  (fun h12 => by exact absurd ⟨c.1, by omega⟩ h12) (fun h12 => ?_)
  refine Go_ild2 dX12_start_15 ?_
  refine Go_iconst dX12_start_16 ?_
  refine Go_bipush dX12_start_17 (by decide +kernel) ?_
  refine Go_cS3 (d' := 0) (bc' := 0) (bs' := 0) rfl dX12_start_19 msX12_within rfl lkX12_62 (by decide) (by decide) (by decide) (Nat.le_of_ble_eq_true rfl) ?_
  refine e_X12_within h2 (by constructor <;> omega) (by constructor <;> omega) ?_
  refine Go_ifb_ne (tgt := 31) dX12_start_22 (by decide)  (fun h22 => ?_) (fun h22 => by exact absurd ⟨c.2.2.1, by omega⟩ h22)
  refine Go_ald0 dX12_start_31 ?_
  refine Go_cVv0 (d' := 1) (bc' := 0) (bs' := 0) rfl dX12_start_32 mvX12_lay rfl lkX12_114 (by first | assumption | rfl) rfl trivial (by decide) (by decide) (by decide) (Nat.le_of_ble_eq_true rfl) ?_
  refine e_X12_lay hm.1 (fun w1 m1 f1 => ?_)
  have f1' := mfr.of f1 (by decide)
  have hm1 := f1'.MInv hm
  have e1 := (m1 _ hx).1
  have ob := ow_in s.1 (10 * z2 + z1).toNat
  have en1 := st_n hm1.1
  have f9 : frm w w1 mcs := (frm.rfl.up (by decide) : frm w (up w 68 0 0) mcs).trans f1 (by decide)
  have t0 : w1 68 0 = 0 := by rw [f1.at (by decide), up_s]
  refine Go_ald0 dX12_start_35 ?_
  refine gf11_8 dX12_start_36 flX12_25 ?_
  refine Go_bipush dX12_start_39 (by decide +kernel) ?_
  refine Go_ild2 dX12_start_41 ?_
  refine Go_imul dX12_start_42 ?_
  refine Go_ild1 dX12_start_43 ?_
  refine Go_iadd dX12_start_44 ?_
  refine Go_iald dX12_start_45 (by first | assumption | rfl) trivial (by omega) (by omega) (by decide) ?_
  rw [e1]
  refine Go_iconst dX12_start_46 ?_
  refine Go_icmp_ne (tgt := 60) dX12_start_47 (by decide) (by constructor <;> omega) (by constructor <;> omega) (fun h47 => ?_) (fun h47 => ?_)
  · refine Go_ald0 dX12_start_60 ?_
    refine Go_iconst dX12_start_61 ?_
    refine Go_cV1 (d' := 0) (bc' := 0) (bs' := 0) rfl dX12_start_62 mvX12_fails rfl lkX12_78 (by first | assumption | rfl) rfl trivial (by decide) (by decide) (by decide) (Nat.le_of_ble_eq_true rfl) ?_
    refine e_X12_fails ?_
    refine Go_ireturn dX12_start_65 rfl (by first | rfl | decide | exact nar_b | simp [narrow]) ?_
    refine x2 _ _ en (fun q => by omega) ⟨(mfr.rfl.upd (by decide) (Or.inr ⟨by decide, by decide⟩)).MInv hm1, up_s, f9.up (by decide)⟩
  · refine Go_ald0 dX12_start_50 ?_
    refine gf11_1 dX12_start_51 flX12_7 ?_
    refine Go_iconst dX12_start_54 ?_
    refine Go_iald dX12_start_55 (by first | assumption | rfl) trivial (by omega) (by omega) (by decide) ?_
    rw [show (0 : Int).toNat = 0 from rfl]
    refine Go_iconst dX12_start_56 ?_
    refine Go_icmp_ne (tgt := 66) dX12_start_57 (by decide) (by constructor <;> omega) (by constructor <;> omega) (fun h57 => ?_) (fun h57 => ?_)
    · refine Go_ald0 dX12_start_66 ?_
      refine Go_cVv0 (d' := 0) (bc' := 0) (bs' := 0) rfl dX12_start_67 mvX12_save rfl lkX12_81 (by first | assumption | rfl) rfl trivial (by decide) (by decide) (by decide) (Nat.le_of_ble_eq_true rfl) ?_
      refine e_X12_save hm1.1 hm1.2.1 (fun w2 v2 f2 g2 => ?_)
      have hm2 := MI_save hm1 v2 f2 g2
      have f8 : frm w w2 mcs := f9.trans f2 (by decide)
      have t2 : w2 68 0 = 0 := by rw [g2 0 (by decide)]; exact t0
      refine Go_ald0 dX12_start_70 ?_
      refine gf11_13 dX12_start_71 flX12_37 ?_
      refine Go_iconst dX12_start_74 ?_
      refine Go_bipush dX12_start_75 (by decide +kernel) ?_
      refine Go_ild2 dX12_start_77 ?_
      refine Go_imul dX12_start_78 ?_
      refine Go_ild1 dX12_start_79 ?_
      refine Go_iadd dX12_start_80 ?_
      refine Go_iast dX12_start_81 (by first | assumption | rfl) trivial (by omega) (by omega) (by decide) ?_
      rw [show (0 : Int).toNat = 0 from rfl]
      refine Go_ald0 dX12_start_82 ?_
      refine Go_iconst dX12_start_83 ?_
      refine pf11_14 dX12_start_84 flX12_101 (by first | assumption | rfl) ?_
      have oA : OKp (s.1 ++ [[(10 * z2 + z1).toNat]]) := h.1.1.app (by omega) (by simp) (by simp) (ADJ_one _) (fun y hy => by rw [List.mem_singleton] at hy; omega) (by simp) (fun y hy q hq => by
        rw [List.mem_singleton] at hy; subst hy
        have := (ow_of h.1.1.nd hq).1
        omega)
      have rw2 : RW (up (up w2 78 0 (10 * z2 + z1)) 68 14 1) [(10 * z2 + z1).toNat] := ⟨up_s, by simp, fun j hj => by
        have : j = 0 := by simp at hj; omega
        subst this
        rw [up_a (by decide), up_s]; show _ = (((10 * z2 + z1).toNat : Nat) : Int); omega⟩
      have fr2 : frm w2 (up (up w2 78 0 (10 * z2 + z1)) 68 14 1) [68, 78] := (frm.rfl.up (by decide)).up (by decide)
      refine Go_ald0 dX12_start_87 ?_
      refine Go_cV0 (d' := 1) (bc' := 0) (bs' := 0) rfl dX12_start_88 mvX12_addPath rfl lkX12_117 (by first | assumption | rfl) rfl trivial (by decide) (by decide) (by decide) (Nat.le_of_ble_eq_true rfl) ?_
      refine e_X12_addPath (hm2.1.rc.frm fr2 (by decide)) (by omega) rw2 (fun w3 r3 f3 g3 => ?_)
      refine Go_ireturn dX12_start_91 rfl (by first | rfl | decide | exact nar_b | simp [narrow]) ?_
      have ha := st_a hm2.1
      refine k _ _ en (by omega) (by omega) (mx_of hm2 f8 t2 (RC.st r3 oA (by simp) (fun q hq => pth_app) (by rw [g3 1 (by decide) (by decide), fr2.at (by decide)]; exact ha.1) (by rw [g3 2 (by decide) (by decide), fr2.at (by decide)]; exact ha.2.1) (by rw [g3 3 (by decide) (by decide), fr2.at (by decide)]; exact ha.2.2)) ((fr2.mono (B := [68, 69, 78]) (by decide)).trans f3 (by decide)) (by decide) ?_ ?_ ?_)
      · rw [f3.at (by decide), up_k (by decide), up_a (by decide)]
      · rw [f3.at (by decide), up_k (by decide), up_a (by decide)]
      · rw [f3.at (by decide), up_k (by decide), up_a (by decide)]
    · refine Go_ald0 dX12_start_60 ?_
      refine Go_iconst dX12_start_61 ?_
      refine Go_cV1 (d' := 0) (bc' := 0) (bs' := 0) rfl dX12_start_62 mvX12_fails rfl lkX12_78 (by first | assumption | rfl) rfl trivial (by decide) (by decide) (by decide) (Nat.le_of_ble_eq_true rfl) ?_
      refine e_X12_fails ?_
      refine Go_ireturn dX12_start_65 rfl (by first | rfl | decide | exact nar_b | simp [narrow]) ?_
      refine x2 _ _ en (fun q => by omega) ⟨(mfr.rfl.upd (by decide) (Or.inr ⟨by decide, by decide⟩)).MInv hm1, up_s, f9.up (by decide)⟩
/-- a call of a path and a number whose path is none -/
theorem e_X12_step (h : MInv w s sv g tx) (h1 : inR z1) (h2 : inR z2)
    (k : ∀ w' (p d : Nat), z1 = p → p < s.1.length → z2 = d → d < 4 → MX w w' 0 (stepS s p d) (pushS sv s) g tx → K (vi (stepR s.1 p d)) none w')
    (x1 : ∀ w', ¬ (0 ≤ z1 ∧ z1 < s.1.length) → MX w w' 1 s sv g tx → K (vi 0) none w') (x2 : ∀ w', 0 ≤ z1 → z1 < s.1.length → ¬ (0 ≤ z2 ∧ z2 ≤ 3) → MX w w' 2 s sv g tx → K (vi 0) none w') : Ev G yX12_step cX12_step 5 mX12_step none 2 0 0 [vr 68, vi z1, vi z2] w K X := by
  have hm := thr0.MInv h
  have h5 := h.1.1.1
  refine Ev_intro mvX12_step.1 rfl (fun h => by cases h) (allc1 rfl) (Nat.le_of_ble_eq_true rfl) (Or.inl rfl) ?_
  show Go G cX12_step mX12_step none 2 0 0 0 [some (vr 68), some (vi z1), some (vi z2), none, none] [] w K X
  by_cases c : 0 ≤ z1 ∧ z1 < s.1.length
  case neg =>
    refine Go_ald0 dX12_step_0 ?_
    refine Go_iconst dX12_step_1 ?_
    refine pf11_0 dX12_step_2 flX12_59 (by first | assumption | rfl) ?_
    refine Go_ald0 dX12_step_5 ?_
    refine Go_ild1 dX12_step_6 ?_
    refine Go_cV1 (d' := 1) (bc' := 0) (bs' := 0) rfl dX12_step_7 mvX12_isPath rfl lkX12_66 (by first | assumption | rfl) rfl trivial (by decide) (by decide) (by decide) (Nat.le_of_ble_eq_true rfl) ?_
    refine e_X12_isPath hm.1 h1 ?_
    refine Go_ifb_ne (tgt := 19) dX12_step_10 (by decide)  (fun h10 => by exact absurd h10 c) (fun h10 => ?_)
    refine Go_ald0 dX12_step_13 ?_
    refine Go_iconst dX12_step_14 ?_
    refine Go_cV1 (d' := 0) (bc' := 0) (bs' := 0) rfl dX12_step_15 mvX12_fails rfl lkX12_78 (by first | assumption | rfl) rfl trivial (by decide) (by decide) (by decide) (Nat.le_of_ble_eq_true rfl) ?_
    refine e_X12_fails ?_
    refine Go_ireturn dX12_step_18 rfl (by first | rfl | decide | exact nar_b | simp [narrow]) ?_
    exact x1 _ c (MX_fail h)
  by_cases c2 : 0 ≤ z2 ∧ z2 ≤ 3
  case neg =>
    refine Go_ald0 dX12_step_0 ?_
    refine Go_iconst dX12_step_1 ?_
    refine pf11_0 dX12_step_2 flX12_59 (by first | assumption | rfl) ?_
    refine Go_ald0 dX12_step_5 ?_
    refine Go_ild1 dX12_step_6 ?_
    refine Go_cV1 (d' := 1) (bc' := 0) (bs' := 0) rfl dX12_step_7 mvX12_isPath rfl lkX12_66 (by first | assumption | rfl) rfl trivial (by decide) (by decide) (by decide) (Nat.le_of_ble_eq_true rfl) ?_
    refine e_X12_isPath hm.1 h1 ?_
    refine Go_ifb_ne (tgt := 19) dX12_step_10 (by decide)  (fun h10 => ?_) (fun h10 => by exact absurd c h10)
    refine Go_ild2 dX12_step_19 ?_
    refine Go_iconst dX12_step_20 ?_
    refine Go_iconst dX12_step_21 ?_
    refine Go_cS3 (d' := 0) (bc' := 0) (bs' := 0) rfl dX12_step_22 msX12_within rfl lkX12_62 (by decide) (by decide) (by decide) (Nat.le_of_ble_eq_true rfl) ?_
    refine e_X12_within h2 (by constructor <;> omega) (by constructor <;> omega) ?_
    refine Go_ifb_ne (tgt := 34) dX12_step_25 (by decide)  (fun h25 => by exact absurd h25 c2) (fun h25 => ?_)
    refine Go_ald0 dX12_step_28 ?_
    refine Go_iconst dX12_step_29 ?_
    refine Go_cV1 (d' := 0) (bc' := 0) (bs' := 0) rfl dX12_step_30 mvX12_fails rfl lkX12_78 (by first | assumption | rfl) rfl trivial (by decide) (by decide) (by decide) (Nat.le_of_ble_eq_true rfl) ?_
    refine e_X12_fails ?_
    refine Go_ireturn dX12_step_33 rfl (by first | rfl | decide | exact nar_b | simp [narrow]) ?_
    exact x2 _ c.1 c.2 c2 (MX_fail h)
  obtain ⟨p, rfl⟩ := Int.eq_ofNat_of_zero_le c.1
  obtain ⟨d, rfl⟩ := Int.eq_ofNat_of_zero_le c2.1
  have hp : p < s.1.length := by omega
  have hd : d < 4 := by omega
  have hl := h.1.1.len hp
  have hh : hdL (pth s.1 p) < 100 := (h.1.1.lt p).at _
  have bt := nbI_in (hdL (pth s.1 p)) d
  have br := rsn_in s.1 p (stepT s.1 p d)
  have eT : nbI (hdL (pth s.1 p)) d = stepT s.1 p d := rfl
  refine Go_ald0 dX12_step_0 ?_
  refine Go_iconst dX12_step_1 ?_
  refine pf11_0 dX12_step_2 flX12_59 (by first | assumption | rfl) ?_
  refine Go_ald0 dX12_step_5 ?_
  refine Go_ild1 dX12_step_6 ?_
  refine Go_cV1 (d' := 1) (bc' := 0) (bs' := 0) rfl dX12_step_7 mvX12_isPath rfl lkX12_66 (by first | assumption | rfl) rfl trivial (by decide) (by decide) (by decide) (Nat.le_of_ble_eq_true rfl) ?_
  refine e_X12_isPath hm.1 h1 ?_
  refine Go_ifb_ne (tgt := 19) dX12_step_10 (by decide)  (fun h10 => ?_) (fun h10 => by exact absurd c h10)
  refine Go_ild2 dX12_step_19 ?_
  refine Go_iconst dX12_step_20 ?_
  refine Go_iconst dX12_step_21 ?_
  refine Go_cS3 (d' := 0) (bc' := 0) (bs' := 0) rfl dX12_step_22 msX12_within rfl lkX12_62 (by decide) (by decide) (by decide) (Nat.le_of_ble_eq_true rfl) ?_
  refine e_X12_within h2 (by constructor <;> omega) (by constructor <;> omega) ?_
  refine Go_ifb_ne (tgt := 34) dX12_step_25 (by decide)  (fun h25 => ?_) (fun h25 => by exact absurd c2 h25)
  refine Go_ald0 dX12_step_34 ?_
  refine Go_cVv0 (d' := 0) (bc' := 0) (bs' := 0) rfl dX12_step_35 mvX12_save rfl lkX12_81 (by first | assumption | rfl) rfl trivial (by decide) (by decide) (by decide) (Nat.le_of_ble_eq_true rfl) ?_
  refine e_X12_save hm.1 hm.2.1 (fun w1 v1 f1 g1 => ?_)
  have hm1 := MI_save hm v1 f1 g1
  refine Go_ald0 dX12_step_38 ?_
  refine Go_cVv0 (d' := 1) (bc' := 0) (bs' := 0) rfl dX12_step_39 mvX12_lay rfl lkX12_114 (by first | assumption | rfl) rfl trivial (by decide) (by decide) (by decide) (Nat.le_of_ble_eq_true rfl) ?_
  refine e_X12_lay hm1.1 (fun w2 m2 f2 => ?_)
  have hm2 := (mfr.of f2 (by decide)).MInv hm1
  have f9 : frm w w2 mcs := ((frm.rfl.up (by decide) : frm w (up w 68 0 0) mcs).trans f1 (by decide)).trans f2 (by decide)
  have t0 : w2 68 0 = 0 := by rw [f2.at (by decide), g1 0 (by decide), up_s]
  have ha := st_a hm2.1
  refine Go_ald0 dX12_step_42 ?_
  refine Go_ild1 dX12_step_43 ?_
  refine Go_cV1 (d' := 1) (bc' := 0) (bs' := 0) rfl dX12_step_44 mvX12_headOf rfl lkX12_121 (by first | assumption | rfl) rfl trivial (by decide) (by decide) (by decide) (Nat.le_of_ble_eq_true rfl) ?_
  refine e_X12_headOf hm2.1 hp ?_
  refine Go_ild2 dX12_step_47 ?_
  refine Go_cS2 (d' := 1) (bc' := 0) (bs' := 0) rfl dX12_step_48 msX12_next rfl lkX12_84 (by decide) (by decide) (by decide) (Nat.le_of_ble_eq_true rfl) ?_
  refine e_X12_next (by omega) (by omega) hd ?_
  refine Go_ist3 dX12_step_51 rfl ?_
  refine Go_ald0 dX12_step_52 ?_
  refine Go_ild1 dX12_step_53 ?_
  refine Go_ild3 dX12_step_54 ?_
  refine Go_cV2 (d' := 0) (bc' := 0) (bs' := 0) rfl dX12_step_55 mvX12_reason rfl lkX12_124 (by first | assumption | rfl) rfl trivial (by decide) (by decide) (by decide) (Nat.le_of_ble_eq_true rfl) ?_
  refine e_X12_reason bt (mk_r m2 h5 bt.2) (by omega) ?_
  rw [rsn_mk m2 bt, eT]
  refine Go_ist4 dX12_step_58 rfl ?_
  by_cases r0 : stepR s.1 p d = 0
  · have o := h.1.1.step (s := s) hp hd
    rw [stepS_t r0] at o
    have kk := fun w' => k w' p d rfl hp rfl hd
    rw [stepS_t r0] at kk
    have r1 : rsn s.1 p (stepT s.1 p d) = 0 ∧ (pth s.1 p).length ≠ 60 := by
      unfold stepR at r0
      split at r0
      · omega
      · rename_i q; exact ⟨r0, fun e => q ⟨r0, e⟩⟩
    have nn := rsn_0 h.1.1.nd (by rw [← eT]; exact bt) r1.1
    refine Go_ild4 dX12_step_60 ?_
    refine Go_if_ne (tgt := 79) dX12_step_62 (by decide) (by constructor <;> omega) (fun h62 => by omega) (fun h62 => ?_)
    refine Go_ald0 dX12_step_65 ?_
    refine Go_ild1 dX12_step_66 ?_
    refine Go_cV1 (d' := 0) (bc' := 0) (bs' := 0) rfl dX12_step_67 mvX12_lengthOf rfl lkX12_70 (by first | assumption | rfl) rfl trivial (by decide) (by decide) (by decide) (Nat.le_of_ble_eq_true rfl) ?_
    refine e_X12_lengthOf hm2.1 hp ?_
    refine Go_bipush dX12_step_70 (by decide +kernel) ?_
    refine Go_icmp_ne (tgt := 79) dX12_step_72 (by decide) (by constructor <;> omega) (by constructor <;> omega) (fun h72 => ?_) (fun h72 => by omega)
    refine Go_ild4 dX12_step_79 ?_
    refine Go_ist4 dX12_step_81 rfl ?_
    refine Go_ild4 dX12_step_83 ?_
    refine Go_if_eq (tgt := 101) dX12_step_85 (by decide) (by constructor <;> omega) (fun h85 => ?_) (fun h85 => by omega)
    refine Go_ald0 dX12_step_101 ?_
    refine Go_ild1 dX12_step_102 ?_
    refine Go_ald0 dX12_step_103 ?_
    refine Go_ild1 dX12_step_104 ?_
    refine Go_cV1 (d' := 0) (bc' := 0) (bs' := 0) rfl dX12_step_105 mvX12_lengthOf rfl lkX12_70 (by first | assumption | rfl) rfl trivial (by decide) (by decide) (by decide) (Nat.le_of_ble_eq_true rfl) ?_
    refine e_X12_lengthOf hm2.1 hp ?_
    refine Go_ild3 dX12_step_108 ?_
    refine Go_cVv3 (d' := 0) (bc' := 0) (bs' := 0) rfl dX12_step_109 mvX12_setSite rfl lkX12_104 (by first | assumption | rfl) rfl trivial (by decide) (by decide) (by decide) (Nat.le_of_ble_eq_true rfl) ?_
    refine e_X12_setSite (k0 := (pth s.1 p).length) (by omega) rfl (by omega) ?_
    refine Go_ald0 dX12_step_112 ?_
    refine gf11_1 dX12_step_113 flX12_7 ?_
    refine Go_iconst dX12_step_116 ?_
    refine Go_ild1 dX12_step_117 ?_
    refine Go_iadd dX12_step_118 ?_
    refine Go_dup2 dX12_step_119 ?_
    refine Go_iald dX12_step_120 (by first | assumption | rfl) trivial (by omega) (by omega) (by decide) ?_
    rw [show (4 + (p : Int)).toNat = 4 + p by omega, up_k (by omega), st_l hm2.1 hp]
    refine Go_iconst dX12_step_121 ?_
    refine Go_iadd dX12_step_122 ?_
    refine Go_iast dX12_step_123 (by first | assumption | rfl) trivial (by omega) (by omega) (by decide) ?_
    refine Go_ald0 dX12_step_124 ?_
    refine gf11_1 dX12_step_125 flX12_7 ?_
    refine Go_iconst dX12_step_128 ?_
    refine Go_dup2 dX12_step_129 ?_
    refine Go_iald dX12_step_130 (by first | assumption | rfl) trivial (by omega) (by omega) (by decide) ?_
    refine Go_iconst dX12_step_131 ?_
    refine Go_iadd dX12_step_132 ?_
    refine Go_iast dX12_step_133 (by first | assumption | rfl) trivial (by omega) (by omega) (by decide) ?_
    refine Go_iconst dX12_step_134 ?_
    refine Go_ireturn dX12_step_135 rfl (by first | rfl | decide | exact nar_b | simp [narrow]) ?_
    rw [show (1 : Int).toNat = 1 from rfl, show (4 + (p : Int)).toNat = 4 + p by omega]
    refine kI r0.symm (kk _ (mx_of hm2 f9 t0 (A := [69]) (st_set hm2.1 hp o ⟨?_, by rw [List.length_append]; simp; omega, fun k hk => ?_⟩ ?_ (fun q hq hne => ?_) ?_ ?_ ?_) (((frm.rfl.up (by decide)).up (by decide)).up (by decide)) (by decide) (by rw [up_a (by decide), up_a (by decide), up_a (by decide)]) (by rw [up_a (by decide), up_a (by decide), up_a (by decide)]) (by rw [up_a (by decide), up_a (by decide), up_a (by decide)])))
    · rw [up_k (by omega), up_s, List.length_append]; rfl
    · rw [List.length_append, List.length_cons, List.length_nil] at hk
      rw [up_k (by omega), up_k (by omega), gD_app]
      by_cases e : k = (pth s.1 p).length
      · subst e; rw [up_s, if_neg (by omega), Nat.sub_self]; show _ = (((stepT s.1 p d).toNat : Nat) : Int); omega
      · rw [up_k (by omega), if_pos (by omega)]; exact st_s hm2.1 hp (by omega)
    · rw [up_k (by omega), up_k (by omega), up_k (by omega)]
    · have l2 := (h.1.1.len hq).2
      exact (((hm2.1.rc.2.2 q hq).keep (by omega) (by omega)).keep (by omega) (by omega)).keep (by omega) (by omega)
    · rw [up_s, up_k (by omega), up_k (by omega), ha.1]
    · rw [up_k (by omega), up_k (by omega), up_k (by omega)]; exact ha.2.1
    · rw [up_k (by omega), up_k (by omega), up_k (by omega)]; exact ha.2.2
  · have kk := fun w' => k w' p d rfl hp rfl hd
    rw [stepS_f r0] at kk
    have fin : MX w (up w2 69 2 (w2 69 2 + 1)) 0 (s.1, s.2.1, s.2.2.1 + 1, s.2.2.2) (pushS sv s) g tx := mx_of hm2 f9 t0 (A := [69]) (st_mk h.1.1 (by rw [up_k (by decide)]; exact (st_n hm2.1 :)) (by rw [up_k (by decide)]; exact ha.1) (by rw [up_s, ha.2.1]) (by rw [up_k (by decide)]; exact ha.2.2) (fun q hq => by rw [up_k (by omega)]; exact (st_l hm2.1 hq :)) (fun q k hq hk => by rw [up_k (by omega)]; exact (st_s hm2.1 hq hk :))) (frm.rfl.up (by decide)) (by decide) (by rw [up_a (by decide)]) (by rw [up_a (by decide)]) (by rw [up_a (by decide)])
    by_cases r1 : rsn s.1 p (stepT s.1 p d) = 0
    · have e60 : (pth s.1 p).length = 60 := by
        unfold stepR at r0
        split at r0
        · rename_i q; exact q.2
        · exact absurd r1 r0
      have er : stepR s.1 p d = 4 := by unfold stepR; rw [if_pos ⟨r1, e60⟩]
      refine Go_ild4 dX12_step_60 ?_
      refine Go_if_ne (tgt := 79) dX12_step_62 (by decide) (by constructor <;> omega) (fun h62 => by omega) (fun h62 => ?_)
      refine Go_ald0 dX12_step_65 ?_
      refine Go_ild1 dX12_step_66 ?_
      refine Go_cV1 (d' := 0) (bc' := 0) (bs' := 0) rfl dX12_step_67 mvX12_lengthOf rfl lkX12_70 (by first | assumption | rfl) rfl trivial (by decide) (by decide) (by decide) (Nat.le_of_ble_eq_true rfl) ?_
      refine e_X12_lengthOf hm2.1 hp ?_
      refine Go_bipush dX12_step_70 (by decide +kernel) ?_
      refine Go_icmp_ne (tgt := 79) dX12_step_72 (by decide) (by constructor <;> omega) (by constructor <;> omega) (fun h72 => by omega) (fun h72 => ?_)
      refine Go_iconst dX12_step_75 ?_
      refine Go_goto (tgt := 81) dX12_step_76 (by decide) ?_
      refine Go_ist4 dX12_step_81 rfl ?_
      refine Go_ild4 dX12_step_83 ?_
      refine Go_if_eq (tgt := 101) dX12_step_85 (by decide) (by constructor <;> omega) (fun h85 => by omega) (fun h85 => ?_)
      refine Go_ald0 dX12_step_88 ?_
      refine gf11_1 dX12_step_89 flX12_7 ?_
      refine Go_iconst dX12_step_92 ?_
      refine Go_dup2 dX12_step_93 ?_
      refine Go_iald dX12_step_94 (by first | assumption | rfl) trivial (by omega) (by omega) (by decide) ?_
      refine Go_iconst dX12_step_95 ?_
      refine Go_iadd dX12_step_96 ?_
      refine Go_iast dX12_step_97 (by first | assumption | rfl) trivial (by omega) (by omega) (by decide) ?_
      refine Go_ild4 dX12_step_98 ?_
      refine Go_ireturn dX12_step_100 rfl (by first | rfl | decide | exact nar_b | simp [narrow]) ?_
      rw [show (2 : Int).toNat = 2 from rfl]
      exact kI er.symm (kk _ fin)
    · have er : stepR s.1 p d = rsn s.1 p (stepT s.1 p d) := by unfold stepR; rw [if_neg (fun q => r1 q.1)]
      refine Go_ild4 dX12_step_60 ?_
      refine Go_if_ne (tgt := 79) dX12_step_62 (by decide) (by constructor <;> omega) (fun h62 => ?_) (fun h62 => by omega)
      refine Go_ild4 dX12_step_79 ?_
      refine Go_ist4 dX12_step_81 rfl ?_
      refine Go_ild4 dX12_step_83 ?_
      refine Go_if_eq (tgt := 101) dX12_step_85 (by decide) (by constructor <;> omega) (fun h85 => by omega) (fun h85 => ?_)
      refine Go_ald0 dX12_step_88 ?_
      refine gf11_1 dX12_step_89 flX12_7 ?_
      refine Go_iconst dX12_step_92 ?_
      refine Go_dup2 dX12_step_93 ?_
      refine Go_iald dX12_step_94 (by first | assumption | rfl) trivial (by omega) (by omega) (by decide) ?_
      refine Go_iconst dX12_step_95 ?_
      refine Go_iadd dX12_step_96 ?_
      refine Go_iast dX12_step_97 (by first | assumption | rfl) trivial (by omega) (by omega) (by decide) ?_
      refine Go_ild4 dX12_step_98 ?_
      refine Go_ireturn dX12_step_100 rfl (by first | rfl | decide | exact nar_b | simp [narrow]) ?_
      rw [show (2 : Int).toNat = 2 from rfl]
      exact kI er.symm (kk _ fin)
end Model3
