section Any
variable {G : Gm} {cc : ByteArray} {mt : Mt} {nx : Option Nat} {d bc bs pc : Nat} {ls : List (Option Vl)} {st : List Vl} {w : Wd} {K : Kt} {X : Xt}
/-- whatever is compared: both ways are gone -/
theorem Go_any_ne {a b : Int} {off : Int} {tgt : Nat} (dec : decode cc pc = .ok (.if_icmp .ne off, 3)) (ht : (pc : Int) + off = (tgt : Int)) (kt : Go G cc mt nx d bc bs tgt ls st w K X) (kf : Go G cc mt nx d bc bs (pc + 3) ls st w K X) : Go G cc mt nx d bc bs pc ls (vi b :: vi a :: st) w K X := by
  intro p e R s m args below meth c Q H locs cells slots la C EK EX hl hw hS h1 h2
  exact lv_icmp_ne C.1 C.2.1 dec ht (fun h => kt p e R s m args below meth c Q H locs cells slots la C EK EX hl hw hS h1 h2) (fun h => kf p e R s m args below meth c Q H locs cells slots la C EK EX hl hw hS h1 h2)
end Any
section Model8
variable {G : Gm} {w : Wd} {K : Kt} {X : Xt} {s : Sta} {sv : List Sta} {g : Nat → Option Sta} {tx : List Nat} {z z1 z2 z3 : Int} {p o q k0 n : Nat} {l : List Nat}
theorem e_X12_laySteps {v0 : Nat} (h : ST w 69 0 s) (hp : p < s.1.length) (hv : v0 < 16) (k : ∀ w', (∀ j, j < (pth s.1 p).length - 1 → w' 82 j = vwJ (pth s.1 p) v0 j) → frm w w' [82] → K (vi 0) none w') : Ev G yX12_laySteps cX12_laySteps 6 mX12_laySteps none 4 0 0 [vr 68, vi (p : Int), vi (v0 : Int)] w K X := by
  have hl := h.1.len hp
  refine Ev_intro mvX12_laySteps.1 rfl (fun h => by cases h) (allc1 rfl) (Nat.le_of_ble_eq_true rfl) (Or.inl rfl) ?_
  show Go G cX12_laySteps mX12_laySteps none 4 0 0 0 [some (vr 68), some (vi (p : Int)), some (vi (v0 : Int)), none, none, none] [] w K X
  refine Go_ald0 dX12_laySteps_0 ?_
  refine Go_ild1 dX12_laySteps_1 ?_
  refine Go_cV1 (d' := 0) (bc' := 0) (bs' := 0) rfl dX12_laySteps_2 mvX12_lengthOf rfl lkX12_70 (by first | assumption | rfl) rfl trivial (by decide) (by decide) (by decide) (Nat.le_of_ble_eq_true rfl) ?_
  refine e_X12_lengthOf h hp ?_
  refine Go_iconst dX12_laySteps_5 ?_
  refine Go_isub dX12_laySteps_6 ?_
  refine Go_ist3 dX12_laySteps_7 rfl ?_
  refine Go_iconst dX12_laySteps_8 ?_
  refine Go_ist4 dX12_laySteps_9 rfl ?_
  refine Go_upTo (n := (pth s.1 p).length - 1) (L := fun i => [some (vr 68), some (vi (p : Int)), some (vi (v0 : Int)), some (vi (((pth s.1 p).length : Int) - 2)), some (vi (i : Int)), none]) (P := fun i v => frm w v [82] ∧ ∀ j, j < i → v 82 j = vwJ (pth s.1 p) v0 j) (by repeat' (first | exact Or.inl rfl | exact Or.inr rfl | exact Or.inr (lcg (by omega)) | exact trivial | constructor)) (⟨frm.rfl, fun j hj => by omega⟩) (fun i v hi hP kn => ?_) (fun v hP => ?_)
  · try dsimp only at hP kn
    try dsimp only
    obtain ⟨f1, a1⟩ := hP
    have hs := h.frm f1 (by decide)
    have b1 := stJ_in (pth s.1 p) i
    have b2 := stJ_in (pth s.1 p) ((pth s.1 p).length - 1 - 1 - i)
    have eB : vwB (pth s.1 p) v0 i = if v0 < 8 then stJ (pth s.1 p) i else (stJ (pth s.1 p) ((pth s.1 p).length - 1 - 1 - i) + 2) % 4 := rfl
    have eC : vwC (pth s.1 p) v0 i = if v0 / 4 % 2 = 0 then vwB (pth s.1 p) v0 i else (4 - vwB (pth s.1 p) v0 i) % 4 := rfl
    have eJ : vwJ (pth s.1 p) v0 i = (vwC (pth s.1 p) v0 i + (v0 % 4 : Nat)) % 4 := rfl
    have nx : ∀ y : Int, y = vwJ (pth s.1 p) v0 i → ∀ j, j < i + 1 → up v 82 i y 82 j = vwJ (pth s.1 p) v0 j := fun y hy j hj => by
      by_cases c : j = i
      · subst c; rw [up_s]; exact hy
      · rw [up_k c]; exact a1 j (by omega)
    refine Go_ild4 dX12_laySteps_11 ?_
    refine Go_ild3 dX12_laySteps_13 ?_
    refine Go_icmp_gt (tgt := 90) dX12_laySteps_14 (by decide) (by constructor <;> omega) (by constructor <;> omega) (fun h14 => by omega) (fun h14 => ?_)
    refine Go_ild2 dX12_laySteps_17 ?_
    refine Go_bipush dX12_laySteps_18 (by decide +kernel) ?_
    refine Go_icmp_ge (tgt := 33) dX12_laySteps_20 (by decide) (by constructor <;> omega) (by constructor <;> omega) (fun h20 => ?_) (fun h20 => ?_)
    · refine Go_ald0 dX12_laySteps_33 ?_
      refine Go_ild1 dX12_laySteps_34 ?_
      refine Go_ild3 dX12_laySteps_35 ?_
      refine Go_ild4 dX12_laySteps_36 ?_
      refine Go_isub dX12_laySteps_38 ?_
      refine Go_cV2 (d' := 3) (bc' := 0) (bs' := 0) rfl dX12_laySteps_39 mvX12_stepOf rfl lkX12_168 (by first | assumption | rfl) rfl trivial (by decide) (by decide) (by decide) (Nat.le_of_ble_eq_true rfl) ?_
      refine e_X12_stepOf (k0 := (pth s.1 p).length - 1 - 1 - i) hs hp (by omega) (by omega) ?_
      refine Go_iconst dX12_laySteps_42 ?_
      refine Go_iadd dX12_laySteps_43 ?_
      refine Go_iconst dX12_laySteps_44 ?_
      refine Go_irem dX12_laySteps_45 (by omega) (by omega) (by omega) (by omega) ?_
      refine Go_ist5 dX12_laySteps_46 rfl ?_
      refine Go_ild2 dX12_laySteps_48 ?_
      refine Go_iconst dX12_laySteps_49 ?_
      refine Go_idiv dX12_laySteps_50 (by omega) (by omega) (by omega) (by omega) ?_
      refine Go_iconst dX12_laySteps_51 ?_
      refine Go_irem dX12_laySteps_52 (by omega) (by omega) (by omega) (by omega) ?_
      refine Go_if_ne (tgt := 61) dX12_laySteps_53 (by decide) (by constructor <;> omega) (fun h53 => ?_) (fun h53 => ?_)
      · refine Go_iconst dX12_laySteps_61 ?_
        refine Go_ild5 dX12_laySteps_62 ?_
        refine Go_isub dX12_laySteps_64 ?_
        refine Go_iconst dX12_laySteps_65 ?_
        refine Go_irem dX12_laySteps_66 (by omega) (by omega) (by omega) (by omega) ?_
        refine Go_ist5 dX12_laySteps_67 rfl ?_
        refine Go_ald0 dX12_laySteps_69 ?_
        refine gf11_18 dX12_laySteps_70 flX12_49 ?_
        refine Go_ild4 dX12_laySteps_73 ?_
        refine Go_ild5 dX12_laySteps_75 ?_
        refine Go_ild2 dX12_laySteps_77 ?_
        refine Go_iconst dX12_laySteps_78 ?_
        refine Go_irem dX12_laySteps_79 (by omega) (by omega) (by omega) (by omega) ?_
        refine Go_iadd dX12_laySteps_80 ?_
        refine Go_iconst dX12_laySteps_81 ?_
        refine Go_irem dX12_laySteps_82 (by omega) (by omega) (by omega) (by omega) ?_
        refine Go_iast dX12_laySteps_83 (by first | assumption | rfl) trivial (by omega) (by omega) (by decide) ?_
        refine Go_inc4 dX12_laySteps_84 rfl ?_
        refine Go_goto (tgt := 11) dX12_laySteps_87 (by decide) ?_
        rw [Int.toNat_natCast]
        refine Go_forget (by repeat' (first | exact Or.inl rfl | exact Or.inr rfl | exact Or.inr (lcg (by omega)) | exact trivial | constructor)) (kn _ ⟨f1.up (by simp), nx _ ?_⟩)
        repeat' split at eB
        all_goals (repeat' split at eC)
        all_goals first | omega | (rw [eJ, eC, eB]; omega)
      · refine Go_ild5 dX12_laySteps_56 ?_
        refine Go_goto (tgt := 67) dX12_laySteps_58 (by decide) ?_
        refine Go_ist5 dX12_laySteps_67 rfl ?_
        refine Go_ald0 dX12_laySteps_69 ?_
        refine gf11_18 dX12_laySteps_70 flX12_49 ?_
        refine Go_ild4 dX12_laySteps_73 ?_
        refine Go_ild5 dX12_laySteps_75 ?_
        refine Go_ild2 dX12_laySteps_77 ?_
        refine Go_iconst dX12_laySteps_78 ?_
        refine Go_irem dX12_laySteps_79 (by omega) (by omega) (by omega) (by omega) ?_
        refine Go_iadd dX12_laySteps_80 ?_
        refine Go_iconst dX12_laySteps_81 ?_
        refine Go_irem dX12_laySteps_82 (by omega) (by omega) (by omega) (by omega) ?_
        refine Go_iast dX12_laySteps_83 (by first | assumption | rfl) trivial (by omega) (by omega) (by decide) ?_
        refine Go_inc4 dX12_laySteps_84 rfl ?_
        refine Go_goto (tgt := 11) dX12_laySteps_87 (by decide) ?_
        rw [Int.toNat_natCast]
        refine Go_forget (by repeat' (first | exact Or.inl rfl | exact Or.inr rfl | exact Or.inr (lcg (by omega)) | exact trivial | constructor)) (kn _ ⟨f1.up (by simp), nx _ ?_⟩)
        repeat' split at eB
        all_goals (repeat' split at eC)
        all_goals first | omega | (rw [eJ, eC, eB]; omega)
    · refine Go_ald0 dX12_laySteps_23 ?_
      refine Go_ild1 dX12_laySteps_24 ?_
      refine Go_ild4 dX12_laySteps_25 ?_
      refine Go_cV2 (d' := 3) (bc' := 0) (bs' := 0) rfl dX12_laySteps_27 mvX12_stepOf rfl lkX12_168 (by first | assumption | rfl) rfl trivial (by decide) (by decide) (by decide) (Nat.le_of_ble_eq_true rfl) ?_
      refine e_X12_stepOf (k0 := i) hs hp rfl (by omega) ?_
      refine Go_goto (tgt := 46) dX12_laySteps_30 (by decide) ?_
      refine Go_ist5 dX12_laySteps_46 rfl ?_
      refine Go_ild2 dX12_laySteps_48 ?_
      refine Go_iconst dX12_laySteps_49 ?_
      refine Go_idiv dX12_laySteps_50 (by omega) (by omega) (by omega) (by omega) ?_
      refine Go_iconst dX12_laySteps_51 ?_
      refine Go_irem dX12_laySteps_52 (by omega) (by omega) (by omega) (by omega) ?_
      refine Go_if_ne (tgt := 61) dX12_laySteps_53 (by decide) (by constructor <;> omega) (fun h53 => ?_) (fun h53 => ?_)
      · refine Go_iconst dX12_laySteps_61 ?_
        refine Go_ild5 dX12_laySteps_62 ?_
        refine Go_isub dX12_laySteps_64 ?_
        refine Go_iconst dX12_laySteps_65 ?_
        refine Go_irem dX12_laySteps_66 (by omega) (by omega) (by omega) (by omega) ?_
        refine Go_ist5 dX12_laySteps_67 rfl ?_
        refine Go_ald0 dX12_laySteps_69 ?_
        refine gf11_18 dX12_laySteps_70 flX12_49 ?_
        refine Go_ild4 dX12_laySteps_73 ?_
        refine Go_ild5 dX12_laySteps_75 ?_
        refine Go_ild2 dX12_laySteps_77 ?_
        refine Go_iconst dX12_laySteps_78 ?_
        refine Go_irem dX12_laySteps_79 (by omega) (by omega) (by omega) (by omega) ?_
        refine Go_iadd dX12_laySteps_80 ?_
        refine Go_iconst dX12_laySteps_81 ?_
        refine Go_irem dX12_laySteps_82 (by omega) (by omega) (by omega) (by omega) ?_
        refine Go_iast dX12_laySteps_83 (by first | assumption | rfl) trivial (by omega) (by omega) (by decide) ?_
        refine Go_inc4 dX12_laySteps_84 rfl ?_
        refine Go_goto (tgt := 11) dX12_laySteps_87 (by decide) ?_
        rw [Int.toNat_natCast]
        refine Go_forget (by repeat' (first | exact Or.inl rfl | exact Or.inr rfl | exact Or.inr (lcg (by omega)) | exact trivial | constructor)) (kn _ ⟨f1.up (by simp), nx _ ?_⟩)
        repeat' split at eB
        all_goals (repeat' split at eC)
        all_goals first | omega | (rw [eJ, eC, eB]; omega)
      · refine Go_ild5 dX12_laySteps_56 ?_
        refine Go_goto (tgt := 67) dX12_laySteps_58 (by decide) ?_
        refine Go_ist5 dX12_laySteps_67 rfl ?_
        refine Go_ald0 dX12_laySteps_69 ?_
        refine gf11_18 dX12_laySteps_70 flX12_49 ?_
        refine Go_ild4 dX12_laySteps_73 ?_
        refine Go_ild5 dX12_laySteps_75 ?_
        refine Go_ild2 dX12_laySteps_77 ?_
        refine Go_iconst dX12_laySteps_78 ?_
        refine Go_irem dX12_laySteps_79 (by omega) (by omega) (by omega) (by omega) ?_
        refine Go_iadd dX12_laySteps_80 ?_
        refine Go_iconst dX12_laySteps_81 ?_
        refine Go_irem dX12_laySteps_82 (by omega) (by omega) (by omega) (by omega) ?_
        refine Go_iast dX12_laySteps_83 (by first | assumption | rfl) trivial (by omega) (by omega) (by decide) ?_
        refine Go_inc4 dX12_laySteps_84 rfl ?_
        refine Go_goto (tgt := 11) dX12_laySteps_87 (by decide) ?_
        rw [Int.toNat_natCast]
        refine Go_forget (by repeat' (first | exact Or.inl rfl | exact Or.inr rfl | exact Or.inr (lcg (by omega)) | exact trivial | constructor)) (kn _ ⟨f1.up (by simp), nx _ ?_⟩)
        repeat' split at eB
        all_goals (repeat' split at eC)
        all_goals first | omega | (rw [eJ, eC, eB]; omega)
  · try dsimp only at hP
    try dsimp only
    obtain ⟨f1, a1⟩ := hP
    refine Go_ild4 dX12_laySteps_11 ?_
    refine Go_ild3 dX12_laySteps_13 ?_
    refine Go_icmp_gt (tgt := 90) dX12_laySteps_14 (by decide) (by constructor <;> omega) (by constructor <;> omega) (fun h14 => ?_) (fun h14 => by omega)
    refine Go_return dX12_laySteps_90 rfl ?_
    exact k _ a1 f1
/-- the least of the views so far -/
def LQ (l : List Nat) (i : Nat) (f : Nat → Int) : Prop := i = 0 ∨ ((∀ v, v < i → ¬ lexlt (vwJ l v) f (l.length - 1)) ∧ ∃ v, v < i ∧ ∀ j, j < l.length - 1 → f j = vwJ l v j)
theorem LQ.less {l : List Nat} {i : Nat} {f f' : Nat → Int} (h : LQ l i f) (hl : i = 0 ∨ lexlt (vwJ l i) f (l.length - 1)) (e : ∀ j, j < l.length - 1 → f' j = vwJ l i j) : LQ l (i + 1) f' := by
  refine Or.inr ⟨fun v hv q => ?_, i, by omega, e⟩
  have q2 := lexlt_congr (fun _ _ => rfl) e q
  by_cases c : v = i
  · subst c; obtain ⟨k, -, -, x⟩ := q2; omega
  · rcases hl with hl | hl
    · omega
    · rcases h with h | h
      · omega
      · exact h.1 v (by omega) (lexlt_trans q2 hl)
theorem LQ.keep {l : List Nat} {i : Nat} {f : Nat → Int} (h : LQ l i f) (hi : i ≠ 0) (hl : ¬ lexlt (vwJ l i) f (l.length - 1)) : LQ l (i + 1) f := by
  rcases h with h | ⟨h1, v, hv, e⟩
  · exact absurd h hi
  · refine Or.inr ⟨fun u hu => ?_, v, by omega, e⟩
    by_cases c : u = i
    · subst c; exact hl
    · exact h1 u (by omega)
theorem LQ.least {l : List Nat} {f : Nat → Int} (h : LQ l 16 f) : isLeast l f := by
  rcases h with h | h
  · omega
  · exact h
/-- the view is copied -/
theorem l_X12_copy {m u : Nat} {x : Option Vl} (hm : m ≤ 60) (kc : ∀ v', frm w v' [81] → (∀ j, j < m → v' 81 j = w 82 j) → Go G cX12_layShape mX12_layShape none 5 0 0 122 [some (vr 68), some (vi (p : Int)), some (vi (m : Int)), some (vi (u : Int)), none, none, none] [] v' K X) (hx : c1 x = true) : Go G cX12_layShape mX12_layShape none 5 0 0 81 [some (vr 68), some (vi (p : Int)), some (vi (m : Int)), some (vi (u : Int)), x, none, none] [] w K X := by
  refine Go_iconst dX12_layShape_81 ?_
  refine Go_goto (tgt := 86) dX12_layShape_82 (by decide) ?_
  refine Go_ist5 dX12_layShape_86 hx ?_
  refine Go_iconst dX12_layShape_88 ?_
  refine Go_ist6 dX12_layShape_89 rfl ?_
  refine Go_upTo (n := m) (L := fun i => [some (vr 68), some (vi (p : Int)), some (vi (m : Int)), some (vi (u : Int)), none, some (vi 1), some (vi (i : Int))]) (P := fun i v => frm w v [81] ∧ ∀ j, j < i → v 81 j = w 82 j) ((by repeat' (first | exact Or.inl rfl | exact Or.inr rfl | exact Or.inr (lcg (by omega)) | exact trivial | constructor))) ⟨frm.rfl, fun j hj => by omega⟩ (fun i v hi hP kn => ?_) (fun v hP => ?_)
  · try dsimp only at hP kn
    try dsimp only
    obtain ⟨f1, a1⟩ := hP
    refine Go_ild6 dX12_layShape_91 ?_
    refine Go_ild2 dX12_layShape_93 ?_
    refine Go_icmp_ge (tgt := 122) dX12_layShape_94 (by decide) (by constructor <;> omega) (by constructor <;> omega) (fun h94 => by omega) (fun h94 => ?_)
    refine Go_ild5 dX12_layShape_97 ?_
    refine Go_if_eq (tgt := 122) dX12_layShape_99 (by decide) (by constructor <;> omega) (fun h99 => by omega) (fun h99 => ?_)
    refine Go_ald0 dX12_layShape_102 ?_
    refine gf11_17 dX12_layShape_103 flX12_46 ?_
    refine Go_ild6 dX12_layShape_106 ?_
    refine Go_ald0 dX12_layShape_108 ?_
    refine gf11_18 dX12_layShape_109 flX12_49 ?_
    refine Go_ild6 dX12_layShape_112 ?_
    refine Go_iald dX12_layShape_114 (by first | assumption | rfl) trivial (by omega) (by omega) (by decide) ?_
    refine Go_iast dX12_layShape_115 (by first | assumption | rfl) trivial (by omega) (by omega) (by decide) ?_
    refine Go_inc6 dX12_layShape_116 rfl ?_
    refine Go_goto (tgt := 91) dX12_layShape_119 (by decide) ?_
    rw [Int.toNat_natCast, f1.at (by decide)]
    refine Go_forget (by repeat' (first | exact Or.inl rfl | exact Or.inr rfl | exact Or.inr (lcg (by omega)) | exact trivial | constructor)) (kn _ ⟨f1.up (by simp), fun j hj => ?_⟩)
    by_cases c : j = i
    · subst c; rw [up_s]
    · rw [up_k c]; exact a1 j (by omega)
  · try dsimp only at hP
    try dsimp only
    obtain ⟨f1, a1⟩ := hP
    refine Go_ild6 dX12_layShape_91 ?_
    refine Go_ild2 dX12_layShape_93 ?_
    refine Go_icmp_ge (tgt := 122) dX12_layShape_94 (by decide) (by constructor <;> omega) (by constructor <;> omega) (fun h94 => ?_) (fun h94 => by omega)
    refine Go_forget ?_ (kc _ f1 a1)
    exact ⟨Or.inr rfl, Or.inr rfl, Or.inr rfl, Or.inr rfl, Or.inl rfl, Or.inl rfl, Or.inl rfl, trivial⟩
theorem e_X12_layShape (h : ST w 69 0 s) (hp : p < s.1.length) (k : ∀ w' f, isLeast (pth s.1 p) f → (∀ j, j < (pth s.1 p).length - 1 → w' 81 j = f j) → frm w w' [81, 82] → K (vi 0) none w') : Ev G yX12_layShape cX12_layShape 7 mX12_layShape none 5 0 0 [vr 68, vi (p : Int)] w K X := by
  have hl := h.1.len hp
  refine Ev_intro mvX12_layShape.1 rfl (fun h => by cases h) (allc1 rfl) (Nat.le_of_ble_eq_true rfl) (Or.inl rfl) ?_
  show Go G cX12_layShape mX12_layShape none 5 0 0 0 [some (vr 68), some (vi (p : Int)), none, none, none, none, none] [] w K X
  refine Go_ald0 dX12_layShape_0 ?_
  refine Go_ild1 dX12_layShape_1 ?_
  refine Go_cV1 (d' := 0) (bc' := 0) (bs' := 0) rfl dX12_layShape_2 mvX12_lengthOf rfl lkX12_70 (by first | assumption | rfl) rfl trivial (by decide) (by decide) (by decide) (Nat.le_of_ble_eq_true rfl) ?_
  refine e_X12_lengthOf h hp ?_
  refine Go_iconst dX12_layShape_5 ?_
  refine Go_isub dX12_layShape_6 ?_
  rw [show ((pth s.1 p).length : Int) - 1 = (((pth s.1 p).length - 1 : Nat) : Int) by omega]
  refine Go_ist2 dX12_layShape_7 rfl ?_
  refine Go_iconst dX12_layShape_8 ?_
  refine Go_ist3 dX12_layShape_9 rfl ?_
  refine Go_upTo (n := 16) (L := fun i => [some (vr 68), some (vi (p : Int)), some (vi (((pth s.1 p).length - 1 : Nat) : Int)), some (vi (i : Int)), none, none, none]) (P := fun i v => frm w v [81, 82] ∧ LQ (pth s.1 p) i (v 81)) (by repeat' (first | exact Or.inl rfl | exact Or.inr rfl | exact Or.inr (lcg (by omega)) | exact trivial | constructor)) (⟨frm.rfl, Or.inl rfl⟩) (fun i v hi hP kn => ?_) (fun v hP => ?_)
  · try dsimp only at hP kn
    try dsimp only
    obtain ⟨f1, q1⟩ := hP
    have hs := h.frm f1 (by decide)
    refine Go_ild3 dX12_layShape_10 ?_
    refine Go_bipush dX12_layShape_11 (by decide +kernel) ?_
    refine Go_icmp_ge (tgt := 128) dX12_layShape_13 (by decide) (by constructor <;> omega) (by constructor <;> omega) (fun h13 => by omega) (fun h13 => ?_)
    refine Go_ald0 dX12_layShape_16 ?_
    refine Go_ild1 dX12_layShape_17 ?_
    refine Go_ild3 dX12_layShape_18 ?_
    refine Go_cVv2 (d' := 4) (bc' := 0) (bs' := 0) rfl dX12_layShape_19 mvX12_laySteps rfl lkX12_193 (by first | assumption | rfl) rfl trivial (by decide) (by decide) (by decide) (Nat.le_of_ble_eq_true rfl) ?_
    refine e_X12_laySteps hs hp hi (fun w2 a2 f2 => ?_)
    have q2 : LQ (pth s.1 p) i (w2 81) := by rw [f2 81 (by decide)]; exact q1
    have f3 : frm w w2 [81, 82] := f1.trans f2 (by decide)
    have cp : ∀ x : Option Vl, c1 x = true → (i = 0 ∨ lexlt (vwJ (pth s.1 p) i) (w2 81) ((pth s.1 p).length - 1)) → Go G cX12_layShape mX12_layShape none 5 0 0 81 [some (vr 68), some (vi (p : Int)), some (vi (((pth s.1 p).length - 1 : Nat) : Int)), some (vi (i : Int)), x, none, none] [] w2 K X := fun x hx q => l_X12_copy (by omega) (fun v' f4 a4 => by refine Go_inc3 dX12_layShape_122 rfl (Go_goto (tgt := 10) dX12_layShape_125 (by decide) (Go_forget (by repeat' (first | exact Or.inl rfl | exact Or.inr rfl | exact Or.inr (lcg (by omega)) | exact trivial | constructor)) (kn _ ⟨f3.trans f4 (by decide), q2.less q (fun j hj => by rw [a4 j hj]; exact a2 j hj)⟩)))) hx
    by_cases i0 : i = 0
    · subst i0
      refine Go_iconst dX12_layShape_22 ?_
      refine Go_ist4 dX12_layShape_23 rfl ?_
      refine Go_upTo (n := (pth s.1 p).length - 1) (L := fun j => [some (vr 68), some (vi (p : Int)), some (vi (((pth s.1 p).length - 1 : Nat) : Int)), some (vi ((0 : Nat) : Int)), some (vi (j : Int)), none, none]) (P := fun j v => v = w2) ((by repeat' (first | exact Or.inl rfl | exact Or.inr rfl | exact Or.inr (lcg (by omega)) | exact trivial | constructor))) rfl (fun j v hj hv kn2 => ?_) (fun v hv => ?_)
      · subst hv
        have fin : Go G cX12_layShape mX12_layShape none 5 0 0 54 [some (vr 68), some (vi (p : Int)), some (vi (((pth s.1 p).length - 1 : Nat) : Int)), some (vi ((0 : Nat) : Int)), some (vi (j : Int)), none, none] [] v K X := by
          refine Go_ild3 dX12_layShape_54 ?_
          refine Go_if_eq (tgt := 81) dX12_layShape_55 (by decide) (by constructor <;> omega) (fun h55 => ?_) (fun h55 => by omega)
          exact cp _ rfl (Or.inl rfl)
        refine Go_ild4 dX12_layShape_25 ?_
        refine Go_ild2 dX12_layShape_27 ?_
        refine Go_icmp_ge (tgt := 54) dX12_layShape_28 (by decide) (by constructor <;> omega) (by constructor <;> omega) (fun h28 => by omega) (fun h28 => ?_)
        refine Go_ald0 dX12_layShape_31 ?_
        refine gf11_18 dX12_layShape_32 flX12_49 ?_
        refine Go_ild4 dX12_layShape_35 ?_
        refine Go_iald dX12_layShape_37 (by first | assumption | rfl) trivial (by omega) (by omega) (by decide) ?_
        refine Go_ald0 dX12_layShape_38 ?_
        refine gf11_17 dX12_layShape_39 flX12_46 ?_
        refine Go_ild4 dX12_layShape_42 ?_
        refine Go_iald dX12_layShape_44 (by first | assumption | rfl) trivial (by omega) (by omega) (by decide) ?_
        refine Go_any_ne (tgt := 54) dX12_layShape_45 (by decide) ?_ ?_
        · exact fin
        · refine Go_inc4 dX12_layShape_48 rfl ?_
          refine Go_goto (tgt := 25) dX12_layShape_51 (by decide) ?_
          exact Go_forget (by repeat' (first | exact Or.inl rfl | exact Or.inr rfl | exact Or.inr (lcg (by omega)) | exact trivial | constructor)) (kn2 _ rfl)
      · subst hv
        refine Go_ild4 dX12_layShape_25 ?_
        refine Go_ild2 dX12_layShape_27 ?_
        refine Go_icmp_ge (tgt := 54) dX12_layShape_28 (by decide) (by constructor <;> omega) (by constructor <;> omega) (fun h28 => ?_) (fun h28 => by omega)
        refine Go_ild3 dX12_layShape_54 ?_
        refine Go_if_eq (tgt := 81) dX12_layShape_55 (by decide) (by constructor <;> omega) (fun h55 => ?_) (fun h55 => by omega)
        exact cp _ rfl (Or.inl rfl)
    · have gb : ∀ j, j < (pth s.1 p).length - 1 → 0 ≤ w2 81 j ∧ w2 81 j < 4 := fun j hj => by
        rcases q2 with q2 | ⟨-, u, -, e⟩
        · exact absurd q2 i0
        · rw [e j hj]; exact vwJ_in _ _ _
      have keep : ¬ lexlt (vwJ (pth s.1 p) i) (w2 81) ((pth s.1 p).length - 1) → ∀ j : Nat, Go G cX12_layShape mX12_layShape none 5 0 0 85 [some (vr 68), some (vi (p : Int)), some (vi (((pth s.1 p).length - 1 : Nat) : Int)), some (vi (i : Int)), some (vi (j : Int)), none, none] [] w2 K X := fun q j => by
        refine Go_iconst dX12_layShape_85 ?_
        refine Go_ist5 dX12_layShape_86 rfl ?_
        refine Go_iconst dX12_layShape_88 ?_
        refine Go_ist6 dX12_layShape_89 rfl ?_
        refine Go_ild6 dX12_layShape_91 ?_
        refine Go_ild2 dX12_layShape_93 ?_
        refine Go_icmp_ge (tgt := 122) dX12_layShape_94 (by decide) (by constructor <;> omega) (by constructor <;> omega) (fun h94 => ?_) (fun h94 => ?_)
        · refine Go_inc3 dX12_layShape_122 rfl ?_
          refine Go_goto (tgt := 10) dX12_layShape_125 (by decide) ?_
          refine Go_forget (by repeat' (first | exact Or.inl rfl | exact Or.inr rfl | exact Or.inr (lcg (by omega)) | exact trivial | constructor)) (kn _ ⟨f3, q2.keep i0 q⟩)
        · refine Go_ild5 dX12_layShape_97 ?_
          refine Go_if_eq (tgt := 122) dX12_layShape_99 (by decide) (by constructor <;> omega) (fun h99 => ?_) (fun h99 => by omega)
          refine Go_inc3 dX12_layShape_122 rfl ?_
          refine Go_goto (tgt := 10) dX12_layShape_125 (by decide) ?_
          refine Go_forget (by repeat' (first | exact Or.inl rfl | exact Or.inr rfl | exact Or.inr (lcg (by omega)) | exact trivial | constructor)) (kn _ ⟨f3, q2.keep i0 q⟩)
      refine Go_iconst dX12_layShape_22 ?_
      refine Go_ist4 dX12_layShape_23 rfl ?_
      refine Go_upTo (n := (pth s.1 p).length - 1) (L := fun j => [some (vr 68), some (vi (p : Int)), some (vi (((pth s.1 p).length - 1 : Nat) : Int)), some (vi (i : Int)), some (vi (j : Int)), none, none]) (P := fun j v => v = w2 ∧ ∀ e, e < j → vwJ (pth s.1 p) i e = w2 81 e) ((by repeat' (first | exact Or.inl rfl | exact Or.inr rfl | exact Or.inr (lcg (by omega)) | exact trivial | constructor))) ⟨rfl, fun e he => by omega⟩ (fun j v hj hv kn2 => ?_) (fun v hv => ?_)
      · obtain ⟨rfl, hv⟩ := hv
        have e1 := a2 j hj
        have e2 := gb j hj
        have e3 := vwJ_in (pth s.1 p) i j
        refine Go_ild4 dX12_layShape_25 ?_
        refine Go_ild2 dX12_layShape_27 ?_
        refine Go_icmp_ge (tgt := 54) dX12_layShape_28 (by decide) (by constructor <;> omega) (by constructor <;> omega) (fun h28 => by omega) (fun h28 => ?_)
        refine Go_ald0 dX12_layShape_31 ?_
        refine gf11_18 dX12_layShape_32 flX12_49 ?_
        refine Go_ild4 dX12_layShape_35 ?_
        refine Go_iald dX12_layShape_37 (by first | assumption | rfl) trivial (by omega) (by omega) (by decide) ?_
        rw [Int.toNat_natCast, e1]
        refine Go_ald0 dX12_layShape_38 ?_
        refine gf11_17 dX12_layShape_39 flX12_46 ?_
        refine Go_ild4 dX12_layShape_42 ?_
        refine Go_iald dX12_layShape_44 (by first | assumption | rfl) trivial (by omega) (by omega) (by decide) ?_
        try rw [Int.toNat_natCast]
        refine Go_icmp_ne (tgt := 54) dX12_layShape_45 (by decide) (by constructor <;> omega) (by constructor <;> omega) (fun h45 => ?_) (fun h45 => ?_)
        · refine Go_ild3 dX12_layShape_54 ?_
          refine Go_if_eq (tgt := 81) dX12_layShape_55 (by decide) (by constructor <;> omega) (fun h55 => by omega) (fun h55 => ?_)
          refine Go_ild4 dX12_layShape_58 ?_
          refine Go_ild2 dX12_layShape_60 ?_
          refine Go_icmp_ge (tgt := 85) dX12_layShape_61 (by decide) (by constructor <;> omega) (by constructor <;> omega) (fun h61 => by omega) (fun h61 => ?_)
          refine Go_ald0 dX12_layShape_64 ?_
          refine gf11_18 dX12_layShape_65 flX12_49 ?_
          refine Go_ild4 dX12_layShape_68 ?_
          refine Go_iald dX12_layShape_70 (by first | assumption | rfl) trivial (by omega) (by omega) (by decide) ?_
          rw [Int.toNat_natCast, e1]
          refine Go_ald0 dX12_layShape_71 ?_
          refine gf11_17 dX12_layShape_72 flX12_46 ?_
          refine Go_ild4 dX12_layShape_75 ?_
          refine Go_iald dX12_layShape_77 (by first | assumption | rfl) trivial (by omega) (by omega) (by decide) ?_
          try rw [Int.toNat_natCast]
          refine Go_icmp_ge (tgt := 85) dX12_layShape_78 (by decide) (by constructor <;> omega) (by constructor <;> omega) (fun h78 => ?_) (fun h78 => ?_)
          · exact keep (lexlt_first hj hv (by omega)) j
          · exact cp _ rfl (Or.inr ⟨j, hj, hv, by omega⟩)
        · refine Go_inc4 dX12_layShape_48 rfl ?_
          refine Go_goto (tgt := 25) dX12_layShape_51 (by decide) ?_
          refine Go_forget (by repeat' (first | exact Or.inl rfl | exact Or.inr rfl | exact Or.inr (lcg (by omega)) | exact trivial | constructor)) (kn2 _ ⟨rfl, fun e he => ?_⟩)
          by_cases c : e = j
          · subst c; omega
          · exact hv e (by omega)
      · obtain ⟨rfl, hv⟩ := hv
        refine Go_ild4 dX12_layShape_25 ?_
        refine Go_ild2 dX12_layShape_27 ?_
        refine Go_icmp_ge (tgt := 54) dX12_layShape_28 (by decide) (by constructor <;> omega) (by constructor <;> omega) (fun h28 => ?_) (fun h28 => by omega)
        refine Go_ild3 dX12_layShape_54 ?_
        refine Go_if_eq (tgt := 81) dX12_layShape_55 (by decide) (by constructor <;> omega) (fun h55 => by omega) (fun h55 => ?_)
        refine Go_ild4 dX12_layShape_58 ?_
        refine Go_ild2 dX12_layShape_60 ?_
        refine Go_icmp_ge (tgt := 85) dX12_layShape_61 (by decide) (by constructor <;> omega) (by constructor <;> omega) (fun h61 => ?_) (fun h61 => by omega)
        exact keep (fun ⟨m, c1, c2, c3⟩ => by have := hv m c1; omega) _
  · try dsimp only at hP
    try dsimp only
    obtain ⟨f1, q1⟩ := hP
    refine Go_ild3 dX12_layShape_10 ?_
    refine Go_bipush dX12_layShape_11 (by decide +kernel) ?_
    refine Go_icmp_ge (tgt := 128) dX12_layShape_13 (by decide) (by constructor <;> omega) (by constructor <;> omega) (fun h13 => ?_) (fun h13 => by omega)
    refine Go_return dX12_layShape_128 rfl ?_
    exact k _ (v 81) q1.least (fun _ _ => rfl) f1
theorem e_X12_shape (h : MInv w s sv g tx) (h1 : inR z1) (h2 : inR z2)
    (k : ∀ w' (p : Nat) f, z1 = p → p < s.1.length → 0 ≤ z2 → isLeast (pth s.1 p) f → MX w w' 0 s sv g tx → K (vi (if z2 < ((pth s.1 p).length - 1 : Nat) then f z2.toNat else -1)) none w')
    (x1 : ∀ w', ¬ (0 ≤ z1 ∧ z1 < s.1.length) → MX w w' 1 s sv g tx → K (vi 0) none w') (x2 : ∀ w', 0 ≤ z1 → z1 < s.1.length → z2 < 0 → MX w w' 2 s sv g tx → K (vi 0) none w') : Ev G yX12_shape cX12_shape 3 mX12_shape none 6 0 0 [vr 68, vi z1, vi z2] w K X := by
  have hm := thr0.MInv h
  obtain ⟨b1, b2⟩ := id h2
  refine Ev_intro mvX12_shape.1 rfl (fun h => by cases h) (allc1 rfl) (Nat.le_of_ble_eq_true rfl) (Or.inl rfl) ?_
  show Go G cX12_shape mX12_shape none 6 0 0 0 [some (vr 68), some (vi z1), some (vi z2)] [] w K X
  refine Go_ald0 dX12_shape_0 ?_
  refine Go_iconst dX12_shape_1 ?_
  refine pf11_0 dX12_shape_2 flX12_59 (by first | assumption | rfl) ?_
  refine Go_ald0 dX12_shape_5 ?_
  refine Go_ild1 dX12_shape_6 ?_
  refine Go_cV1 (d' := 1) (bc' := 0) (bs' := 0) rfl dX12_shape_7 mvX12_isPath rfl lkX12_66 (by first | assumption | rfl) rfl trivial (by decide) (by decide) (by decide) (Nat.le_of_ble_eq_true rfl) ?_
  refine e_X12_isPath hm.1 h1 ?_
  refine Go_ifb_ne (tgt := 19) dX12_shape_10 (by decide)  (fun h10 => ?_) (fun h10 => ?_)
  · refine Go_ild2 dX12_shape_19 ?_
    refine Go_if_ge (tgt := 29) dX12_shape_20 (by decide) (by constructor <;> omega) (fun h20 => ?_) (fun h20 => ?_)
    · obtain ⟨p, rfl⟩ := Int.eq_ofNat_of_zero_le h10.1
      have hp : p < s.1.length := by omega
      have hl := h.1.1.len hp
      refine Go_ald0 dX12_shape_29 ?_
      refine Go_ild1 dX12_shape_30 ?_
      refine Go_cVv1 (d' := 5) (bc' := 0) (bs' := 0) rfl dX12_shape_31 mvX12_layShape rfl lkX12_197 (by first | assumption | rfl) rfl trivial (by decide) (by decide) (by decide) (Nat.le_of_ble_eq_true rfl) ?_
      refine e_X12_layShape hm.1 hp (fun w1 f lf a1 f1 => ?_)
      have o1 := mfr.of f1 (by decide)
      have hm1 := o1.MInv hm
      have mx := MX_q h (thr0.trans o1) (by rw [f1.at (by decide), up_s])
      refine Go_ild2 dX12_shape_34 ?_
      refine Go_ald0 dX12_shape_35 ?_
      refine Go_ild1 dX12_shape_36 ?_
      refine Go_cV1 (d' := 0) (bc' := 0) (bs' := 0) rfl dX12_shape_37 mvX12_lengthOf rfl lkX12_70 (by first | assumption | rfl) rfl trivial (by decide) (by decide) (by decide) (Nat.le_of_ble_eq_true rfl) ?_
      refine e_X12_lengthOf hm1.1 hp ?_
      refine Go_iconst dX12_shape_40 ?_
      refine Go_isub dX12_shape_41 ?_
      refine Go_icmp_ge (tgt := 54) dX12_shape_42 (by decide) (by constructor <;> omega) (by constructor <;> omega) (fun h42 => ?_) (fun h42 => ?_)
      · refine Go_iconst dX12_shape_54 ?_
        refine Go_ireturn dX12_shape_55 rfl (by first | rfl | decide | exact nar_b | simp [narrow]) ?_
        refine kI ?_ (k _ p f rfl hp (by omega) lf mx)
        first | (rw [if_neg (by omega)]; done) | (rw [if_pos (by omega)]; exact a1 _ (by omega))
      · refine Go_ald0 dX12_shape_45 ?_
        refine gf11_17 dX12_shape_46 flX12_46 ?_
        refine Go_ild2 dX12_shape_49 ?_
        refine Go_iald dX12_shape_50 (by first | assumption | rfl) trivial (by omega) (by omega) (by decide) ?_
        refine Go_goto (tgt := 55) dX12_shape_51 (by decide) ?_
        refine Go_ireturn dX12_shape_55 rfl (by first | rfl | decide | exact nar_b | simp [narrow]) ?_
        refine kI ?_ (k _ p f rfl hp (by omega) lf mx)
        first | (rw [if_neg (by omega)]; done) | (rw [if_pos (by omega)]; exact a1 _ (by omega))
    · refine Go_ald0 dX12_shape_23 ?_
      refine Go_iconst dX12_shape_24 ?_
      refine Go_cV1 (d' := 0) (bc' := 0) (bs' := 0) rfl dX12_shape_25 mvX12_fails rfl lkX12_78 (by first | assumption | rfl) rfl trivial (by decide) (by decide) (by decide) (Nat.le_of_ble_eq_true rfl) ?_
      refine e_X12_fails ?_
      refine Go_ireturn dX12_shape_28 rfl (by first | rfl | decide | exact nar_b | simp [narrow]) ?_
      exact x2 _ h10.1 h10.2 (by omega) (MX_fail h)
  · refine Go_ald0 dX12_shape_13 ?_
    refine Go_iconst dX12_shape_14 ?_
    refine Go_cV1 (d' := 0) (bc' := 0) (bs' := 0) rfl dX12_shape_15 mvX12_fails rfl lkX12_78 (by first | assumption | rfl) rfl trivial (by decide) (by decide) (by decide) (Nat.le_of_ble_eq_true rfl) ?_
    refine e_X12_fails ?_
    refine Go_ireturn dX12_shape_18 rfl (by first | rfl | decide | exact nar_b | simp [narrow]) ?_
    exact x1 _ h10 (MX_fail h)
theorem e_X12_hasShapeOf (h : ST w 69 0 s) (hp : p < s.1.length) (ho : o < s.1.length)
    (kt : ∀ w' f f', isLeast (pth s.1 p) f → isLeast (pth s.1 o) f' → (pth s.1 p).length - 1 = (pth s.1 o).length - 1 ∧ (∀ j, j < (pth s.1 p).length - 1 → f j = f' j) → frm w w' [81, 82, 83] → K (vi 1) none w')
    (kf : ∀ w' f f', isLeast (pth s.1 p) f → isLeast (pth s.1 o) f' → ¬ ((pth s.1 p).length - 1 = (pth s.1 o).length - 1 ∧ ∀ j, j < (pth s.1 p).length - 1 → f j = f' j) → frm w w' [81, 82, 83] → K (vi 0) none w') : Ev G yX12_hasShapeOf cX12_hasShapeOf 6 mX12_hasShapeOf none 6 0 0 [vr 68, vi (p : Int), vi (o : Int)] w K X := by
  have hl := h.1.len hp
  have hl2 := h.1.len ho
  refine Ev_intro mvX12_hasShapeOf.1 rfl (fun h => by cases h) (allc1 rfl) (Nat.le_of_ble_eq_true rfl) (Or.inl rfl) ?_
  show Go G cX12_hasShapeOf mX12_hasShapeOf none 6 0 0 0 [some (vr 68), some (vi (p : Int)), some (vi (o : Int)), none, none, none] [] w K X
  refine Go_ald0 dX12_hasShapeOf_0 ?_
  refine Go_ild1 dX12_hasShapeOf_1 ?_
  refine Go_cV1 (d' := 0) (bc' := 0) (bs' := 0) rfl dX12_hasShapeOf_2 mvX12_lengthOf rfl lkX12_70 (by first | assumption | rfl) rfl trivial (by decide) (by decide) (by decide) (Nat.le_of_ble_eq_true rfl) ?_
  refine e_X12_lengthOf h hp ?_
  refine Go_iconst dX12_hasShapeOf_5 ?_
  refine Go_isub dX12_hasShapeOf_6 ?_
  rw [show ((pth s.1 p).length : Int) - 1 = (((pth s.1 p).length - 1 : Nat) : Int) by omega]
  refine Go_ist3 dX12_hasShapeOf_7 rfl ?_
  refine Go_ald0 dX12_hasShapeOf_8 ?_
  refine Go_ild1 dX12_hasShapeOf_9 ?_
  refine Go_cVv1 (d' := 5) (bc' := 0) (bs' := 0) rfl dX12_hasShapeOf_10 mvX12_layShape rfl lkX12_197 (by first | assumption | rfl) rfl trivial (by decide) (by decide) (by decide) (Nat.le_of_ble_eq_true rfl) ?_
  refine e_X12_layShape h hp (fun w1 f lf a1 f1 => ?_)
  refine Go_iconst dX12_hasShapeOf_13 ?_
  refine Go_ist4 dX12_hasShapeOf_14 rfl ?_
  refine Go_upTo (n := (pth s.1 p).length - 1) (L := fun i => [some (vr 68), some (vi (p : Int)), some (vi (o : Int)), some (vi (((pth s.1 p).length - 1 : Nat) : Int)), some (vi (i : Int)), none]) (P := fun i v => frm w1 v [83] ∧ ∀ j, j < i → v 83 j = f j) (by repeat' (first | exact Or.inl rfl | exact Or.inr rfl | exact Or.inr (lcg (by omega)) | exact trivial | constructor)) (⟨frm.rfl, fun j hj => by omega⟩) (fun i v hi hP kn => ?_) (fun v hP => ?_)
  · try dsimp only at hP kn
    try dsimp only
    obtain ⟨f2, a2⟩ := hP
    refine Go_ild4 dX12_hasShapeOf_16 ?_
    refine Go_ild3 dX12_hasShapeOf_18 ?_
    refine Go_icmp_ge (tgt := 42) dX12_hasShapeOf_19 (by decide) (by constructor <;> omega) (by constructor <;> omega) (fun h19 => by omega) (fun h19 => ?_)
    refine Go_ald0 dX12_hasShapeOf_22 ?_
    refine gf11_19 dX12_hasShapeOf_23 flX12_52 ?_
    refine Go_ild4 dX12_hasShapeOf_26 ?_
    refine Go_ald0 dX12_hasShapeOf_28 ?_
    refine gf11_17 dX12_hasShapeOf_29 flX12_46 ?_
    refine Go_ild4 dX12_hasShapeOf_32 ?_
    refine Go_iald dX12_hasShapeOf_34 (by first | assumption | rfl) trivial (by omega) (by omega) (by decide) ?_
    refine Go_iast dX12_hasShapeOf_35 (by first | assumption | rfl) trivial (by omega) (by omega) (by decide) ?_
    refine Go_inc4 dX12_hasShapeOf_36 rfl ?_
    refine Go_goto (tgt := 16) dX12_hasShapeOf_39 (by decide) ?_
    rw [Int.toNat_natCast, f2.at (by decide), a1 i hi]
    refine Go_forget (by repeat' (first | exact Or.inl rfl | exact Or.inr rfl | exact Or.inr (lcg (by omega)) | exact trivial | constructor)) (kn _ ⟨f2.up (by simp), fun j hj => ?_⟩)
    by_cases c : j = i
    · subst c; rw [up_s]
    · rw [up_k c]; exact a2 j (by omega)
  · try dsimp only at hP
    try dsimp only
    obtain ⟨f2, a2⟩ := hP
    have f9 : frm w v [81, 82, 83] := (f1.mono (by decide)).trans f2 (by decide)
    have hs := h.frm f9 (by decide)
    refine Go_ild4 dX12_hasShapeOf_16 ?_
    refine Go_ild3 dX12_hasShapeOf_18 ?_
    refine Go_icmp_ge (tgt := 42) dX12_hasShapeOf_19 (by decide) (by constructor <;> omega) (by constructor <;> omega) (fun h19 => ?_) (fun h19 => by omega)
    refine Go_ald0 dX12_hasShapeOf_42 ?_
    refine Go_ild2 dX12_hasShapeOf_43 ?_
    refine Go_cVv1 (d' := 5) (bc' := 0) (bs' := 0) rfl dX12_hasShapeOf_44 mvX12_layShape rfl lkX12_197 (by first | assumption | rfl) rfl trivial (by decide) (by decide) (by decide) (Nat.le_of_ble_eq_true rfl) ?_
    refine e_X12_layShape hs ho (fun w3 f' lf' a3 f3 => ?_)
    have f8 : frm w w3 [81, 82, 83] := f9.trans f3 (by decide)
    have hs3 := h.frm f8 (by decide)
    have e83 : ∀ j, j < (pth s.1 p).length - 1 → w3 83 j = f j := fun j hj => by rw [f3.at (by decide)]; exact a2 j hj
    by_cases q : (pth s.1 p).length - 1 = (pth s.1 o).length - 1
    · have fr : ∀ (u : List Nat) (y : Nat → Int), isLeast u y → ∀ j, j < u.length - 1 → 0 ≤ y j ∧ y j < 4 := fun u y hy j hj => by
        obtain ⟨-, v, -, e⟩ := hy
        rw [e j hj]; exact vwJ_in _ _ _
      have no : ∀ (i : Nat), i < (pth s.1 p).length - 1 → f i ≠ f' i → ∀ j : Nat, j ≤ (pth s.1 p).length - 1 → Go G cX12_hasShapeOf mX12_hasShapeOf none 6 0 0 68 [some (vr 68), some (vi (p : Int)), some (vi (o : Int)), some (vi (((pth s.1 p).length - 1 : Nat) : Int)), some (vi 0), some (vi (j : Int))] [] w3 K X := fun i hi hne j hj => by
        by_cases cj : j < (pth s.1 p).length - 1
        · skip
          refine Go_ild5 dX12_hasShapeOf_68 ?_
          refine Go_ild3 dX12_hasShapeOf_70 ?_
          refine Go_icmp_ge (tgt := 109) dX12_hasShapeOf_71 (by decide) (by constructor <;> omega) (by constructor <;> omega) (fun h71 => by omega) (fun h71 => ?_)
          refine Go_ild4 dX12_hasShapeOf_74 ?_
          refine Go_if_eq (tgt := 109) dX12_hasShapeOf_76 (by decide) (by constructor <;> omega) (fun h76 => ?_) (fun h76 => by omega)
          refine Go_ild4 dX12_hasShapeOf_109 ?_
          refine Go_ireturn dX12_hasShapeOf_111 rfl (by first | rfl | decide | exact nar_b | simp [narrow]) ?_
          exact kf _ f f' lf lf' (fun z => hne (z.2 i hi)) f8
        · skip
          refine Go_ild5 dX12_hasShapeOf_68 ?_
          refine Go_ild3 dX12_hasShapeOf_70 ?_
          refine Go_icmp_ge (tgt := 109) dX12_hasShapeOf_71 (by decide) (by constructor <;> omega) (by constructor <;> omega) (fun h71 => ?_) (fun h71 => by omega)
          refine Go_ild4 dX12_hasShapeOf_109 ?_
          refine Go_ireturn dX12_hasShapeOf_111 rfl (by first | rfl | decide | exact nar_b | simp [narrow]) ?_
          exact kf _ f f' lf lf' (fun z => hne (z.2 i hi)) f8
      refine Go_ild3 dX12_hasShapeOf_47 ?_
      refine Go_ald0 dX12_hasShapeOf_48 ?_
      refine Go_ild2 dX12_hasShapeOf_49 ?_
      refine Go_cV1 (d' := 0) (bc' := 0) (bs' := 0) rfl dX12_hasShapeOf_50 mvX12_lengthOf rfl lkX12_70 (by first | assumption | rfl) rfl trivial (by decide) (by decide) (by decide) (Nat.le_of_ble_eq_true rfl) ?_
      refine e_X12_lengthOf hs3 ho ?_
      refine Go_iconst dX12_hasShapeOf_53 ?_
      refine Go_isub dX12_hasShapeOf_54 ?_
      refine Go_icmp_ne (tgt := 62) dX12_hasShapeOf_55 (by decide) (by constructor <;> omega) (by constructor <;> omega) (fun h55 => by omega) (fun h55 => ?_)
      refine Go_iconst dX12_hasShapeOf_58 ?_
      refine Go_goto (tgt := 63) dX12_hasShapeOf_59 (by decide) ?_
      refine Go_ist4 dX12_hasShapeOf_63 rfl ?_
      refine Go_iconst dX12_hasShapeOf_65 ?_
      refine Go_ist5 dX12_hasShapeOf_66 rfl ?_
      refine Go_upTo (n := (pth s.1 p).length - 1) (L := fun i => [some (vr 68), some (vi (p : Int)), some (vi (o : Int)), some (vi (((pth s.1 p).length - 1 : Nat) : Int)), some (vi 1), some (vi (i : Int))]) (P := fun i v => v = w3 ∧ ∀ j, j < i → f j = f' j) (by repeat' (first | exact Or.inl rfl | exact Or.inr rfl | exact Or.inr (lcg (by omega)) | exact trivial | constructor)) (⟨rfl, fun j hj => by omega⟩) (fun i v hi hP kn => ?_) (fun v hP => ?_)
      · try dsimp only at hP kn
        try dsimp only
        obtain ⟨rfl, hP⟩ := hP
        have e1 := e83 i hi
        have e2 := a3 i (by omega)
        have r1 := fr _ _ lf i hi
        have r2 := fr _ _ lf' i (by omega)
        refine Go_ild5 dX12_hasShapeOf_68 ?_
        refine Go_ild3 dX12_hasShapeOf_70 ?_
        refine Go_icmp_ge (tgt := 109) dX12_hasShapeOf_71 (by decide) (by constructor <;> omega) (by constructor <;> omega) (fun h71 => by omega) (fun h71 => ?_)
        refine Go_ild4 dX12_hasShapeOf_74 ?_
        refine Go_if_eq (tgt := 109) dX12_hasShapeOf_76 (by decide) (by constructor <;> omega) (fun h76 => by omega) (fun h76 => ?_)
        refine Go_ald0 dX12_hasShapeOf_79 ?_
        refine gf11_19 dX12_hasShapeOf_80 flX12_52 ?_
        refine Go_ild5 dX12_hasShapeOf_83 ?_
        refine Go_iald dX12_hasShapeOf_85 (by first | assumption | rfl) trivial (by omega) (by omega) (by decide) ?_
        rw [Int.toNat_natCast, e1]
        refine Go_ald0 dX12_hasShapeOf_86 ?_
        refine gf11_17 dX12_hasShapeOf_87 flX12_46 ?_
        refine Go_ild5 dX12_hasShapeOf_90 ?_
        refine Go_iald dX12_hasShapeOf_92 (by first | assumption | rfl) trivial (by omega) (by omega) (by decide) ?_
        rw [Int.toNat_natCast, e2]
        refine Go_icmp_ne (tgt := 100) dX12_hasShapeOf_93 (by decide) (by constructor <;> omega) (by constructor <;> omega) (fun h93 => ?_) (fun h93 => ?_)
        · refine Go_iconst dX12_hasShapeOf_100 ?_
          refine Go_ist4 dX12_hasShapeOf_101 rfl ?_
          refine Go_inc5 dX12_hasShapeOf_103 rfl ?_
          refine Go_goto (tgt := 68) dX12_hasShapeOf_106 (by decide) ?_
          first | (refine Go_forget (by repeat' (first | exact Or.inl rfl | exact Or.inr rfl | exact Or.inr (lcg (by omega)) | exact trivial | constructor)) (kn _ ⟨rfl, fun j hj => ?_⟩); by_cases c : j = i; (subst c; exact h93); exact hP j (by omega)) | exact no i hi h93 (i + 1) (by omega)
        · refine Go_iconst dX12_hasShapeOf_96 ?_
          refine Go_goto (tgt := 101) dX12_hasShapeOf_97 (by decide) ?_
          refine Go_ist4 dX12_hasShapeOf_101 rfl ?_
          refine Go_inc5 dX12_hasShapeOf_103 rfl ?_
          refine Go_goto (tgt := 68) dX12_hasShapeOf_106 (by decide) ?_
          first | (refine Go_forget (by repeat' (first | exact Or.inl rfl | exact Or.inr rfl | exact Or.inr (lcg (by omega)) | exact trivial | constructor)) (kn _ ⟨rfl, fun j hj => ?_⟩); by_cases c : j = i; (subst c; exact h93); exact hP j (by omega)) | exact no i hi h93 (i + 1) (by omega)
      · try dsimp only at hP
        try dsimp only
        obtain ⟨rfl, hP⟩ := hP
        refine Go_ild5 dX12_hasShapeOf_68 ?_
        refine Go_ild3 dX12_hasShapeOf_70 ?_
        refine Go_icmp_ge (tgt := 109) dX12_hasShapeOf_71 (by decide) (by constructor <;> omega) (by constructor <;> omega) (fun h71 => ?_) (fun h71 => by omega)
        refine Go_ild4 dX12_hasShapeOf_109 ?_
        refine Go_ireturn dX12_hasShapeOf_111 rfl (by first | rfl | decide | exact nar_b | simp [narrow]) ?_
        exact kt _ f f' lf lf' ⟨q, hP⟩ f8
    · skip
      refine Go_ild3 dX12_hasShapeOf_47 ?_
      refine Go_ald0 dX12_hasShapeOf_48 ?_
      refine Go_ild2 dX12_hasShapeOf_49 ?_
      refine Go_cV1 (d' := 0) (bc' := 0) (bs' := 0) rfl dX12_hasShapeOf_50 mvX12_lengthOf rfl lkX12_70 (by first | assumption | rfl) rfl trivial (by decide) (by decide) (by decide) (Nat.le_of_ble_eq_true rfl) ?_
      refine e_X12_lengthOf hs3 ho ?_
      refine Go_iconst dX12_hasShapeOf_53 ?_
      refine Go_isub dX12_hasShapeOf_54 ?_
      refine Go_icmp_ne (tgt := 62) dX12_hasShapeOf_55 (by decide) (by constructor <;> omega) (by constructor <;> omega) (fun h55 => ?_) (fun h55 => by omega)
      refine Go_iconst dX12_hasShapeOf_62 ?_
      refine Go_ist4 dX12_hasShapeOf_63 rfl ?_
      refine Go_iconst dX12_hasShapeOf_65 ?_
      refine Go_ist5 dX12_hasShapeOf_66 rfl ?_
      refine Go_ild5 dX12_hasShapeOf_68 ?_
      refine Go_ild3 dX12_hasShapeOf_70 ?_
      refine Go_icmp_ge (tgt := 109) dX12_hasShapeOf_71 (by decide) (by constructor <;> omega) (by constructor <;> omega) (fun h71 => ?_) (fun h71 => ?_)
      · refine Go_ild4 dX12_hasShapeOf_109 ?_
        refine Go_ireturn dX12_hasShapeOf_111 rfl (by first | rfl | decide | exact nar_b | simp [narrow]) ?_
        exact kf _ f f' lf lf' (fun z => q z.1) f8
      · refine Go_ild4 dX12_hasShapeOf_74 ?_
        refine Go_if_eq (tgt := 109) dX12_hasShapeOf_76 (by decide) (by constructor <;> omega) (fun h76 => ?_) (fun h76 => by omega)
        refine Go_ild4 dX12_hasShapeOf_109 ?_
        refine Go_ireturn dX12_hasShapeOf_111 rfl (by first | rfl | decide | exact nar_b | simp [narrow]) ?_
        exact kf _ f f' lf lf' (fun z => q z.1) f8
theorem e_X12_isAlike (h : MInv w s sv g tx) (h1 : inR z1) (h2 : inR z2)
    (kt : ∀ w' (p o : Nat) f f', z1 = p → p < s.1.length → z2 = o → o < s.1.length → isLeast (pth s.1 p) f → isLeast (pth s.1 o) f' → (pth s.1 p).length - 1 = (pth s.1 o).length - 1 ∧ (∀ j, j < (pth s.1 p).length - 1 → f j = f' j) → MX w w' 0 s sv g tx → K (vi 1) none w')
    (kf : ∀ w' (p o : Nat) f f', z1 = p → p < s.1.length → z2 = o → o < s.1.length → isLeast (pth s.1 p) f → isLeast (pth s.1 o) f' → ¬ ((pth s.1 p).length - 1 = (pth s.1 o).length - 1 ∧ ∀ j, j < (pth s.1 p).length - 1 → f j = f' j) → MX w w' 0 s sv g tx → K (vi 0) none w')
    (x1 : ∀ w', ¬ (0 ≤ z1 ∧ z1 < s.1.length ∧ 0 ≤ z2 ∧ z2 < s.1.length) → MX w w' 1 s sv g tx → K (vi 0) none w') : Ev G yX12_isAlike cX12_isAlike 3 mX12_isAlike none 7 0 0 [vr 68, vi z1, vi z2] w K X := by
  have hm := thr0.MInv h
  refine Ev_intro mvX12_isAlike.1 rfl (fun h => by cases h) (allc1 rfl) (Nat.le_of_ble_eq_true rfl) (Or.inl rfl) ?_
  show Go G cX12_isAlike mX12_isAlike none 7 0 0 0 [some (vr 68), some (vi z1), some (vi z2)] [] w K X
  by_cases c : 0 ≤ z1 ∧ z1 < s.1.length ∧ 0 ≤ z2 ∧ z2 < s.1.length
  case neg =>
    refine Go_ald0 dX12_isAlike_0 ?_
    refine Go_iconst dX12_isAlike_1 ?_
    refine pf11_0 dX12_isAlike_2 flX12_59 (by first | assumption | rfl) ?_
    refine Go_ald0 dX12_isAlike_5 ?_
    refine Go_ild1 dX12_isAlike_6 ?_
    refine Go_cV1 (d' := 1) (bc' := 0) (bs' := 0) rfl dX12_isAlike_7 mvX12_isPath rfl lkX12_66 (by first | assumption | rfl) rfl trivial (by decide) (by decide) (by decide) (Nat.le_of_ble_eq_true rfl) ?_
    refine e_X12_isPath hm.1 h1 ?_
    refine Go_ifb_eq (tgt := 21) dX12_isAlike_10 (by decide)  (fun h10 => ?_) (fun h10 => ?_)
    · refine Go_ald0 dX12_isAlike_21 ?_
      refine Go_iconst dX12_isAlike_22 ?_
      refine pf11_0 dX12_isAlike_23 flX12_59 (by first | assumption | rfl) ?_
      refine Go_iconst dX12_isAlike_26 ?_
      refine Go_ireturn dX12_isAlike_27 rfl (by first | rfl | decide | exact nar_b | simp [narrow]) ?_
      exact x1 _ c (MX_fail h)
    · refine Go_ald0 dX12_isAlike_13 ?_
      refine Go_ild2 dX12_isAlike_14 ?_
      refine Go_cV1 (d' := 1) (bc' := 0) (bs' := 0) rfl dX12_isAlike_15 mvX12_isPath rfl lkX12_66 (by first | assumption | rfl) rfl trivial (by decide) (by decide) (by decide) (Nat.le_of_ble_eq_true rfl) ?_
      refine e_X12_isPath hm.1 h2 ?_
      refine Go_ifb_ne (tgt := 28) dX12_isAlike_18 (by decide)  (fun h18 => by exact absurd ⟨by omega, by omega, by omega, by omega⟩ c) (fun h18 => ?_)
      refine Go_ald0 dX12_isAlike_21 ?_
      refine Go_iconst dX12_isAlike_22 ?_
      refine pf11_0 dX12_isAlike_23 flX12_59 (by first | assumption | rfl) ?_
      refine Go_iconst dX12_isAlike_26 ?_
      refine Go_ireturn dX12_isAlike_27 rfl (by first | rfl | decide | exact nar_b | simp [narrow]) ?_
      exact x1 _ c (MX_fail h)
  obtain ⟨p, rfl⟩ := Int.eq_ofNat_of_zero_le c.1
  obtain ⟨o, rfl⟩ := Int.eq_ofNat_of_zero_le c.2.2.1
  have hp : p < s.1.length := by omega
  have ho : o < s.1.length := by omega
  have fin : ∀ w', frm (up w 68 0 0) w' [81, 82, 83] → MX w w' 0 s sv g tx := fun w' f => MX_q h (thr0.trans (mfr.of f (by decide))) (by rw [f.at (by decide), up_s])
  refine Go_ald0 dX12_isAlike_0 ?_
  refine Go_iconst dX12_isAlike_1 ?_
  refine pf11_0 dX12_isAlike_2 flX12_59 (by first | assumption | rfl) ?_
  refine Go_ald0 dX12_isAlike_5 ?_
  refine Go_ild1 dX12_isAlike_6 ?_
  refine Go_cV1 (d' := 1) (bc' := 0) (bs' := 0) rfl dX12_isAlike_7 mvX12_isPath rfl lkX12_66 (by first | assumption | rfl) rfl trivial (by decide) (by decide) (by decide) (Nat.le_of_ble_eq_true rfl) ?_
  refine e_X12_isPath hm.1 h1 ?_
  refine Go_ifb_eq (tgt := 21) dX12_isAlike_10 (by decide)  (fun h10 => by exact absurd ⟨c.1, c.2.1⟩ h10) (fun h10 => ?_)
  refine Go_ald0 dX12_isAlike_13 ?_
  refine Go_ild2 dX12_isAlike_14 ?_
  refine Go_cV1 (d' := 1) (bc' := 0) (bs' := 0) rfl dX12_isAlike_15 mvX12_isPath rfl lkX12_66 (by first | assumption | rfl) rfl trivial (by decide) (by decide) (by decide) (Nat.le_of_ble_eq_true rfl) ?_
  refine e_X12_isPath hm.1 h2 ?_
  refine Go_ifb_ne (tgt := 28) dX12_isAlike_18 (by decide)  (fun h18 => ?_) (fun h18 => by exact absurd ⟨c.2.2.1, c.2.2.2⟩ h18)
  refine Go_ald0 dX12_isAlike_28 ?_
  refine Go_ild1 dX12_isAlike_29 ?_
  refine Go_ild2 dX12_isAlike_30 ?_
  refine Go_cV2 (d' := 6) (bc' := 0) (bs' := 0) rfl dX12_isAlike_31 mvX12_hasShapeOf rfl lkX12_200 (by first | assumption | rfl) rfl trivial (by decide) (by decide) (by decide) (Nat.le_of_ble_eq_true rfl) ?_
  refine e_X12_hasShapeOf hm.1 hp ho (fun w' f f' a b e fr => ?_) (fun w' f f' a b e fr => ?_)
  · exact Go_ireturn dX12_isAlike_34 rfl rfl (kt w' p o f f' rfl hp rfl ho a b e (fin w' fr))
  · exact Go_ireturn dX12_isAlike_34 rfl rfl (kf w' p o f f' rfl hp rfl ho a b e (fin w' fr))
end Model8
