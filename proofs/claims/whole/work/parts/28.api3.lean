section Api3
variable {G : Gm} {w : Wd} {K : Kt} {X : Xt} {s : Sta} {sv : List Sta} {g : Nat → Option Sta} {tx : List Nat} {z z1 z2 z3 : Int}
theorem e_X11_site (h : CI w s sv g tx) (h1 : inR z1) (h2 : inR z2) (h3 : inR z3)
    (k : ∀ x : Nat, numI z1 z2 = x → x < 100 → 0 ≤ z3 → z3 ≤ 2 → K (vi (if z3 = 0 then ow s.1 x else if z3 = 1 then plc s.1 x else (frD s.1 x : Int))) none w)
    (x1 : numI z1 z2 = -1 → X 1 none w) (x3 : numI z1 z2 ≠ -1 → ¬ (0 ≤ z3 ∧ z3 ≤ 2) → X 3 none w) : Ev G yX11_site cX11_site 5 mX11_site none 7 2 12 [vr 1, vi z1, vi z2, vi z3] w K X := by
  have h5 : s.1.length ≤ 5 := h.2.1.1
  refine Ev_intro mvX11_site.1 rfl (fun h => by cases h) (allc1 rfl) (Nat.le_of_ble_eq_true rfl) (Or.inl rfl) ?_
  show Go G cX11_site mX11_site none 7 2 12 0 [some (vr 1), some (vi z1), some (vi z2), some (vi z3), none] [] w K X
  refine Go_ild1 dX11_site_0 ?_
  refine Go_ild2 dX11_site_1 ?_
  refine Go_cS2 (d' := 6) (bc' := 1) (bs' := 6) rfl dX11_site_2 msX11_checkedSite rfl lkX11_75 (by decide) (by decide) (by decide) (Nat.le_of_ble_eq_true rfl) ?_
  refine e_X11_checkedSite h1 h2 (fun x ex hx => ?_) x1
  refine Go_ist4 dX11_site_5 rfl ?_
  refine Go_ild3 dX11_site_7 ?_
  refine Go_iconst dX11_site_8 ?_
  refine Go_iconst dX11_site_9 ?_
  refine Go_cSv3 (d' := 6) (bc' := 1) (bs' := 6) rfl dX11_site_10 msX11_checkRange rfl lkX11_186 (by decide) (by decide) (by decide) (Nat.le_of_ble_eq_true rfl) ?_
  refine e_X11_checkRange h3 (by constructor <;> omega) (by constructor <;> omega) (fun q1 q2 => ?_) (x3 (by omega))
  have c : z3 = 0 ∨ z3 = 1 ∨ z3 = 2 := by omega
  have k := k x ex hx q1 q2
  rcases c with rfl | rfl | rfl
  · skip
    refine Go_ild3 dX11_site_13 ?_
    refine Go_lks (z := 0) (off := 26) (tgt := 40) dX11_site_14 ⟨by decide, by decide⟩ (by decide) (by decide) (by decide) ?_
    refine Go_ald0 dX11_site_40 ?_
    refine gf10_0 dX11_site_41 flX11_12 ?_
    refine Go_ild4 dX11_site_44 ?_
    refine Go_cV1 (d' := 1) (bc' := 0) (bs' := 0) rfl dX11_site_46 mvX0_pathAt rfl lkX11_242 (by first | assumption | rfl) rfl trivial (by decide) (by decide) (by decide) (Nat.le_of_ble_eq_true rfl) ?_
    refine e_X0_pathAt h.1.1.2.1 (by constructor <;> omega) ?_
    refine Go_ireturn dX11_site_49 rfl (by first | rfl | decide | simp [narrow]) ?_
    refine kI ?_ k
    unfold owI; rw [if_pos (by omega), if_pos rfl, Int.toNat_natCast]
  · skip
    refine Go_ild3 dX11_site_13 ?_
    refine Go_lks (z := 1) (off := 36) (tgt := 50) dX11_site_14 ⟨by decide, by decide⟩ (by decide) (by decide) (by decide) ?_
    refine Go_ald0 dX11_site_50 ?_
    refine gf10_0 dX11_site_51 flX11_12 ?_
    refine Go_ild4 dX11_site_54 ?_
    refine Go_cV1 (d' := 1) (bc' := 0) (bs' := 0) rfl dX11_site_56 mvX0_placeAt rfl lkX11_245 (by first | assumption | rfl) rfl trivial (by decide) (by decide) (by decide) (Nat.le_of_ble_eq_true rfl) ?_
    refine e_X0_placeAt h.1.1.2.1 (by constructor <;> omega) ?_
    refine Go_ireturn dX11_site_59 rfl (by first | rfl | decide | simp [narrow]) ?_
    refine kI ?_ k
    unfold plI; rw [if_pos (by omega), if_neg (by decide), if_pos rfl, Int.toNat_natCast]
  · skip
    refine Go_ild3 dX11_site_13 ?_
    refine Go_lks (z := 2) (off := 46) (tgt := 60) dX11_site_14 ⟨by decide, by decide⟩ (by decide) (by decide) (by decide) ?_
    refine Go_ald0 dX11_site_60 ?_
    refine gf10_0 dX11_site_61 flX11_12 ?_
    refine Go_ild4 dX11_site_64 ?_
    refine Go_cV1 (d' := 2) (bc' := 0) (bs' := 0) rfl dX11_site_66 mvX0_freeDirections rfl lkX11_248 (by first | assumption | rfl) rfl trivial (by decide) (by decide) (by decide) (Nat.le_of_ble_eq_true rfl) ?_
    refine e_X0_freeDirections h.1.1.2.1 h5 hx ?_
    refine Go_ireturn dX11_site_69 rfl (by first | rfl | decide | simp [narrow]) ?_
    refine kI ?_ k
    rw [if_neg (by decide), if_neg (by decide)]
theorem e_X11_place (h : CI w s sv g tx) (h1 : inR z1) (h2 : inR z2)
    (k : ∀ p : Nat, z1 = p → p < s.1.length → K (vi (atI (pth s.1 p) z2)) none w)
    (x1 : ¬ (0 ≤ z1 ∧ z1 < s.1.length) → X 1 none w) : Ev G yX11_place cX11_place 3 mX11_place none 7 1 6 [vr 1, vi z1, vi z2] w K X := by
  have h5 : s.1.length ≤ 5 := h.2.1.1
  refine Ev_intro mvX11_place.1 rfl (fun h => by cases h) (allc1 rfl) (Nat.le_of_ble_eq_true rfl) (Or.inl rfl) ?_
  show Go G cX11_place mX11_place none 7 1 6 0 [some (vr 1), some (vi z1), some (vi z2)] [] w K X
  refine Go_ald0 dX11_place_0 ?_
  refine Go_ild1 dX11_place_1 ?_
  refine Go_cVv1 (d' := 6) (bc' := 1) (bs' := 6) rfl dX11_place_2 mvX11_checkPath rfl lkX11_106 (by first | assumption | rfl) rfl trivial (by decide) (by decide) (by decide) (Nat.le_of_ble_eq_true rfl) ?_
  refine e_X11_checkPath h.1.1.1 h1 (fun p e hp => ?_) x1
  subst e
  have h3 := h.1.1.1.2.2.1 p (by omega)
  have hts1 := (bts_sh h3.1).1
  refine Go_ald0 dX11_place_5 ?_
  refine gf10_0 dX11_place_6 flX11_12 ?_
  refine Go_ild1 dX11_place_9 ?_
  refine Go_cV1 (d' := 0) (bc' := 0) (bs' := 0) rfl dX11_place_10 mvX0_trail rfl lkX11_115 (by first | assumption | rfl) rfl trivial (by decide) (by decide) (by decide) (Nat.le_of_ble_eq_true rfl) ?_
  refine e_X0_trail h.1.1.1 (by omega) ?_
  refine Go_ild2 dX11_place_13 ?_
  refine Go_cV1 (d' := 1) (bc' := 0) (bs' := 0) rfl dX11_place_14 mvX9_at rfl lkX11_251 (by first | assumption | rfl) rfl trivial (by decide) (by decide) (by decide) (Nat.le_of_ble_eq_true rfl) ?_
  refine e_X9_at (h.1.1.1.2.2.2.2 p hp) h2 ?_
  refine Go_ireturn dX11_place_17 rfl (by first | rfl | decide | simp [narrow]) ?_
  exact k p rfl hp
/-- the nine tellings of a path -/
def pthA (ps : List (List Nat)) (p : Nat) (z : Int) : Int :=
  if z = 0 then ((pth ps p).length : Int) else if z = 1 then cornL (pth ps p) else if z = 2 then cnC ps p
  else if z = 3 then widL (colJ (pth ps p)) (pth ps p).length else if z = 4 then widL (rowJ (pth ps p)) (pth ps p).length
  else if z = 5 then sqD ((pth ps p).getD 0 0) (hdL (pth ps p)) else if z = 6 then (frD ps (hdL (pth ps p)) : Int)
  else if z = 7 then momL (pth ps p) else fbC ps p
theorem e_X11_path (h : CI w s sv g tx) (h1 : inR z1) (h2 : inR z2)
    (k : ∀ p : Nat, z1 = p → p < s.1.length → 0 ≤ z2 → z2 ≤ 8 → K (vi (pthA s.1 p z2)) none w)
    (x1 : ¬ (0 ≤ z1 ∧ z1 < s.1.length) → X 1 none w) (x3 : 0 ≤ z1 → z1 < s.1.length → ¬ (0 ≤ z2 ∧ z2 ≤ 8) → X 3 none w) : Ev G yX11_path cX11_path 4 mX11_path none 7 2 12 [vr 1, vi z1, vi z2] w K X := by
  have h5 : s.1.length ≤ 5 := h.2.1.1
  refine Ev_intro mvX11_path.1 rfl (fun h => by cases h) (allc1 rfl) (Nat.le_of_ble_eq_true rfl) (Or.inl rfl) ?_
  show Go G cX11_path mX11_path none 7 2 12 0 [some (vr 1), some (vi z1), some (vi z2), none] [] w K X
  refine Go_ald0 dX11_path_0 ?_
  refine Go_ild1 dX11_path_1 ?_
  refine Go_cVv1 (d' := 6) (bc' := 1) (bs' := 6) rfl dX11_path_2 mvX11_checkPath rfl lkX11_106 (by first | assumption | rfl) rfl trivial (by decide) (by decide) (by decide) (Nat.le_of_ble_eq_true rfl) ?_
  refine e_X11_checkPath h.1.1.1 h1 (fun p e hp => ?_) x1
  refine Go_ild2 dX11_path_5 ?_
  refine Go_iconst dX11_path_6 ?_
  refine Go_bipush dX11_path_7 (by decide +kernel) ?_
  refine Go_cSv3 (d' := 6) (bc' := 1) (bs' := 6) rfl dX11_path_9 msX11_checkRange rfl lkX11_186 (by decide) (by decide) (by decide) (Nat.le_of_ble_eq_true rfl) ?_
  refine e_X11_checkRange h2 (by constructor <;> omega) (by constructor <;> omega) (fun q1 q2 => ?_) (x3 (by omega) (by omega))
  subst e
  have h3 := h.1.1.1.2.2.1 p (by omega)
  have hts1 := (bts_sh h3.1).1
  have hT := h.1.1.1.2.2.2.2 p hp
  have hl := h.2.1.len hp
  have hx := h.2.1.lt p
  have hh : hdL (pth s.1 p) < 100 := hx.at _
  have hz : (pth s.1 p).getD 0 0 < 100 := hx.at 0
  refine Go_ald0 dX11_path_12 ?_
  refine gf10_0 dX11_path_13 flX11_12 ?_
  refine Go_ild1 dX11_path_16 ?_
  refine Go_cV1 (d' := 0) (bc' := 0) (bs' := 0) rfl dX11_path_17 mvX0_trail rfl lkX11_115 (by first | assumption | rfl) rfl trivial (by decide) (by decide) (by decide) (Nat.le_of_ble_eq_true rfl) ?_
  refine e_X0_trail h.1.1.1 (by omega) ?_
  refine Go_ast3 dX11_path_20 rfl ?_
  have c : z2 = 0 ∨ z2 = 1 ∨ z2 = 2 ∨ z2 = 3 ∨ z2 = 4 ∨ z2 = 5 ∨ z2 = 6 ∨ z2 = 7 ∨ z2 = 8 := by omega
  have k := k p rfl hp q1 q2
  rcases c with rfl | rfl | rfl | rfl | rfl | rfl | rfl | rfl | rfl
  · skip
    refine Go_ild2 dX11_path_21 ?_
    refine Go_tsIn (i := 0) (off := 46) (tgt := 68) dX11_path_22 (by omega) ⟨⟨by decide, by decide⟩, by decide⟩ (by decide) (by decide) ?_
    refine Go_ald3 dX11_path_68 ?_
    refine Go_cV0 (d' := 0) (bc' := 0) (bs' := 0) rfl dX11_path_69 mvX9_length rfl lkX11_119 (by first | assumption | rfl) rfl trivial (by decide) (by decide) (by decide) (Nat.le_of_ble_eq_true rfl) ?_
    refine e_X9_length hT ?_
    refine Go_ireturn dX11_path_72 rfl (by first | rfl | decide | simp [narrow]) ?_
    exact k
  · skip
    refine Go_ild2 dX11_path_21 ?_
    refine Go_tsIn (i := 1) (off := 51) (tgt := 73) dX11_path_22 (by omega) ⟨⟨by decide, by decide⟩, by decide⟩ (by decide) (by decide) ?_
    refine Go_ald3 dX11_path_73 ?_
    refine Go_cV0 (d' := 4) (bc' := 0) (bs' := 0) rfl dX11_path_74 mvX9_corners rfl lkX11_254 (by first | assumption | rfl) rfl trivial (by decide) (by decide) (by decide) (Nat.le_of_ble_eq_true rfl) ?_
    refine e_X9_corners hT hx hl.1 ?_
    refine Go_ireturn dX11_path_77 rfl (by first | rfl | decide | simp [narrow]) ?_
    exact k
  · skip
    refine Go_ild2 dX11_path_21 ?_
    refine Go_tsIn (i := 2) (off := 56) (tgt := 78) dX11_path_22 (by omega) ⟨⟨by decide, by decide⟩, by decide⟩ (by decide) (by decide) ?_
    refine Go_ald0 dX11_path_78 ?_
    refine gf10_0 dX11_path_79 flX11_12 ?_
    refine Go_ild1 dX11_path_82 ?_
    refine Go_cV1 (d' := 2) (bc' := 0) (bs' := 0) rfl dX11_path_83 mvX0_contacts rfl lkX11_257 (by first | assumption | rfl) rfl trivial (by decide) (by decide) (by decide) (Nat.le_of_ble_eq_true rfl) ?_
    refine e_X0_contacts h.1.1 h.2.1 hp ?_
    refine Go_ireturn dX11_path_86 rfl (by first | rfl | decide | simp [narrow]) ?_
    exact k
  · skip
    refine Go_ild2 dX11_path_21 ?_
    refine Go_tsIn (i := 3) (off := 65) (tgt := 87) dX11_path_22 (by omega) ⟨⟨by decide, by decide⟩, by decide⟩ (by decide) (by decide) ?_
    refine Go_ald3 dX11_path_87 ?_
    refine Go_cV0 (d' := 1) (bc' := 0) (bs' := 0) rfl dX11_path_88 mvX9_width rfl lkX11_260 (by first | assumption | rfl) rfl trivial (by decide) (by decide) (by decide) (Nat.le_of_ble_eq_true rfl) ?_
    refine e_X9_width hT hx ?_
    refine Go_ireturn dX11_path_91 rfl (by first | rfl | decide | simp [narrow]) ?_
    exact k
  · skip
    refine Go_ild2 dX11_path_21 ?_
    refine Go_tsIn (i := 4) (off := 70) (tgt := 92) dX11_path_22 (by omega) ⟨⟨by decide, by decide⟩, by decide⟩ (by decide) (by decide) ?_
    refine Go_ald3 dX11_path_92 ?_
    refine Go_cV0 (d' := 1) (bc' := 0) (bs' := 0) rfl dX11_path_93 mvX9_height rfl lkX11_263 (by first | assumption | rfl) rfl trivial (by decide) (by decide) (by decide) (Nat.le_of_ble_eq_true rfl) ?_
    refine e_X9_height hT hx ?_
    refine Go_ireturn dX11_path_96 rfl (by first | rfl | decide | simp [narrow]) ?_
    exact k
  · skip
    refine Go_ild2 dX11_path_21 ?_
    refine Go_tsIn (i := 5) (off := 75) (tgt := 97) dX11_path_22 (by omega) ⟨⟨by decide, by decide⟩, by decide⟩ (by decide) (by decide) ?_
    refine Go_ald3 dX11_path_97 ?_
    refine Go_cV0 (d' := 2) (bc' := 0) (bs' := 0) rfl dX11_path_98 mvX9_tail rfl lkX11_266 (by first | assumption | rfl) rfl trivial (by decide) (by decide) (by decide) (Nat.le_of_ble_eq_true rfl) ?_
    refine e_X9_tailN hT hl.1 ?_
    refine Go_ald3 dX11_path_101 ?_
    refine Go_cV0 (d' := 2) (bc' := 0) (bs' := 0) rfl dX11_path_102 mvX9_head rfl lkX11_156 (by first | assumption | rfl) rfl trivial (by decide) (by decide) (by decide) (Nat.le_of_ble_eq_true rfl) ?_
    refine e_X9_headN hT hl.1 ?_
    refine Go_cS2 (d' := 1) (bc' := 0) (bs' := 0) rfl dX11_path_105 msX2_squaredDistance rfl lkX11_269 (by decide) (by decide) (by decide) (Nat.le_of_ble_eq_true rfl) ?_
    refine e_X2_squaredDistance (by omega) (by omega) (by omega) (by omega) ?_
    refine Go_ireturn dX11_path_108 rfl (by first | rfl | decide | simp [narrow]) ?_
    exact k
  · skip
    refine Go_ild2 dX11_path_21 ?_
    refine Go_tsIn (i := 6) (off := 87) (tgt := 109) dX11_path_22 (by omega) ⟨⟨by decide, by decide⟩, by decide⟩ (by decide) (by decide) ?_
    refine Go_ald0 dX11_path_109 ?_
    refine gf10_0 dX11_path_110 flX11_12 ?_
    refine Go_ald3 dX11_path_113 ?_
    refine Go_cV0 (d' := 2) (bc' := 0) (bs' := 0) rfl dX11_path_114 mvX9_head rfl lkX11_156 (by first | assumption | rfl) rfl trivial (by decide) (by decide) (by decide) (Nat.le_of_ble_eq_true rfl) ?_
    refine e_X9_headN hT hl.1 ?_
    refine Go_cV1 (d' := 2) (bc' := 0) (bs' := 0) rfl dX11_path_117 mvX0_freeDirections rfl lkX11_248 (by first | assumption | rfl) rfl trivial (by decide) (by decide) (by decide) (Nat.le_of_ble_eq_true rfl) ?_
    refine e_X0_freeDirections h.1.1.2.1 h5 hh ?_
    refine Go_ireturn dX11_path_120 rfl (by first | rfl | decide | simp [narrow]) ?_
    exact k
  · skip
    refine Go_ild2 dX11_path_21 ?_
    refine Go_tsIn (i := 7) (off := 99) (tgt := 121) dX11_path_22 (by omega) ⟨⟨by decide, by decide⟩, by decide⟩ (by decide) (by decide) ?_
    refine Go_ald3 dX11_path_121 ?_
    refine Go_cV0 (d' := 1) (bc' := 0) (bs' := 0) rfl dX11_path_122 mvX9_moment rfl lkX11_272 (by first | assumption | rfl) rfl trivial (by decide) (by decide) (by decide) (Nat.le_of_ble_eq_true rfl) ?_
    refine e_X9_moment hT hx ?_
    refine Go_ireturn dX11_path_125 rfl (by first | rfl | decide | simp [narrow]) ?_
    exact k
  · skip
    refine Go_ild2 dX11_path_21 ?_
    refine Go_tsOut (tgt := 126) dX11_path_22 (by constructor <;> omega) (by omega) (by decide) ?_
    refine Go_ald0 dX11_path_126 ?_
    refine gf10_0 dX11_path_127 flX11_12 ?_
    refine Go_ild1 dX11_path_130 ?_
    refine Go_cV1 (d' := 3) (bc' := 0) (bs' := 0) rfl dX11_path_131 mvX0_freeBorder rfl lkX11_275 (by first | assumption | rfl) rfl trivial (by decide) (by decide) (by decide) (Nat.le_of_ble_eq_true rfl) ?_
    refine e_X0_freeBorder h.1.1.2.1 h5 (by omega) ?_
    refine Go_ireturn dX11_path_134 rfl (by first | rfl | decide | simp [narrow]) ?_
    exact k
/-- the paths whose heads are trapped -/
def trpF (ps : List (List Nat)) (p : Nat) : Nat := if frD ps (hdL (pth ps p)) = 0 then 2 ^ p else 0
theorem orF_lt {f : Nat → Nat} {n m : Nat} (h : ∀ i, i < n → f i < 2 ^ m) : orF f n < 2 ^ m := by
  induction n with
  | zero => exact Nat.two_pow_pos m
  | succ n ih => exact Nat.or_lt_two_pow (ih (fun i hi => h i (by omega))) (h n (by omega))
theorem frD_lt (ps : List (List Nat)) (s : Nat) : frD ps s < 16 := orF_lt (m := 4) (fun i hi => by
  have := frDF_le ps s i
  have key : ∀ i, i < 4 → 2 ^ i < 2 ^ 4 := by decide
  have := key i hi
  omega)
theorem e_X11_trapped (h : CI w s sv g tx) (k : K (vi (orF (trpF s.1) s.1.length)) none w) : Ev G yX11_trapped cX11_trapped 3 mX11_trapped none 3 0 0 [vr 1] w K X := by
  have h5 : s.1.length ≤ 5 := h.2.1.1
  refine Ev_intro mvX11_trapped.1 rfl (fun h => by cases h) (allc1 rfl) (Nat.le_of_ble_eq_true rfl) (Or.inl rfl) ?_
  show Go G cX11_trapped mX11_trapped none 3 0 0 0 [some (vr 1), none, none] [] w K X
  refine Go_iconst dX11_trapped_0 ?_
  refine Go_ist1 dX11_trapped_1 rfl ?_
  refine Go_iconst dX11_trapped_2 ?_
  refine Go_ist2 dX11_trapped_3 rfl ?_
  refine Go_upTo (n := s.1.length) (L := fun i => [some (vr 1), some (vi ((orF (trpF s.1) i : Nat) : Int)), some (vi (i : Int))]) (P := fun i v => v = w) (by repeat' (first | exact Or.inl rfl | exact Or.inr rfl | exact Or.inr (lcg (by omega)) | exact trivial | constructor)) (rfl) (fun i v hi hP kn => ?_) (fun v hP => ?_)
  · try dsimp only at hP kn
    try dsimp only
    subst hP
    have h3 := h.1.1.1.2.2.1 i (by omega)
    have hts1 := (bts_sh h3.1).1
    have hl := h.2.1.len hi
    have hh : hdL (pth s.1 i) < 100 := (h.2.1.lt i).at _
    have b := frD_lt s.1 (hdL (pth s.1 i))
    have e : orF (trpF s.1) (i + 1) = orF (trpF s.1) i ||| (if frD s.1 (hdL (pth s.1 i)) = 0 then 2 ^ i else 0) := rfl
    refine Go_ild2 dX11_trapped_4 ?_
    refine Go_ald0 dX11_trapped_5 ?_
    refine gf10_0 dX11_trapped_6 flX11_12 ?_
    refine Go_cV0 (d' := 0) (bc' := 0) (bs' := 0) rfl dX11_trapped_9 mvX0_pathCount rfl lkX11_183 (by first | assumption | rfl) rfl trivial (by decide) (by decide) (by decide) (Nat.le_of_ble_eq_true rfl) ?_
    refine e_X0_pathCount h.1.1.1 ?_
    refine Go_icmp_ge (tgt := 48) dX11_trapped_12 (by decide) (by constructor <;> omega) (by constructor <;> omega) (fun h12 => by omega) (fun h12 => ?_)
    refine Go_ald0 dX11_trapped_15 ?_
    refine gf10_0 dX11_trapped_16 flX11_12 ?_
    refine Go_ald0 dX11_trapped_19 ?_
    refine gf10_0 dX11_trapped_20 flX11_12 ?_
    refine Go_ild2 dX11_trapped_23 ?_
    refine Go_cV1 (d' := 0) (bc' := 0) (bs' := 0) rfl dX11_trapped_24 mvX0_trail rfl lkX11_115 (by first | assumption | rfl) rfl trivial (by decide) (by decide) (by decide) (Nat.le_of_ble_eq_true rfl) ?_
    refine e_X0_trail h.1.1.1 (by omega) ?_
    refine Go_cV0 (d' := 2) (bc' := 0) (bs' := 0) rfl dX11_trapped_27 mvX9_head rfl lkX11_156 (by first | assumption | rfl) rfl trivial (by decide) (by decide) (by decide) (Nat.le_of_ble_eq_true rfl) ?_
    refine e_X9_headN (h.1.1.1.2.2.2.2 i hi) hl.1 ?_
    refine Go_cV1 (d' := 2) (bc' := 0) (bs' := 0) rfl dX11_trapped_30 mvX0_freeDirections rfl lkX11_248 (by first | assumption | rfl) rfl trivial (by decide) (by decide) (by decide) (Nat.le_of_ble_eq_true rfl) ?_
    refine e_X0_freeDirections h.1.1.2.1 h5 hh ?_
    refine Go_if_ne (tgt := 42) dX11_trapped_33 (by decide) (by constructor <;> omega) (fun h33 => ?_) (fun h33 => ?_)
    · refine Go_inc2 dX11_trapped_42 rfl ?_
      refine Go_goto (tgt := 4) dX11_trapped_45 (by decide) ?_
      refine Go_forget (ls' := _) ?_ (kn _ rfl)
      first | rw [if_pos (by omega)] at e | rw [if_neg (by omega), Nat.or_zero] at e
      rw [e]
      exact (by repeat' (first | exact Or.inl rfl | exact Or.inr rfl | exact Or.inr (lcg (by omega)) | exact trivial | constructor))
    · refine Go_ild1 dX11_trapped_36 ?_
      refine Go_iconst dX11_trapped_37 ?_
      refine Go_ild2 dX11_trapped_38 ?_
      refine Go_ishl dX11_trapped_39 (by omega) (by omega) ?_
      rw [Int.toNat_natCast]
      refine Go_ior dX11_trapped_40 ?_
      refine Go_ist1 dX11_trapped_41 rfl ?_
      refine Go_inc2 dX11_trapped_42 rfl ?_
      refine Go_goto (tgt := 4) dX11_trapped_45 (by decide) ?_
      refine Go_forget (ls' := _) ?_ (kn _ rfl)
      first | rw [if_pos (by omega)] at e | rw [if_neg (by omega), Nat.or_zero] at e
      rw [e]
      exact (by repeat' (first | exact Or.inl rfl | exact Or.inr rfl | exact Or.inr (lcg (by omega)) | exact trivial | constructor))
  · try dsimp only at hP
    try dsimp only
    subst hP
    refine Go_ild2 dX11_trapped_4 ?_
    refine Go_ald0 dX11_trapped_5 ?_
    refine gf10_0 dX11_trapped_6 flX11_12 ?_
    refine Go_cV0 (d' := 0) (bc' := 0) (bs' := 0) rfl dX11_trapped_9 mvX0_pathCount rfl lkX11_183 (by first | assumption | rfl) rfl trivial (by decide) (by decide) (by decide) (Nat.le_of_ble_eq_true rfl) ?_
    refine e_X0_pathCount h.1.1.1 ?_
    refine Go_icmp_ge (tgt := 48) dX11_trapped_12 (by decide) (by constructor <;> omega) (by constructor <;> omega) (fun h12 => ?_) (fun h12 => by omega)
    refine Go_ild1 dX11_trapped_48 ?_
    refine Go_ireturn dX11_trapped_49 rfl (by first | rfl | decide | simp [narrow]) ?_
    exact k
theorem e_X11_touching (h : CI w s sv g tx) (h1 : inR z1) (h2 : inR z2)
    (k : ∀ p o : Nat, z1 = p → p < s.1.length → z2 = o → o < s.1.length → p ≠ o → K (vi (toC s.1 p o)) none w)
    (x1 : ¬ (0 ≤ z1 ∧ z1 < s.1.length ∧ 0 ≤ z2 ∧ z2 < s.1.length) → X 1 none w) (x3 : 0 ≤ z1 → z1 < s.1.length → z1 = z2 → X 3 none w) : Ev G yX11_touching cX11_touching 3 mX11_touching none 8 3 18 [vr 1, vi z1, vi z2] w K X := by
  refine Ev_intro mvX11_touching.1 rfl (fun h => by cases h) (allc1 rfl) (Nat.le_of_ble_eq_true rfl) (Or.inl rfl) ?_
  show Go G cX11_touching mX11_touching none 8 3 18 0 [some (vr 1), some (vi z1), some (vi z2)] [] w K X
  refine Go_ald0 dX11_touching_0 ?_
  refine Go_ild1 dX11_touching_1 ?_
  refine Go_ild2 dX11_touching_2 ?_
  refine Go_cVv2 (d' := 7) (bc' := 3) (bs' := 18) rfl dX11_touching_3 mvX11_checkTwoPaths rfl lkX11_153 (by first | assumption | rfl) rfl trivial (by decide) (by decide) (by decide) (Nat.le_of_ble_eq_true rfl) ?_
  refine e_X11_checkTwoPaths h.1.1.1 h1 h2 (fun p o e hp e2 ho hpo => ?_) x1 x3
  subst e e2
  refine Go_ald0 dX11_touching_6 ?_
  refine gf10_0 dX11_touching_7 flX11_12 ?_
  refine Go_ild1 dX11_touching_10 ?_
  refine Go_ild2 dX11_touching_11 ?_
  refine Go_cV2 (d' := 3) (bc' := 0) (bs' := 0) rfl dX11_touching_12 mvX0_touchingPairs rfl lkX11_278 (by first | assumption | rfl) rfl trivial (by decide) (by decide) (by decide) (Nat.le_of_ble_eq_true rfl) ?_
  refine e_X0_touchingPairs h.1.1 h.2.1 hp ho ?_
  refine Go_ireturn dX11_touching_15 rfl (by first | rfl | decide | simp [narrow]) ?_
  exact k p o rfl hp rfl ho hpo
theorem e_X11_shape (h : CI w s sv g tx) (h1 : inR z1) (h2 : inR z2)
    (k : ∀ w' (p : Nat) f, z1 = p → p < s.1.length → 0 ≤ z2 → isLeast (pth s.1 p) f → CI w' s sv g tx → frm w w' ccs → K (vi (if z2 < ((pth s.1 p).length - 1 : Nat) then f z2.toNat else -1)) none w')
    (x1 : ¬ (0 ≤ z1 ∧ z1 < s.1.length) → X 1 none w) (x3 : 0 ≤ z1 → z1 < s.1.length → z2 < 0 → X 3 none w) : Ev G yX11_shape cX11_shape 3 mX11_shape none 7 2 12 [vr 1, vi z1, vi z2] w K X := by
  have h5 : s.1.length ≤ 5 := h.2.1.1
  obtain ⟨b1, b2⟩ := id h2
  refine Ev_intro mvX11_shape.1 rfl (fun h => by cases h) (allc1 rfl) (Nat.le_of_ble_eq_true rfl) (Or.inl rfl) ?_
  show Go G cX11_shape mX11_shape none 7 2 12 0 [some (vr 1), some (vi z1), some (vi z2)] [] w K X
  refine Go_ald0 dX11_shape_0 ?_
  refine Go_ild1 dX11_shape_1 ?_
  refine Go_cVv1 (d' := 6) (bc' := 1) (bs' := 6) rfl dX11_shape_2 mvX11_checkPath rfl lkX11_106 (by first | assumption | rfl) rfl trivial (by decide) (by decide) (by decide) (Nat.le_of_ble_eq_true rfl) ?_
  refine e_X11_checkPath h.1.1.1 h1 (fun p e hp => ?_) x1
  refine Go_ild2 dX11_shape_5 ?_
  refine Go_if_ge (tgt := 20) dX11_shape_6 (by decide) (by constructor <;> omega) (fun h6 => ?_) (fun h6 => ?_)
  · subst e
    have h3 := h.1.1.1.2.2.1 p (by omega)
    have hb := bts_sh h3.1
    refine Go_ald0 dX11_shape_20 ?_
    refine gf10_8 dX11_shape_21 flX11_68 ?_
    refine Go_ald0 dX11_shape_24 ?_
    refine gf10_0 dX11_shape_25 flX11_12 ?_
    refine Go_ild1 dX11_shape_28 ?_
    refine Go_cV1 (d' := 0) (bc' := 0) (bs' := 0) rfl dX11_shape_29 mvX0_trail rfl lkX11_115 (by first | assumption | rfl) rfl trivial (by decide) (by decide) (by decide) (Nat.le_of_ble_eq_true rfl) ?_
    refine e_X0_trail h.1.1.1 (by omega) ?_
    refine Go_cVv1 (d' := 4) (bc' := 0) (bs' := 0) rfl dX11_shape_32 mvX7_find rfl lkX11_283 (by first | assumption | rfl) rfl trivial (by decide) (by decide) (by decide) (Nat.le_of_ble_eq_true rfl) ?_
    refine e_X7_find (Or.inl rfl) (h.1.1.1.2.2.2.2 p hp) (h.2.1.lt p) (h.2.1.len hp).1 (by omega) (fun w1 f sp lf f1 => ?_)
    refine Go_ald0 dX11_shape_35 ?_
    refine gf10_8 dX11_shape_36 flX11_68 ?_
    refine Go_ild2 dX11_shape_39 ?_
    refine Go_cV1 (d' := 0) (bc' := 0) (bs' := 0) rfl dX11_shape_40 mvX7_stepAt rfl lkX11_286 (by first | assumption | rfl) rfl trivial (by decide) (by decide) (by decide) (Nat.le_of_ble_eq_true rfl) ?_
    refine e_X7_stepAt (Or.inl rfl) sp h2 ?_
    refine Go_ireturn dX11_shape_43 rfl (by first | rfl | decide | simp [narrow]) ?_
    refine kI ?_ (k _ p f rfl hp (by omega) lf (h.frm f1 (by decide)) (f1.mono (by decide +kernel)))
    by_cases c : z2 < ((pth s.1 p).length - 1 : Nat)
    · rw [if_pos c, if_pos (by omega)]
    · rw [if_neg c, if_neg (by omega)]
  · refine Go_throwW (k := 3) ⟨by decide, by decide⟩ (List.mem_of_getElem? (i := 10) rfl) rfl rfl (by decide) (by decide) (by decide) dX11_shape_9 dX11_shape_12 dX11_shape_13 dX11_shape_16 dX11_shape_19 (Nat.le_of_ble_eq_true rfl) ?_
    exact x3 (by omega) (by omega) (by omega)
theorem e_X11_isAlike (h : CI w s sv g tx) (h1 : inR z1) (h2 : inR z2)
    (kt : ∀ w' (p o : Nat) f f', z1 = p → p < s.1.length → z2 = o → o < s.1.length → isLeast (pth s.1 p) f → isLeast (pth s.1 o) f' → (pth s.1 p).length - 1 = (pth s.1 o).length - 1 ∧ (∀ j, j < (pth s.1 p).length - 1 → f j = f' j) → CI w' s sv g tx → frm w w' ccs → K (vi 1) none w')
    (kf : ∀ w' (p o : Nat) f f', z1 = p → p < s.1.length → z2 = o → o < s.1.length → isLeast (pth s.1 p) f → isLeast (pth s.1 o) f' → ¬ ((pth s.1 p).length - 1 = (pth s.1 o).length - 1 ∧ ∀ j, j < (pth s.1 p).length - 1 → f j = f' j) → CI w' s sv g tx → frm w w' ccs → K (vi 0) none w')
    (x1 : ¬ (0 ≤ z1 ∧ z1 < s.1.length ∧ 0 ≤ z2 ∧ z2 < s.1.length) → X 1 none w) : Ev G yX11_isAlike cX11_isAlike 3 mX11_isAlike none 7 2 12 [vr 1, vi z1, vi z2] w K X := by
  have h5 : s.1.length ≤ 5 := h.2.1.1
  refine Ev_intro mvX11_isAlike.1 rfl (fun h => by cases h) (allc1 rfl) (Nat.le_of_ble_eq_true rfl) (Or.inl rfl) ?_
  show Go G cX11_isAlike mX11_isAlike none 7 2 12 0 [some (vr 1), some (vi z1), some (vi z2)] [] w K X
  refine Go_ald0 dX11_isAlike_0 ?_
  refine Go_ild1 dX11_isAlike_1 ?_
  refine Go_cVv1 (d' := 6) (bc' := 1) (bs' := 6) rfl dX11_isAlike_2 mvX11_checkPath rfl lkX11_106 (by first | assumption | rfl) rfl trivial (by decide) (by decide) (by decide) (Nat.le_of_ble_eq_true rfl) ?_
  refine e_X11_checkPath h.1.1.1 h1 (fun p e hp => ?_) (fun q => x1 (by omega))
  refine Go_ald0 dX11_isAlike_5 ?_
  refine Go_ild2 dX11_isAlike_6 ?_
  refine Go_cVv1 (d' := 6) (bc' := 1) (bs' := 6) rfl dX11_isAlike_7 mvX11_checkPath rfl lkX11_106 (by first | assumption | rfl) rfl trivial (by decide) (by decide) (by decide) (Nat.le_of_ble_eq_true rfl) ?_
  refine e_X11_checkPath h.1.1.1 h2 (fun o e2 ho => ?_) (fun q => x1 (by omega))
  subst e e2
  have h3 := h.1.1.1.2.2.1 p (by omega)
  have hb := bts_sh h3.1
  have h4 := h.1.1.1.2.2.1 o (by omega)
  have hb2 := bts_sh h4.1
  refine Go_ald0 dX11_isAlike_10 ?_
  refine gf10_8 dX11_isAlike_11 flX11_68 ?_
  refine Go_ald0 dX11_isAlike_14 ?_
  refine gf10_0 dX11_isAlike_15 flX11_12 ?_
  refine Go_ild1 dX11_isAlike_18 ?_
  refine Go_cV1 (d' := 0) (bc' := 0) (bs' := 0) rfl dX11_isAlike_19 mvX0_trail rfl lkX11_115 (by first | assumption | rfl) rfl trivial (by decide) (by decide) (by decide) (Nat.le_of_ble_eq_true rfl) ?_
  refine e_X0_trail h.1.1.1 (by omega) ?_
  refine Go_cVv1 (d' := 4) (bc' := 0) (bs' := 0) rfl dX11_isAlike_22 mvX7_find rfl lkX11_283 (by first | assumption | rfl) rfl trivial (by decide) (by decide) (by decide) (Nat.le_of_ble_eq_true rfl) ?_
  refine e_X7_find (Or.inl rfl) (h.1.1.1.2.2.2.2 p hp) (h.2.1.lt p) (h.2.1.len hp).1 (by omega) (fun w1 f sp lf f1 => ?_)
  have c1 := h.frm f1 (by decide)
  refine Go_ald0 dX11_isAlike_25 ?_
  refine gf10_9 dX11_isAlike_26 flX11_72 ?_
  refine Go_ald0 dX11_isAlike_29 ?_
  refine gf10_0 dX11_isAlike_30 flX11_12 ?_
  refine Go_ild2 dX11_isAlike_33 ?_
  refine Go_cV1 (d' := 0) (bc' := 0) (bs' := 0) rfl dX11_isAlike_34 mvX0_trail rfl lkX11_115 (by first | assumption | rfl) rfl trivial (by decide) (by decide) (by decide) (Nat.le_of_ble_eq_true rfl) ?_
  refine e_X0_trail c1.1.1.1 (by omega) ?_
  rw [tA_frm f1 (by decide)]
  refine Go_cVv1 (d' := 4) (bc' := 0) (bs' := 0) rfl dX11_isAlike_37 mvX7_find rfl lkX11_283 (by first | assumption | rfl) rfl trivial (by decide) (by decide) (by decide) (Nat.le_of_ble_eq_true rfl) ?_
  refine e_X7_find (Or.inr rfl) ((h.1.1.1.2.2.2.2 o ho).frm f1 (by simp; omega) (by simp; omega)) (h.2.1.lt o) (h.2.1.len ho).1 (by omega) (fun w2 f' sp2 lf2 f2 => ?_)
  have c2 := c1.frm f2 (by decide)
  have sp1 : SP w2 58 ((pth s.1 p).length - 1) f := ⟨by rw [f2.at (by decide)]; exact sp.1, sp.2.1, fun j hj => by rw [f2.at (by decide)]; exact sp.2.2 j hj⟩
  have f3 : frm w w2 ccs := (f1.mono (by decide +kernel)).trans f2 (by decide +kernel)
  refine Go_ald0 dX11_isAlike_40 ?_
  refine gf10_8 dX11_isAlike_41 flX11_68 ?_
  refine Go_ald0 dX11_isAlike_44 ?_
  refine gf10_9 dX11_isAlike_45 flX11_72 ?_
  refine Go_cV1 (d' := 0) (bc' := 0) (bs' := 0) rfl dX11_isAlike_48 mvX7_matches rfl lkX11_289 (by first | assumption | rfl) rfl trivial (by decide) (by decide) (by decide) (Nat.le_of_ble_eq_true rfl) ?_
  refine e_X7_matches sp1 sp2 (fun q1 q2 => ?_) (fun q => ?_)
  · skip
    refine Go_ireturn dX11_isAlike_51 rfl (by first | rfl | decide | simp [narrow]) ?_
    exact kt _ p o f f' rfl hp rfl ho lf lf2 ⟨q1, q2⟩ c2 f3
  · skip
    refine Go_ireturn dX11_isAlike_51 rfl (by first | rfl | decide | simp [narrow]) ?_
    exact kf _ p o f f' rfl hp rfl ho lf lf2 q c2 f3
def hdB (ps : List (List Nat)) (r : Nat → Int) (n i : Nat) : Bool := (List.range n).any fun p => bsd r (hdL (pth ps p)) i
theorem e_X11_regionsAtHeads {r : Nat → Int} {n : Nat} (h : CI w s sv g tx) (hg : RG w r n (fun _ => false)) (hr : ∀ t, r t = -1 ∨ (0 ≤ r t ∧ r t < n)) (hn : n ≤ 100) (k : ∀ w', CI w' s sv g tx → frm w w' [56] → K (vi (smF (fun i => if hdB s.1 r s.1.length i = true then 1 else 0) n)) none w') : Ev G yX11_regionsAtHeads cX11_regionsAtHeads 2 mX11_regionsAtHeads none 3 0 0 [vr 1] w K X := by
  have h5 : s.1.length ≤ 5 := h.2.1.1
  have g0 : RG w r n (hdB s.1 r 0) := hg
  refine Ev_intro mvX11_regionsAtHeads.1 rfl (fun h => by cases h) (allc1 rfl) (Nat.le_of_ble_eq_true rfl) (Or.inl rfl) ?_
  show Go G cX11_regionsAtHeads mX11_regionsAtHeads none 3 0 0 0 [some (vr 1), none] [] w K X
  refine Go_iconst dX11_regionsAtHeads_0 ?_
  refine Go_ist1 dX11_regionsAtHeads_1 rfl ?_
  refine Go_upTo (n := s.1.length) (L := fun i => [some (vr 1), some (vi (i : Int))]) (P := fun i v => RG v r n (hdB s.1 r i) ∧ frm w v [56]) (by repeat' (first | exact Or.inl rfl | exact Or.inr rfl | exact Or.inr (lcg (by omega)) | exact trivial | constructor)) (⟨g0, frm.rfl⟩) (fun i v hi hP kn => ?_) (fun v hP => ?_)
  · try dsimp only at hP kn
    try dsimp only
    obtain ⟨g1, f1⟩ := hP
    have c1 := h.frm f1 (by decide)
    have h3 := c1.1.1.1.2.2.1 i (by omega)
    have hts1 := (bts_sh h3.1).1
    have hl := h.2.1.len hi
    have hh : hdL (pth s.1 i) < 100 := (h.2.1.lt i).at _
    have e : (fun j => hdB s.1 r i j || bsd r (hdL (pth s.1 i)) j) = hdB s.1 r (i + 1) := by
      funext j
      unfold hdB
      rw [List.range_succ, List.any_append]
      simp
    refine Go_ild1 dX11_regionsAtHeads_2 ?_
    refine Go_ald0 dX11_regionsAtHeads_3 ?_
    refine gf10_0 dX11_regionsAtHeads_4 flX11_12 ?_
    refine Go_cV0 (d' := 0) (bc' := 0) (bs' := 0) rfl dX11_regionsAtHeads_7 mvX0_pathCount rfl lkX11_183 (by first | assumption | rfl) rfl trivial (by decide) (by decide) (by decide) (Nat.le_of_ble_eq_true rfl) ?_
    refine e_X0_pathCount c1.1.1.1 ?_
    refine Go_icmp_ge (tgt := 37) dX11_regionsAtHeads_10 (by decide) (by constructor <;> omega) (by constructor <;> omega) (fun h10 => by omega) (fun h10 => ?_)
    refine Go_ald0 dX11_regionsAtHeads_13 ?_
    refine gf10_7 dX11_regionsAtHeads_14 flX11_61 ?_
    refine Go_ald0 dX11_regionsAtHeads_17 ?_
    refine gf10_0 dX11_regionsAtHeads_18 flX11_12 ?_
    refine Go_ild1 dX11_regionsAtHeads_21 ?_
    refine Go_cV1 (d' := 0) (bc' := 0) (bs' := 0) rfl dX11_regionsAtHeads_22 mvX0_trail rfl lkX11_115 (by first | assumption | rfl) rfl trivial (by decide) (by decide) (by decide) (Nat.le_of_ble_eq_true rfl) ?_
    refine e_X0_trail c1.1.1.1 (by omega) ?_
    refine Go_cV0 (d' := 2) (bc' := 0) (bs' := 0) rfl dX11_regionsAtHeads_25 mvX9_head rfl lkX11_156 (by first | assumption | rfl) rfl trivial (by decide) (by decide) (by decide) (Nat.le_of_ble_eq_true rfl) ?_
    refine e_X9_headN (c1.1.1.1.2.2.2.2 i hi) hl.1 ?_
    refine Go_cVv1 (d' := 2) (bc' := 0) (bs' := 0) rfl dX11_regionsAtHeads_28 mvX4_chooseAround rfl lkX11_314 (by first | assumption | rfl) rfl trivial (by decide) (by decide) (by decide) (Nat.le_of_ble_eq_true rfl) ?_
    refine e_X4_chooseAround g1 hr hn hh (fun w2 g2 f2 => ?_)
    refine Go_inc1 dX11_regionsAtHeads_31 rfl ?_
    refine Go_goto (tgt := 2) dX11_regionsAtHeads_34 (by decide) ?_
    rw [e] at g2
    exact Go_forget (by repeat' (first | exact Or.inl rfl | exact Or.inr rfl | exact Or.inr (lcg (by omega)) | exact trivial | constructor)) (kn _ ⟨g2, f1.trans f2 (fun _ h => h)⟩)
  · try dsimp only at hP
    try dsimp only
    obtain ⟨g1, f1⟩ := hP
    have c1 := h.frm f1 (by decide)
    refine Go_ild1 dX11_regionsAtHeads_2 ?_
    refine Go_ald0 dX11_regionsAtHeads_3 ?_
    refine gf10_0 dX11_regionsAtHeads_4 flX11_12 ?_
    refine Go_cV0 (d' := 0) (bc' := 0) (bs' := 0) rfl dX11_regionsAtHeads_7 mvX0_pathCount rfl lkX11_183 (by first | assumption | rfl) rfl trivial (by decide) (by decide) (by decide) (Nat.le_of_ble_eq_true rfl) ?_
    refine e_X0_pathCount c1.1.1.1 ?_
    refine Go_icmp_ge (tgt := 37) dX11_regionsAtHeads_10 (by decide) (by constructor <;> omega) (by constructor <;> omega) (fun h10 => ?_) (fun h10 => by omega)
    refine Go_ald0 dX11_regionsAtHeads_37 ?_
    refine gf10_7 dX11_regionsAtHeads_38 flX11_61 ?_
    refine Go_cV0 (d' := 0) (bc' := 0) (bs' := 0) rfl dX11_regionsAtHeads_41 mvX4_chosenRegions rfl lkX11_333 (by first | assumption | rfl) rfl trivial (by decide) (by decide) (by decide) (Nat.le_of_ble_eq_true rfl) ?_
    refine e_X4_chosenRegions g1 hn ?_
    refine Go_ireturn dX11_regionsAtHeads_44 rfl (by first | rfl | decide | simp [narrow]) ?_
    exact k _ c1 f1
theorem rg_r (ps : List (List Nat)) : ∀ t, rgR ps t = -1 ∨ (0 ≤ rgR ps t ∧ rgR ps t < rgN ps) := fun t => by
  rcases (rg_ok ps).1.1 t with c | c
  · exact Or.inl c
  · exact Or.inr ⟨c.1, c.2.1⟩
theorem e_X11_free (h : CI w s sv g tx) (h1 : inR z1)
    (k : ∀ w', 0 ≤ z1 → z1 ≤ 3 → CI w' s sv g tx → frm w w' ccs → K (vi (if z1 = 0 then 100 - (tot s.1 : Int) else if z1 = 1 then (rgN s.1 : Int) else if z1 = 2 then mxF (fun i => cntF (rgR s.1) i) 0 (rgN s.1) else smF (fun i => if hdB s.1 (rgR s.1) s.1.length i = true then 1 else 0) (rgN s.1))) none w')
    (x3 : ¬ (0 ≤ z1 ∧ z1 ≤ 3) → X 3 none w) : Ev G yX11_free cX11_free 2 mX11_free none 7 1 6 [vr 1, vi z1] w K X := by
  refine Ev_intro mvX11_free.1 rfl (fun h => by cases h) (allc1 rfl) (Nat.le_of_ble_eq_true rfl) (Or.inl rfl) ?_
  show Go G cX11_free mX11_free none 7 1 6 0 [some (vr 1), some (vi z1)] [] w K X
  refine Go_ild1 dX11_free_0 ?_
  refine Go_iconst dX11_free_1 ?_
  refine Go_iconst dX11_free_2 ?_
  refine Go_cSv3 (d' := 6) (bc' := 1) (bs' := 6) rfl dX11_free_3 msX11_checkRange rfl lkX11_186 (by decide) (by decide) (by decide) (Nat.le_of_ble_eq_true rfl) ?_
  refine e_X11_checkRange h1 (by constructor <;> omega) (by constructor <;> omega) (fun q1 q2 => ?_) x3
  refine Go_ald0 dX11_free_6 ?_
  refine gf10_7 dX11_free_7 flX11_61 ?_
  refine Go_ald0 dX11_free_10 ?_
  refine gf10_0 dX11_free_11 flX11_12 ?_
  refine Go_cVv1 (d' := 4) (bc' := 0) (bs' := 0) rfl dX11_free_14 mvX4_explore rfl lkX11_293 (by first | assumption | rfl) rfl trivial (by decide) (by decide) (by decide) (Nat.le_of_ble_eq_true rfl) ?_
  refine e_X4_explore h.1.1 (fun w1 g1 f1 => ?_)
  have c1 := h.frm f1 (by decide)
  have f9 : frm w w1 ccs := f1.mono (by decide +kernel)
  have n1 := (rg_ok s.1).2
  have c : z1 = 0 ∨ z1 = 1 ∨ z1 = 2 ∨ z1 = 3 := by omega
  rcases c with rfl | rfl | rfl | rfl
  · skip
    refine Go_ild1 dX11_free_17 ?_
    refine Go_tsIn (i := 0) (off := 26) (tgt := 44) dX11_free_18 (by omega) ⟨⟨by decide, by decide⟩, by decide⟩ (by decide) (by decide) ?_
    refine Go_bipush dX11_free_44 (by decide +kernel) ?_
    refine Go_ald0 dX11_free_46 ?_
    refine gf10_0 dX11_free_47 flX11_12 ?_
    refine Go_cV0 (d' := 0) (bc' := 0) (bs' := 0) rfl dX11_free_50 mvX0_takenSites rfl lkX11_296 (by first | assumption | rfl) rfl trivial (by decide) (by decide) (by decide) (Nat.le_of_ble_eq_true rfl) ?_
    refine e_X0_takenSites c1.1.1 ?_
    refine Go_isub dX11_free_53 ?_
    refine Go_ireturn dX11_free_54 rfl (by first | rfl | decide | simp [narrow]) ?_
    exact k _ q1 q2 c1 f9
  · skip
    refine Go_ild1 dX11_free_17 ?_
    refine Go_tsIn (i := 1) (off := 37) (tgt := 55) dX11_free_18 (by omega) ⟨⟨by decide, by decide⟩, by decide⟩ (by decide) (by decide) ?_
    refine Go_ald0 dX11_free_55 ?_
    refine gf10_7 dX11_free_56 flX11_61 ?_
    refine Go_cV0 (d' := 0) (bc' := 0) (bs' := 0) rfl dX11_free_59 mvX4_size rfl lkX11_299 (by first | assumption | rfl) rfl trivial (by decide) (by decide) (by decide) (Nat.le_of_ble_eq_true rfl) ?_
    refine e_X4_size g1 ?_
    refine Go_ireturn dX11_free_62 rfl (by first | rfl | decide | simp [narrow]) ?_
    exact k _ q1 q2 c1 f9
  · skip
    refine Go_ild1 dX11_free_17 ?_
    refine Go_tsIn (i := 2) (off := 45) (tgt := 63) dX11_free_18 (by omega) ⟨⟨by decide, by decide⟩, by decide⟩ (by decide) (by decide) ?_
    refine Go_ald0 dX11_free_63 ?_
    refine gf10_7 dX11_free_64 flX11_61 ?_
    refine Go_cV0 (d' := 1) (bc' := 0) (bs' := 0) rfl dX11_free_67 mvX4_greatest rfl lkX11_300 (by first | assumption | rfl) rfl trivial (by decide) (by decide) (by decide) (Nat.le_of_ble_eq_true rfl) ?_
    refine e_X4_greatest g1 n1 ?_
    refine Go_ireturn dX11_free_70 rfl (by first | rfl | decide | simp [narrow]) ?_
    exact k _ q1 q2 c1 f9
  · skip
    refine Go_ild1 dX11_free_17 ?_
    refine Go_tsOut (tgt := 71) dX11_free_18 (by constructor <;> omega) (by omega) (by decide) ?_
    refine Go_ald0 dX11_free_71 ?_
    refine Go_cV0 (d' := 3) (bc' := 0) (bs' := 0) rfl dX11_free_72 mvX11_regionsAtHeads rfl lkX11_303 (by first | assumption | rfl) rfl trivial (by decide) (by decide) (by decide) (Nat.le_of_ble_eq_true rfl) ?_
    refine e_X11_regionsAtHeads c1 g1 (rg_r s.1) n1 (fun w2 c2 f2 => ?_)
    refine Go_ireturn dX11_free_75 rfl (by first | rfl | decide | simp [narrow]) ?_
    exact k _ q1 q2 c2 (f9.trans f2 (by decide +kernel))
theorem e_X11_ways (h : CI w s sv g tx) (h1 : inR z1) (h2 : inR z2)
    (k : ∀ w' (p n : Nat), z1 = p → p < s.1.length → z2 = n → n ≤ 6 → CI w' s sv g tx → frm w w' ccs → K (vi (wy n (tkB s.1) (hdL (pth s.1 p)))) none w')
    (x1 : ¬ (0 ≤ z1 ∧ z1 < s.1.length) → X 1 none w) (x3 : 0 ≤ z1 → z1 < s.1.length → ¬ (0 ≤ z2 ∧ z2 ≤ 6) → X 3 none w) : Ev G yX11_ways cX11_ways 3 mX11_ways none 16 2 12 [vr 1, vi z1, vi z2] w K X := by
  refine Ev_intro mvX11_ways.1 rfl (fun h => by cases h) (allc1 rfl) (Nat.le_of_ble_eq_true rfl) (Or.inl rfl) ?_
  show Go G cX11_ways mX11_ways none 16 2 12 0 [some (vr 1), some (vi z1), some (vi z2)] [] w K X
  refine Go_ald0 dX11_ways_0 ?_
  refine Go_ild1 dX11_ways_1 ?_
  refine Go_cVv1 (d' := 6) (bc' := 1) (bs' := 6) rfl dX11_ways_2 mvX11_checkPath rfl lkX11_106 (by first | assumption | rfl) rfl trivial (by decide) (by decide) (by decide) (Nat.le_of_ble_eq_true rfl) ?_
  refine e_X11_checkPath h.1.1.1 h1 (fun p e hp => ?_) x1
  refine Go_ild2 dX11_ways_5 ?_
  refine Go_iconst dX11_ways_6 ?_
  refine Go_bipush dX11_ways_7 (by decide +kernel) ?_
  refine Go_cSv3 (d' := 6) (bc' := 1) (bs' := 6) rfl dX11_ways_9 msX11_checkRange rfl lkX11_186 (by decide) (by decide) (by decide) (Nat.le_of_ble_eq_true rfl) ?_
  refine e_X11_checkRange h2 (by constructor <;> omega) (by constructor <;> omega) (fun q1 q2 => ?_) (x3 (by omega) (by omega))
  obtain ⟨n, rfl⟩ := Int.eq_ofNat_of_zero_le q1
  subst e
  refine Go_ald0 dX11_ways_12 ?_
  refine gf10_6 dX11_ways_13 flX11_54 ?_
  refine Go_ald0 dX11_ways_16 ?_
  refine gf10_0 dX11_ways_17 flX11_12 ?_
  refine Go_ild1 dX11_ways_20 ?_
  refine Go_ild2 dX11_ways_21 ?_
  refine Go_cV3 (d' := 15) (bc' := 0) (bs' := 0) rfl dX11_ways_22 mvX6_rowsOfSteps rfl lkX11_306 (by first | assumption | rfl) rfl trivial (by decide) (by decide) (by decide) (Nat.le_of_ble_eq_true rfl) ?_
  refine e_X6_rowsOfSteps h.1.1 h.2.1 hp (by omega) (fun w1 f1 => ?_)
  refine Go_ireturn dX11_ways_25 rfl (by first | rfl | decide | simp [narrow]) ?_
  exact k _ p n rfl hp rfl (by omega) (h.frm f1 (by decide)) (f1.mono (by decide +kernel))
theorem e_X11_bestStep (h : CI w s sv g tx) (h1 : inR z1)
    (k : ∀ w' (p : Nat), z1 = p → p < s.1.length → CI w' s sv g tx → frm w w' ccs → K (vi (bstD s.1 (hdL (pth s.1 p)))) none w')
    (x1 : ¬ (0 ≤ z1 ∧ z1 < s.1.length) → X 1 none w) : Ev G yX11_bestStep cX11_bestStep 2 mX11_bestStep none 15 1 6 [vr 1, vi z1] w K X := by
  refine Ev_intro mvX11_bestStep.1 rfl (fun h => by cases h) (allc1 rfl) (Nat.le_of_ble_eq_true rfl) (Or.inl rfl) ?_
  show Go G cX11_bestStep mX11_bestStep none 15 1 6 0 [some (vr 1), some (vi z1)] [] w K X
  refine Go_ald0 dX11_bestStep_0 ?_
  refine Go_ild1 dX11_bestStep_1 ?_
  refine Go_cVv1 (d' := 6) (bc' := 1) (bs' := 6) rfl dX11_bestStep_2 mvX11_checkPath rfl lkX11_106 (by first | assumption | rfl) rfl trivial (by decide) (by decide) (by decide) (Nat.le_of_ble_eq_true rfl) ?_
  refine e_X11_checkPath h.1.1.1 h1 (fun p e hp => ?_) x1
  subst e
  refine Go_ald0 dX11_bestStep_5 ?_
  refine gf10_6 dX11_bestStep_6 flX11_54 ?_
  refine Go_ald0 dX11_bestStep_9 ?_
  refine gf10_0 dX11_bestStep_10 flX11_12 ?_
  refine Go_ild1 dX11_bestStep_13 ?_
  refine Go_cV2 (d' := 14) (bc' := 0) (bs' := 0) rfl dX11_bestStep_14 mvX6_bestDirection rfl lkX11_310 (by first | assumption | rfl) rfl trivial (by decide) (by decide) (by decide) (Nat.le_of_ble_eq_true rfl) ?_
  refine e_X6_bestDirection h.1.1 h.2.1 hp (fun w1 f1 => ?_)
  refine Go_ireturn dX11_bestStep_17 rfl (by first | rfl | decide | simp [narrow]) ?_
  exact k _ p rfl hp (h.frm f1 (by decide)) (f1.mono (by decide +kernel))
theorem e_X11_reach (h : CI w s sv g tx) (h1 : inR z1)
    (k : ∀ w' (p : Nat), z1 = p → p < s.1.length → CI w' s sv g tx → frm w w' ccs → K (vi (smF (fun i => if bsd (rgR s.1) (hdL (pth s.1 p)) i = true then cntF (rgR s.1) i else 0) (rgN s.1))) none w')
    (x1 : ¬ (0 ≤ z1 ∧ z1 < s.1.length) → X 1 none w) : Ev G yX11_reach cX11_reach 2 mX11_reach none 7 1 6 [vr 1, vi z1] w K X := by
  have h5 : s.1.length ≤ 5 := h.2.1.1
  refine Ev_intro mvX11_reach.1 rfl (fun h => by cases h) (allc1 rfl) (Nat.le_of_ble_eq_true rfl) (Or.inl rfl) ?_
  show Go G cX11_reach mX11_reach none 7 1 6 0 [some (vr 1), some (vi z1)] [] w K X
  refine Go_ald0 dX11_reach_0 ?_
  refine Go_ild1 dX11_reach_1 ?_
  refine Go_cVv1 (d' := 6) (bc' := 1) (bs' := 6) rfl dX11_reach_2 mvX11_checkPath rfl lkX11_106 (by first | assumption | rfl) rfl trivial (by decide) (by decide) (by decide) (Nat.le_of_ble_eq_true rfl) ?_
  refine e_X11_checkPath h.1.1.1 h1 (fun p e hp => ?_) x1
  subst e
  refine Go_ald0 dX11_reach_5 ?_
  refine gf10_7 dX11_reach_6 flX11_61 ?_
  refine Go_ald0 dX11_reach_9 ?_
  refine gf10_0 dX11_reach_10 flX11_12 ?_
  refine Go_cVv1 (d' := 4) (bc' := 0) (bs' := 0) rfl dX11_reach_13 mvX4_explore rfl lkX11_293 (by first | assumption | rfl) rfl trivial (by decide) (by decide) (by decide) (Nat.le_of_ble_eq_true rfl) ?_
  refine e_X4_explore h.1.1 (fun w1 g1 f1 => ?_)
  have c1 := h.frm f1 (by decide)
  have n1 := (rg_ok s.1).2
  have h3 := c1.1.1.1.2.2.1 p (by omega)
  have hts1 := (bts_sh h3.1).1
  have hl := h.2.1.len hp
  have hh : hdL (pth s.1 p) < 100 := (h.2.1.lt p).at _
  refine Go_ald0 dX11_reach_16 ?_
  refine gf10_7 dX11_reach_17 flX11_61 ?_
  refine Go_ald0 dX11_reach_20 ?_
  refine gf10_0 dX11_reach_21 flX11_12 ?_
  refine Go_ild1 dX11_reach_24 ?_
  refine Go_cV1 (d' := 0) (bc' := 0) (bs' := 0) rfl dX11_reach_25 mvX0_trail rfl lkX11_115 (by first | assumption | rfl) rfl trivial (by decide) (by decide) (by decide) (Nat.le_of_ble_eq_true rfl) ?_
  refine e_X0_trail c1.1.1.1 (by omega) ?_
  refine Go_cV0 (d' := 2) (bc' := 0) (bs' := 0) rfl dX11_reach_28 mvX9_head rfl lkX11_156 (by first | assumption | rfl) rfl trivial (by decide) (by decide) (by decide) (Nat.le_of_ble_eq_true rfl) ?_
  refine e_X9_headN (c1.1.1.1.2.2.2.2 p hp) hl.1 ?_
  refine Go_cVv1 (d' := 2) (bc' := 0) (bs' := 0) rfl dX11_reach_31 mvX4_chooseAround rfl lkX11_314 (by first | assumption | rfl) rfl trivial (by decide) (by decide) (by decide) (Nat.le_of_ble_eq_true rfl) ?_
  refine e_X4_chooseAround g1 (rg_r s.1) n1 hh (fun w2 g2 f2 => ?_)
  have c2 := c1.frm f2 (by decide)
  refine Go_ald0 dX11_reach_34 ?_
  refine gf10_7 dX11_reach_35 flX11_61 ?_
  refine Go_cV0 (d' := 0) (bc' := 0) (bs' := 0) rfl dX11_reach_38 mvX4_chosenSites rfl lkX11_317 (by first | assumption | rfl) rfl trivial (by decide) (by decide) (by decide) (Nat.le_of_ble_eq_true rfl) ?_
  refine e_X4_chosenSites g2 n1 ?_
  refine Go_ireturn dX11_reach_41 rfl (by first | rfl | decide | simp [narrow]) ?_
  exact k _ p rfl hp c2 ((f1.mono (by decide +kernel)).trans f2 (by decide +kernel))
theorem e_X11_ifTurned (h : CI w s sv g tx) (h1 : inR z1) (h2 : inR z2) (h3 : inR z3)
    (k : ∀ w' (p j q : Nat), z1 = p → p < s.1.length → z2 = j → j < (pth s.1 p).length → z3 = q → 1 ≤ q → q ≤ 3 → CI w' s sv g tx → frm w w' ccs → K (vi (whyT s.1 p j q)) none w')
    (x1 : (∀ p j : Nat, z1 = p → p < s.1.length → z2 = j → ¬ j < (pth s.1 p).length) → X 1 none w) (x3 : ∀ p j : Nat, z1 = p → p < s.1.length → z2 = j → j < (pth s.1 p).length → ¬ (1 ≤ z3 ∧ z3 ≤ 3) → X 3 none w) : Ev G yX11_ifTurned cX11_ifTurned 4 mX11_ifTurned none 8 3 18 [vr 1, vi z1, vi z2, vi z3] w K X := by
  refine Ev_intro mvX11_ifTurned.1 rfl (fun h => by cases h) (allc1 rfl) (Nat.le_of_ble_eq_true rfl) (Or.inl rfl) ?_
  show Go G cX11_ifTurned mX11_ifTurned none 8 3 18 0 [some (vr 1), some (vi z1), some (vi z2), some (vi z3)] [] w K X
  refine Go_ald0 dX11_ifTurned_0 ?_
  refine Go_ild1 dX11_ifTurned_1 ?_
  refine Go_ild2 dX11_ifTurned_2 ?_
  refine Go_cVv2 (d' := 7) (bc' := 2) (bs' := 12) rfl dX11_ifTurned_3 mvX11_checkPlace rfl lkX11_132 (by first | assumption | rfl) rfl trivial (by decide) (by decide) (by decide) (Nat.le_of_ble_eq_true rfl) ?_
  refine e_X11_checkPlace h.1.1.1 h1 h2 (fun p j e hp e2 hj => ?_) x1
  refine Go_ild3 dX11_ifTurned_6 ?_
  refine Go_cSv1 (d' := 7) (bc' := 1) (bs' := 6) rfl dX11_ifTurned_7 msX11_checkQuarters rfl lkX11_136 (by decide) (by decide) (by decide) (Nat.le_of_ble_eq_true rfl) ?_
  refine e_X11_checkQuarters h3 (fun q e3 q1 q3 => ?_) (x3 p j e hp e2 hj)
  subst e e2 e3
  refine Go_ald0 dX11_ifTurned_10 ?_
  refine gf10_5 dX11_ifTurned_11 flX11_47 ?_
  refine Go_ald0 dX11_ifTurned_14 ?_
  refine gf10_0 dX11_ifTurned_15 flX11_12 ?_
  refine Go_ild1 dX11_ifTurned_18 ?_
  refine Go_ild2 dX11_ifTurned_19 ?_
  refine Go_ild3 dX11_ifTurned_20 ?_
  refine Go_cV4 (d' := 3) (bc' := 0) (bs' := 0) rfl dX11_ifTurned_21 mvX10_refusal rfl lkX11_139 (by first | assumption | rfl) rfl trivial (by decide) (by decide) (by decide) (Nat.le_of_ble_eq_true rfl) ?_
  refine e_X10_refusal h.1.1 h.2.1 hp hj q3 (fun w2 l2 f2 => ?_)
  refine Go_ireturn dX11_ifTurned_24 rfl (by first | rfl | decide | simp [narrow]) ?_
  exact k _ p j q rfl hp rfl hj rfl q1 q3 (h.frm f2 (by decide)) (f2.mono (by decide +kernel))
theorem e_X11_turnable (h : CI w s sv g tx) (h1 : inR z1)
    (k : ∀ w' (p : Nat), z1 = p → p < s.1.length → CI w' s sv g tx → frm w w' ccs → K (vi (smF (fun pl => smF (fun q => if whyT s.1 p pl (q + 1) = 0 then 1 else 0) 3) ((pth s.1 p).length - 1))) none w')
    (x1 : ¬ (0 ≤ z1 ∧ z1 < s.1.length) → X 1 none w) : Ev G yX11_turnable cX11_turnable 2 mX11_turnable none 7 1 6 [vr 1, vi z1] w K X := by
  refine Ev_intro mvX11_turnable.1 rfl (fun h => by cases h) (allc1 rfl) (Nat.le_of_ble_eq_true rfl) (Or.inl rfl) ?_
  show Go G cX11_turnable mX11_turnable none 7 1 6 0 [some (vr 1), some (vi z1)] [] w K X
  refine Go_ald0 dX11_turnable_0 ?_
  refine Go_ild1 dX11_turnable_1 ?_
  refine Go_cVv1 (d' := 6) (bc' := 1) (bs' := 6) rfl dX11_turnable_2 mvX11_checkPath rfl lkX11_106 (by first | assumption | rfl) rfl trivial (by decide) (by decide) (by decide) (Nat.le_of_ble_eq_true rfl) ?_
  refine e_X11_checkPath h.1.1.1 h1 (fun p e hp => ?_) x1
  subst e
  refine Go_ald0 dX11_turnable_5 ?_
  refine gf10_5 dX11_turnable_6 flX11_47 ?_
  refine Go_ald0 dX11_turnable_9 ?_
  refine gf10_0 dX11_turnable_10 flX11_12 ?_
  refine Go_ild1 dX11_turnable_13 ?_
  refine Go_cV2 (d' := 4) (bc' := 0) (bs' := 0) rfl dX11_turnable_14 mvX10_possibleTurns rfl lkX11_320 (by first | assumption | rfl) rfl trivial (by decide) (by decide) (by decide) (Nat.le_of_ble_eq_true rfl) ?_
  refine e_X10_possibleTurns h.1.1 h.2.1 hp (fun w1 f1 => ?_)
  refine Go_ireturn dX11_turnable_17 rfl (by first | rfl | decide | simp [narrow]) ?_
  exact k _ p rfl hp (h.frm f1 (by decide)) (f1.mono (by decide +kernel))
def cntA (s : Sta) (sv : List Sta) (tx : List Nat) (z : Int) : Int :=
  if z = 0 then (s.1.length : Int) else if z = 1 then (tot s.1 : Int) else if z = 2 then s.2.1 else if z = 3 then s.2.2.1 else if z = 4 then s.2.2.2 else if z = 5 then (sv.length : Int) else (tx.length : Int)
theorem e_X11_count (h : CI w s sv g tx) (h1 : inR z1)
    (k : 0 ≤ z1 → z1 ≤ 6 → K (vi (cntA s sv tx z1)) none w)
    (x3 : ¬ (0 ≤ z1 ∧ z1 ≤ 6) → X 3 none w) : Ev G yX11_count cX11_count 2 mX11_count none 7 1 6 [vr 1, vi z1] w K X := by
  refine Ev_intro mvX11_count.1 rfl (fun h => by cases h) (allc1 rfl) (Nat.le_of_ble_eq_true rfl) (Or.inl rfl) ?_
  show Go G cX11_count mX11_count none 7 1 6 0 [some (vr 1), some (vi z1)] [] w K X
  refine Go_ild1 dX11_count_0 ?_
  refine Go_iconst dX11_count_1 ?_
  refine Go_bipush dX11_count_2 (by decide +kernel) ?_
  refine Go_cSv3 (d' := 6) (bc' := 1) (bs' := 6) rfl dX11_count_4 msX11_checkRange rfl lkX11_186 (by decide) (by decide) (by decide) (Nat.le_of_ble_eq_true rfl) ?_
  refine e_X11_checkRange h1 (by constructor <;> omega) (by constructor <;> omega) (fun q1 q2 => ?_) x3
  have c : z1 = 0 ∨ z1 = 1 ∨ z1 = 2 ∨ z1 = 3 ∨ z1 = 4 ∨ z1 = 5 ∨ z1 = 6 := by omega
  have k := k q1 q2
  rcases c with rfl | rfl | rfl | rfl | rfl | rfl | rfl
  · skip
    refine Go_ild1 dX11_count_7 ?_
    refine Go_tsIn (i := 0) (off := 40) (tgt := 48) dX11_count_8 (by omega) ⟨⟨by decide, by decide⟩, by decide⟩ (by decide) (by decide) ?_
    refine Go_ald0 dX11_count_48 ?_
    refine gf10_0 dX11_count_49 flX11_12 ?_
    refine Go_cV0 (d' := 0) (bc' := 0) (bs' := 0) rfl dX11_count_52 mvX0_pathCount rfl lkX11_183 (by first | assumption | rfl) rfl trivial (by decide) (by decide) (by decide) (Nat.le_of_ble_eq_true rfl) ?_
    refine e_X0_pathCount h.1.1.1 ?_
    refine Go_ireturn dX11_count_55 rfl (by first | rfl | decide | simp [narrow]) ?_
    exact k
  · skip
    refine Go_ild1 dX11_count_7 ?_
    refine Go_tsIn (i := 1) (off := 48) (tgt := 56) dX11_count_8 (by omega) ⟨⟨by decide, by decide⟩, by decide⟩ (by decide) (by decide) ?_
    refine Go_ald0 dX11_count_56 ?_
    refine gf10_0 dX11_count_57 flX11_12 ?_
    refine Go_cV0 (d' := 0) (bc' := 0) (bs' := 0) rfl dX11_count_60 mvX0_takenSites rfl lkX11_296 (by first | assumption | rfl) rfl trivial (by decide) (by decide) (by decide) (Nat.le_of_ble_eq_true rfl) ?_
    refine e_X0_takenSites h.1.1 ?_
    refine Go_ireturn dX11_count_63 rfl (by first | rfl | decide | simp [narrow]) ?_
    exact k
  · skip
    refine Go_ild1 dX11_count_7 ?_
    refine Go_tsIn (i := 2) (off := 56) (tgt := 64) dX11_count_8 (by omega) ⟨⟨by decide, by decide⟩, by decide⟩ (by decide) (by decide) ?_
    refine Go_ald0 dX11_count_64 ?_
    refine gf10_0 dX11_count_65 flX11_12 ?_
    refine Go_cV0 (d' := 0) (bc' := 0) (bs' := 0) rfl dX11_count_68 mvX0_stepsMade rfl lkX11_323 (by first | assumption | rfl) rfl trivial (by decide) (by decide) (by decide) (Nat.le_of_ble_eq_true rfl) ?_
    refine e_X0_stepsMade h.1 ?_
    refine Go_ireturn dX11_count_71 rfl (by first | rfl | decide | simp [narrow]) ?_
    exact k
  · skip
    refine Go_ild1 dX11_count_7 ?_
    refine Go_tsIn (i := 3) (off := 64) (tgt := 72) dX11_count_8 (by omega) ⟨⟨by decide, by decide⟩, by decide⟩ (by decide) (by decide) ?_
    refine Go_ald0 dX11_count_72 ?_
    refine gf10_0 dX11_count_73 flX11_12 ?_
    refine Go_cV0 (d' := 0) (bc' := 0) (bs' := 0) rfl dX11_count_76 mvX0_refusals rfl lkX11_326 (by first | assumption | rfl) rfl trivial (by decide) (by decide) (by decide) (Nat.le_of_ble_eq_true rfl) ?_
    refine e_X0_refusals h.1 ?_
    refine Go_ireturn dX11_count_79 rfl (by first | rfl | decide | simp [narrow]) ?_
    exact k
  · skip
    refine Go_ild1 dX11_count_7 ?_
    refine Go_tsIn (i := 4) (off := 72) (tgt := 80) dX11_count_8 (by omega) ⟨⟨by decide, by decide⟩, by decide⟩ (by decide) (by decide) ?_
    refine Go_ald0 dX11_count_80 ?_
    refine gf10_0 dX11_count_81 flX11_12 ?_
    refine Go_cV0 (d' := 0) (bc' := 0) (bs' := 0) rfl dX11_count_84 mvX0_turnsMade rfl lkX11_329 (by first | assumption | rfl) rfl trivial (by decide) (by decide) (by decide) (Nat.le_of_ble_eq_true rfl) ?_
    refine e_X0_turnsMade h.1 ?_
    refine Go_ireturn dX11_count_87 rfl (by first | rfl | decide | simp [narrow]) ?_
    exact k
  · skip
    refine Go_ild1 dX11_count_7 ?_
    refine Go_tsIn (i := 5) (off := 80) (tgt := 88) dX11_count_8 (by omega) ⟨⟨by decide, by decide⟩, by decide⟩ (by decide) (by decide) ?_
    refine Go_ald0 dX11_count_88 ?_
    refine gf10_1 dX11_count_89 flX11_19 ?_
    refine Go_cV0 (d' := 0) (bc' := 0) (bs' := 0) rfl dX11_count_92 mvX1_size rfl lkX11_221 (by first | assumption | rfl) rfl trivial (by decide) (by decide) (by decide) (Nat.le_of_ble_eq_true rfl) ?_
    refine e_X1_size h.2.2.1 ?_
    refine Go_ireturn dX11_count_95 rfl (by first | rfl | decide | simp [narrow]) ?_
    exact k
  · skip
    refine Go_ild1 dX11_count_7 ?_
    refine Go_tsOut (tgt := 96) dX11_count_8 (by constructor <;> omega) (by omega) (by decide) ?_
    refine Go_ald0 dX11_count_96 ?_
    refine gf10_3 dX11_count_97 flX11_33 ?_
    refine Go_cV0 (d' := 0) (bc' := 0) (bs' := 0) rfl dX11_count_100 mvX3_length rfl lkX11_196 (by first | assumption | rfl) rfl trivial (by decide) (by decide) (by decide) (Nat.le_of_ble_eq_true rfl) ?_
    refine e_X3_length h.2.2.2.2 ?_
    refine Go_ireturn dX11_count_103 rfl (by first | rfl | decide | simp [narrow]) ?_
    exact k
end Api3
