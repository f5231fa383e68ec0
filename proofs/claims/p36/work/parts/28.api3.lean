section Api3
variable {G : Gm} {w : Wd} {K : Kt} {X : Xt} {s : Sta} {sv : List Sta} {g : Nat → Option Sta} {tx : List Nat} {z z1 z2 z3 : Int}
theorem e_X11_site (h : CI w s sv g tx) (h1 : inR z1) (h2 : inR z2) (h3 : inR z3)
    (k : ∀ x : Nat, numI z1 z2 = x → x < 100 → 0 ≤ z3 → z3 ≤ 2 → K (vi (if z3 = 0 then ow s.1 x else if z3 = 1 then plc s.1 x else (frD s.1 x : Int))) none w)
    (x1 : numI z1 z2 = -1 → X 1 none w) (x3 : numI z1 z2 ≠ -1 → ¬ (0 ≤ z3 ∧ z3 ≤ 2) → X 3 none w) : Ev G yX11_site cX11_site 5 mX11_site none 7 2 12 [vr 1, vi z1, vi z2, vi z3] w K X := by
  have h5 : s.1.length ≤ 5 := h.2.1.1
  refine Ev_intro mvX11_site.1 rfl (fun h => by cases h) (allc1 rfl) (Nat.le_of_ble_eq_true rfl) (Or.inl rfl) ?_
  show Go G cX11_site mX11_site none 7 2 12 0 [some (vr 1), some (vi z1), some (vi z2), some (vi z3), none] [] w K X
  refine Go_ild1 dX11_site_0 ?_
  refine Go_ild2 dX11_site_1 ?_
  refine Go_cS2 (d' := 6) (bc' := 1) (bs' := 6) rfl dX11_site_2 msX11_checkedSite rfl lkX11_75 (by decide) (by decide) (by decide) (Nat.le_of_ble_eq_true rfl) ?_
  refine e_X11_checkedSite h1 h2 (fun x ex hx => ?_) x1
  refine Go_ist4 dX11_site_5 rfl ?_
  refine Go_ild3 dX11_site_7 ?_
  refine Go_iconst dX11_site_8 ?_
  refine Go_iconst dX11_site_9 ?_
  refine Go_cSv3 (d' := 6) (bc' := 1) (bs' := 6) rfl dX11_site_10 msX11_checkRange rfl lkX11_186 (by decide) (by decide) (by decide) (Nat.le_of_ble_eq_true rfl) ?_
  refine e_X11_checkRange h3 (by constructor <;> omega) (by constructor <;> omega) (fun q1 q2 => ?_) (x3 (by omega))
  have c : z3 = 0 ∨ z3 = 1 ∨ z3 = 2 := by omega
  have k := k x ex hx q1 q2
  rcases c with rfl | rfl | rfl
  · skip
    refine Go_ild3 dX11_site_13 ?_
    refine Go_lks (z := 0) (off := 26) (tgt := 40) dX11_site_14 ⟨by decide, by decide⟩ (by decide) (by decide) (by decide) ?_
    refine Go_ald0 dX11_site_40 ?_
    refine gf10_0 dX11_site_41 flX11_12 ?_
    refine Go_ild4 dX11_site_44 ?_
    refine Go_cV1 (d' := 1) (bc' := 0) (bs' := 0) rfl dX11_site_46 mvX0_pathAt rfl lkX11_242 (by first | assumption | rfl) rfl trivial (by decide) (by decide) (by decide) (Nat.le_of_ble_eq_true rfl) ?_
    refine e_X0_pathAt h.1.1.2.1 (by constructor <;> omega) ?_
    refine Go_ireturn dX11_site_49 rfl (by first | rfl | decide | exact nar_b | simp [narrow]) ?_
    refine kI ?_ k
    unfold owI; rw [if_pos (by omega), if_pos rfl, Int.toNat_natCast]
  · skip
    refine Go_ild3 dX11_site_13 ?_
    refine Go_lks (z := 1) (off := 36) (tgt := 50) dX11_site_14 ⟨by decide, by decide⟩ (by decide) (by decide) (by decide) ?_
    refine Go_ald0 dX11_site_50 ?_
    refine gf10_0 dX11_site_51 flX11_12 ?_
    refine Go_ild4 dX11_site_54 ?_
    refine Go_cV1 (d' := 1) (bc' := 0) (bs' := 0) rfl dX11_site_56 mvX0_placeAt rfl lkX11_245 (by first | assumption | rfl) rfl trivial (by decide) (by decide) (by decide) (Nat.le_of_ble_eq_true rfl) ?_
    refine e_X0_placeAt h.1.1.2.1 (by constructor <;> omega) ?_
    refine Go_ireturn dX11_site_59 rfl (by first | rfl | decide | exact nar_b | simp [narrow]) ?_
    refine kI ?_ k
    unfold plI; rw [if_pos (by omega), if_neg (by decide), if_pos rfl, Int.toNat_natCast]
  · skip
    refine Go_ild3 dX11_site_13 ?_
    refine Go_lks (z := 2) (off := 46) (tgt := 60) dX11_site_14 ⟨by decide, by decide⟩ (by decide) (by decide) (by decide) ?_
    refine Go_ald0 dX11_site_60 ?_
    refine gf10_0 dX11_site_61 flX11_12 ?_
    refine Go_ild4 dX11_site_64 ?_
    refine Go_cV1 (d' := 2) (bc' := 0) (bs' := 0) rfl dX11_site_66 mvX0_freeDirections rfl lkX11_248 (by first | assumption | rfl) rfl trivial (by decide) (by decide) (by decide) (Nat.le_of_ble_eq_true rfl) ?_
    refine e_X0_freeDirections h.1.1.2.1 h5 hx ?_
    refine Go_ireturn dX11_site_69 rfl (by first | rfl | decide | exact nar_b | simp [narrow]) ?_
    refine kI ?_ k
    rw [if_neg (by decide), if_neg (by decide)]
theorem e_X11_place (h : CI w s sv g tx) (h1 : inR z1) (h2 : inR z2)
    (k : ∀ p : Nat, z1 = p → p < s.1.length → K (vi (atI (pth s.1 p) z2)) none w)
    (x1 : ¬ (0 ≤ z1 ∧ z1 < s.1.length) → X 1 none w) : Ev G yX11_place cX11_place 3 mX11_place none 7 1 6 [vr 1, vi z1, vi z2] w K X := by
  have h5 : s.1.length ≤ 5 := h.2.1.1
  refine Ev_intro mvX11_place.1 rfl (fun h => by cases h) (allc1 rfl) (Nat.le_of_ble_eq_true rfl) (Or.inl rfl) ?_
  show Go G cX11_place mX11_place none 7 1 6 0 [some (vr 1), some (vi z1), some (vi z2)] [] w K X
  refine Go_ald0 dX11_place_0 ?_
  refine Go_ild1 dX11_place_1 ?_
  refine Go_cVv1 (d' := 6) (bc' := 1) (bs' := 6) rfl dX11_place_2 mvX11_checkPath rfl lkX11_106 (by first | assumption | rfl) rfl trivial (by decide) (by decide) (by decide) (Nat.le_of_ble_eq_true rfl) ?_
  refine e_X11_checkPath h.1.1.1 h1 (fun p e hp => ?_) x1
  subst e
  have h3 := h.1.1.1.2.2.1 p (by omega)
  have hts1 := (bts_sh h3.1).1
  refine Go_ald0 dX11_place_5 ?_
  refine gf10_0 dX11_place_6 flX11_12 ?_
  refine Go_ild1 dX11_place_9 ?_
  refine Go_cV1 (d' := 0) (bc' := 0) (bs' := 0) rfl dX11_place_10 mvX0_trail rfl lkX11_115 (by first | assumption | rfl) rfl trivial (by decide) (by decide) (by decide) (Nat.le_of_ble_eq_true rfl) ?_
  refine e_X0_trail h.1.1.1 (by omega) ?_
  refine Go_ild2 dX11_place_13 ?_
  refine Go_cV1 (d' := 1) (bc' := 0) (bs' := 0) rfl dX11_place_14 mvX9_at rfl lkX11_251 (by first | assumption | rfl) rfl trivial (by decide) (by decide) (by decide) (Nat.le_of_ble_eq_true rfl) ?_
  refine e_X9_at (h.1.1.1.2.2.2.2 p hp) h2 ?_
  refine Go_ireturn dX11_place_17 rfl (by first | rfl | decide | exact nar_b | simp [narrow]) ?_
  exact k p rfl hp
/-- the nine tellings of a path -/
def pthA (ps : List (List Nat)) (p : Nat) (z : Int) : Int :=
  if z = 0 then ((pth ps p).length : Int) else if z = 1 then cornL (pth ps p) else if z = 2 then cnC ps p
  else if z = 3 then widL (colJ (pth ps p)) (pth ps p).length else if z = 4 then widL (rowJ (pth ps p)) (pth ps p).length
  else if z = 5 then sqD ((pth ps p).getD 0 0) (hdL (pth ps p)) else if z = 6 then (frD ps (hdL (pth ps p)) : Int)
  else if z = 7 then momL (pth ps p) else fbC ps p
theorem e_X11_path (h : CI w s sv g tx) (h1 : inR z1) (h2 : inR z2)
    (k : ∀ p : Nat, z1 = p → p < s.1.length → 0 ≤ z2 → z2 ≤ 8 → K (vi (pthA s.1 p z2)) none w)
    (x1 : ¬ (0 ≤ z1 ∧ z1 < s.1.length) → X 1 none w) (x3 : 0 ≤ z1 → z1 < s.1.length → ¬ (0 ≤ z2 ∧ z2 ≤ 8) → X 3 none w) : Ev G yX11_path cX11_path 4 mX11_path none 7 2 12 [vr 1, vi z1, vi z2] w K X := by
  have h5 : s.1.length ≤ 5 := h.2.1.1
  refine Ev_intro mvX11_path.1 rfl (fun h => by cases h) (allc1 rfl) (Nat.le_of_ble_eq_true rfl) (Or.inl rfl) ?_
  show Go G cX11_path mX11_path none 7 2 12 0 [some (vr 1), some (vi z1), some (vi z2), none] [] w K X
  refine Go_ald0 dX11_path_0 ?_
  refine Go_ild1 dX11_path_1 ?_
  refine Go_cVv1 (d' := 6) (bc' := 1) (bs' := 6) rfl dX11_path_2 mvX11_checkPath rfl lkX11_106 (by first | assumption | rfl) rfl trivial (by decide) (by decide) (by decide) (Nat.le_of_ble_eq_true rfl) ?_
  refine e_X11_checkPath h.1.1.1 h1 (fun p e hp => ?_) x1
  refine Go_ild2 dX11_path_5 ?_
  refine Go_iconst dX11_path_6 ?_
  refine Go_bipush dX11_path_7 (by decide +kernel) ?_
  refine Go_cSv3 (d' := 6) (bc' := 1) (bs' := 6) rfl dX11_path_9 msX11_checkRange rfl lkX11_186 (by decide) (by decide) (by decide) (Nat.le_of_ble_eq_true rfl) ?_
  refine e_X11_checkRange h2 (by constructor <;> omega) (by constructor <;> omega) (fun q1 q2 => ?_) (x3 (by omega) (by omega))
  subst e
  have h3 := h.1.1.1.2.2.1 p (by omega)
  have hts1 := (bts_sh h3.1).1
  have hT := h.1.1.1.2.2.2.2 p hp
  have hl := h.2.1.len hp
  have hx := h.2.1.lt p
  have hh : hdL (pth s.1 p) < 100 := hx.at _
  have hz : (pth s.1 p).getD 0 0 < 100 := hx.at 0
  refine Go_ald0 dX11_path_12 ?_
  refine gf10_0 dX11_path_13 flX11_12 ?_
  refine Go_ild1 dX11_path_16 ?_
  refine Go_cV1 (d' := 0) (bc' := 0) (bs' := 0) rfl dX11_path_17 mvX0_trail rfl lkX11_115 (by first | assumption | rfl) rfl trivial (by decide) (by decide) (by decide) (Nat.le_of_ble_eq_true rfl) ?_
  refine e_X0_trail h.1.1.1 (by omega) ?_
  refine Go_ast3 dX11_path_20 rfl ?_
  have c : z2 = 0 ∨ z2 = 1 ∨ z2 = 2 ∨ z2 = 3 ∨ z2 = 4 ∨ z2 = 5 ∨ z2 = 6 ∨ z2 = 7 ∨ z2 = 8 := by omega
  have k := k p rfl hp q1 q2
  rcases c with rfl | rfl | rfl | rfl | rfl | rfl | rfl | rfl | rfl
  · skip
    refine Go_ild2 dX11_path_21 ?_
    refine Go_tsIn (i := 0) (off := 46) (tgt := 68) dX11_path_22 (by omega) ⟨⟨by decide, by decide⟩, by decide⟩ (by decide) (by decide) ?_
    refine Go_ald3 dX11_path_68 ?_
    refine Go_cV0 (d' := 0) (bc' := 0) (bs' := 0) rfl dX11_path_69 mvX9_length rfl lkX11_119 (by first | assumption | rfl) rfl trivial (by decide) (by decide) (by decide) (Nat.le_of_ble_eq_true rfl) ?_
    refine e_X9_length hT ?_
    refine Go_ireturn dX11_path_72 rfl (by first | rfl | decide | exact nar_b | simp [narrow]) ?_
    exact k
  · skip
    refine Go_ild2 dX11_path_21 ?_
    refine Go_tsIn (i := 1) (off := 51) (tgt := 73) dX11_path_22 (by omega) ⟨⟨by decide, by decide⟩, by decide⟩ (by decide) (by decide) ?_
    refine Go_ald3 dX11_path_73 ?_
    refine Go_cV0 (d' := 4) (bc' := 0) (bs' := 0) rfl dX11_path_74 mvX9_corners rfl lkX11_254 (by first | assumption | rfl) rfl trivial (by decide) (by decide) (by decide) (Nat.le_of_ble_eq_true rfl) ?_
    refine e_X9_corners hT hx hl.1 ?_
    refine Go_ireturn dX11_path_77 rfl (by first | rfl | decide | exact nar_b | simp [narrow]) ?_
    exact k
  · skip
    refine Go_ild2 dX11_path_21 ?_
    refine Go_tsIn (i := 2) (off := 56) (tgt := 78) dX11_path_22 (by omega) ⟨⟨by decide, by decide⟩, by decide⟩ (by decide) (by decide) ?_
    refine Go_ald0 dX11_path_78 ?_
    refine gf10_0 dX11_path_79 flX11_12 ?_
    refine Go_ild1 dX11_path_82 ?_
    refine Go_cV1 (d' := 2) (bc' := 0) (bs' := 0) rfl dX11_path_83 mvX0_contacts rfl lkX11_257 (by first | assumption | rfl) rfl trivial (by decide) (by decide) (by decide) (Nat.le_of_ble_eq_true rfl) ?_
    refine e_X0_contacts h.1.1 h.2.1 hp ?_
    refine Go_ireturn dX11_path_86 rfl (by first | rfl | decide | exact nar_b | simp [narrow]) ?_
    exact k
  · skip
    refine Go_ild2 dX11_path_21 ?_
    refine Go_tsIn (i := 3) (off := 65) (tgt := 87) dX11_path_22 (by omega) ⟨⟨by decide, by decide⟩, by decide⟩ (by decide) (by decide) ?_
    refine Go_ald3 dX11_path_87 ?_
    refine Go_cV0 (d' := 1) (bc' := 0) (bs' := 0) rfl dX11_path_88 mvX9_width rfl lkX11_260 (by first | assumption | rfl) rfl trivial (by decide) (by decide) (by decide) (Nat.le_of_ble_eq_true rfl) ?_
    refine e_X9_width hT hx ?_
    refine Go_ireturn dX11_path_91 rfl (by first | rfl | decide | exact nar_b | simp [narrow]) ?_
    exact k
  · skip
    refine Go_ild2 dX11_path_21 ?_
    refine Go_tsIn (i := 4) (off := 70) (tgt := 92) dX11_path_22 (by omega) ⟨⟨by decide, by decide⟩, by decide⟩ (by decide) (by decide) ?_
    refine Go_ald3 dX11_path_92 ?_
    refine Go_cV0 (d' := 1) (bc' := 0) (bs' := 0) rfl dX11_path_93 mvX9_height rfl lkX11_263 (by first | assumption | rfl) rfl trivial (by decide) (by decide) (by decide) (Nat.le_of_ble_eq_true rfl) ?_
    refine e_X9_height hT hx ?_
    refine Go_ireturn dX11_path_96 rfl (by first | rfl | decide | exact nar_b | simp [narrow]) ?_
    exact k
  · skip
    refine Go_ild2 dX11_path_21 ?_
    refine Go_tsIn (i := 5) (off := 75) (tgt := 97) dX11_path_22 (by omega) ⟨⟨by decide, by decide⟩, by decide⟩ (by decide) (by decide) ?_
    refine Go_ald3 dX11_path_97 ?_
    refine Go_cV0 (d' := 2) (bc' := 0) (bs' := 0) rfl dX11_path_98 mvX9_tail rfl lkX11_266 (by first | assumption | rfl) rfl trivial (by decide) (by decide) (by decide) (Nat.le_of_ble_eq_true rfl) ?_
    refine e_X9_tailN hT hl.1 ?_
    refine Go_ald3 dX11_path_101 ?_
    refine Go_cV0 (d' := 2) (bc' := 0) (bs' := 0) rfl dX11_path_102 mvX9_head rfl lkX11_156 (by first | assumption | rfl) rfl trivial (by decide) (by decide) (by decide) (Nat.le_of_ble_eq_true rfl) ?_
    refine e_X9_headN hT hl.1 ?_
    refine Go_cS2 (d' := 1) (bc' := 0) (bs' := 0) rfl dX11_path_105 msX2_squaredDistance rfl lkX11_269 (by decide) (by decide) (by decide) (Nat.le_of_ble_eq_true rfl) ?_
    refine e_X2_squaredDistance (by omega) (by omega) (by omega) (by omega) ?_
    refine Go_ireturn dX11_path_108 rfl (by first | rfl | decide | exact nar_b | simp [narrow]) ?_
    exact k
  · skip
    refine Go_ild2 dX11_path_21 ?_
    refine Go_tsIn (i := 6) (off := 87) (tgt := 109) dX11_path_22 (by omega) ⟨⟨by decide, by decide⟩, by decide⟩ (by decide) (by decide) ?_
    refine Go_ald0 dX11_path_109 ?_
    refine gf10_0 dX11_path_110 flX11_12 ?_
    refine Go_ald3 dX11_path_113 ?_
    refine Go_cV0 (d' := 2) (bc' := 0) (bs' := 0) rfl dX11_path_114 mvX9_head rfl lkX11_156 (by first | assumption | rfl) rfl trivial (by decide) (by decide) (by decide) (Nat.le_of_ble_eq_true rfl) ?_
    refine e_X9_headN hT hl.1 ?_
    refine Go_cV1 (d' := 2) (bc' := 0) (bs' := 0) rfl dX11_path_117 mvX0_freeDirections rfl lkX11_248 (by first | assumption | rfl) rfl trivial (by decide) (by decide) (by decide) (Nat.le_of_ble_eq_true rfl) ?_
    refine e_X0_freeDirections h.1.1.2.1 h5 hh ?_
    refine Go_ireturn dX11_path_120 rfl (by first | rfl | decide | exact nar_b | simp [narrow]) ?_
    exact k
  · skip
    refine Go_ild2 dX11_path_21 ?_
    refine Go_tsIn (i := 7) (off := 99) (tgt := 121) dX11_path_22 (by omega) ⟨⟨by decide, by decide⟩, by decide⟩ (by decide) (by decide) ?_
    refine Go_ald3 dX11_path_121 ?_
    refine Go_cV0 (d' := 1) (bc' := 0) (bs' := 0) rfl dX11_path_122 mvX9_moment rfl lkX11_272 (by first | assumption | rfl) rfl trivial (by decide) (by decide) (by decide) (Nat.le_of_ble_eq_true rfl) ?_
    refine e_X9_moment hT hx ?_
    refine Go_ireturn dX11_path_125 rfl (by first | rfl | decide | exact nar_b | simp [narrow]) ?_
    exact k
  · skip
    refine Go_ild2 dX11_path_21 ?_
    refine Go_tsOut (tgt := 126) dX11_path_22 (by constructor <;> omega) (by omega) (by decide) ?_
    refine Go_ald0 dX11_path_126 ?_
    refine gf10_0 dX11_path_127 flX11_12 ?_
    refine Go_ild1 dX11_path_130 ?_
    refine Go_cV1 (d' := 3) (bc' := 0) (bs' := 0) rfl dX11_path_131 mvX0_freeBorder rfl lkX11_275 (by first | assumption | rfl) rfl trivial (by decide) (by decide) (by decide) (Nat.le_of_ble_eq_true rfl) ?_
    refine e_X0_freeBorder h.1.1.2.1 h5 (by omega) ?_
    refine Go_ireturn dX11_path_134 rfl (by first | rfl | decide | exact nar_b | simp [narrow]) ?_
    exact k
/-- the paths whose heads are trapped -/
def trpF (ps : List (List Nat)) (p : Nat) : Nat := if frD ps (hdL (pth ps p)) = 0 then 2 ^ p else 0
theorem orF_lt {f : Nat → Nat} {n m : Nat} (h : ∀ i, i < n → f i < 2 ^ m) : orF f n < 2 ^ m := by
  induction n with
  | zero => exact Nat.two_pow_pos m
  | succ n ih => exact Nat.or_lt_two_pow (ih (fun i hi => h i (by omega))) (h n (by omega))
theorem frD_lt (ps : List (List Nat)) (s : Nat) : frD ps s < 16 := orF_lt (m := 4) (fun i hi => by
  have := frDF_le ps s i
  have key : ∀ i, i < 4 → 2 ^ i < 2 ^ 4 := by decide
  have := key i hi
  omega)
theorem e_X11_trapped (h : CI w s sv g tx) (k : K (vi (orF (trpF s.1) s.1.length)) none w) : Ev G yX11_trapped cX11_trapped 3 mX11_trapped none 3 0 0 [vr 1] w K X := by
  have h5 : s.1.length ≤ 5 := h.2.1.1
  refine Ev_intro mvX11_trapped.1 rfl (fun h => by cases h) (allc1 rfl) (Nat.le_of_ble_eq_true rfl) (Or.inl rfl) ?_
  show Go G cX11_trapped mX11_trapped none 3 0 0 0 [some (vr 1), none, none] [] w K X
  refine Go_iconst dX11_trapped_0 ?_
  refine Go_ist1 dX11_trapped_1 rfl ?_
  refine Go_iconst dX11_trapped_2 ?_
  refine Go_ist2 dX11_trapped_3 rfl ?_
  refine Go_upTo (n := s.1.length) (L := fun i => [some (vr 1), some (vi ((orF (trpF s.1) i : Nat) : Int)), some (vi (i : Int))]) (P := fun i v => v = w) (by repeat' (first | exact Or.inl rfl | exact Or.inr rfl | exact Or.inr (lcg (by omega)) | exact trivial | constructor)) (rfl) (fun i v hi hP kn => ?_) (fun v hP => ?_)
  · try dsimp only at hP kn
    try dsimp only
    subst hP
    have h3 := h.1.1.1.2.2.1 i (by omega)
    have hts1 := (bts_sh h3.1).1
    have hl := h.2.1.len hi
    have hh : hdL (pth s.1 i) < 100 := (h.2.1.lt i).at _
    have b := frD_lt s.1 (hdL (pth s.1 i))
    have e : orF (trpF s.1) (i + 1) = orF (trpF s.1) i ||| (if frD s.1 (hdL (pth s.1 i)) = 0 then 2 ^ i else 0) := rfl
    refine Go_ild2 dX11_trapped_4 ?_
    refine Go_ald0 dX11_trapped_5 ?_
    refine gf10_0 dX11_trapped_6 flX11_12 ?_
    refine Go_cV0 (d' := 0) (bc' := 0) (bs' := 0) rfl dX11_trapped_9 mvX0_pathCount rfl lkX11_183 (by first | assumption | rfl) rfl trivial (by decide) (by decide) (by decide) (Nat.le_of_ble_eq_true rfl) ?_
    refine e_X0_pathCount h.1.1.1 ?_
    refine Go_icmp_ge (tgt := 48) dX11_trapped_12 (by decide) (by constructor <;> omega) (by constructor <;> omega) (fun h12 => by omega) (fun h12 => ?_)
    refine Go_ald0 dX11_trapped_15 ?_
    refine gf10_0 dX11_trapped_16 flX11_12 ?_
    refine Go_ald0 dX11_trapped_19 ?_
    refine gf10_0 dX11_trapped_20 flX11_12 ?_
    refine Go_ild2 dX11_trapped_23 ?_
    refine Go_cV1 (d' := 0) (bc' := 0) (bs' := 0) rfl dX11_trapped_24 mvX0_trail rfl lkX11_115 (by first | assumption | rfl) rfl trivial (by decide) (by decide) (by decide) (Nat.le_of_ble_eq_true rfl) ?_
    refine e_X0_trail h.1.1.1 (by omega) ?_
    refine Go_cV0 (d' := 2) (bc' := 0) (bs' := 0) rfl dX11_trapped_27 mvX9_head rfl lkX11_156 (by first | assumption | rfl) rfl trivial (by decide) (by decide) (by decide) (Nat.le_of_ble_eq_true rfl) ?_
    refine e_X9_headN (h.1.1.1.2.2.2.2 i hi) hl.1 ?_
    refine Go_cV1 (d' := 2) (bc' := 0) (bs' := 0) rfl dX11_trapped_30 mvX0_freeDirections rfl lkX11_248 (by first | assumption | rfl) rfl trivial (by decide) (by decide) (by decide) (Nat.le_of_ble_eq_true rfl) ?_
    refine e_X0_freeDirections h.1.1.2.1 h5 hh ?_
    refine Go_if_ne (tgt := 42) dX11_trapped_33 (by decide) (by constructor <;> omega) (fun h33 => ?_) (fun h33 => ?_)
    · refine Go_inc2 dX11_trapped_42 rfl ?_
      refine Go_goto (tgt := 4) dX11_trapped_45 (by decide) ?_
      refine Go_forget (ls' := _) ?_ (kn _ rfl)
      first | rw [if_pos (by omega)] at e | rw [if_neg (by omega), Nat.or_zero] at e
      rw [e]
      exact (by repeat' (first | exact Or.inl rfl | exact Or.inr rfl | exact Or.inr (lcg (by omega)) | exact trivial | constructor))
    · refine Go_ild1 dX11_trapped_36 ?_
      refine Go_iconst dX11_trapped_37 ?_
      refine Go_ild2 dX11_trapped_38 ?_
      refine Go_ishl dX11_trapped_39 (by omega) (by omega) ?_
      rw [Int.toNat_natCast]
      refine Go_ior dX11_trapped_40 ?_
      refine Go_ist1 dX11_trapped_41 rfl ?_
      refine Go_inc2 dX11_trapped_42 rfl ?_
      refine Go_goto (tgt := 4) dX11_trapped_45 (by decide) ?_
      refine Go_forget (ls' := _) ?_ (kn _ rfl)
      first | rw [if_pos (by omega)] at e | rw [if_neg (by omega), Nat.or_zero] at e
      rw [e]
      exact (by repeat' (first | exact Or.inl rfl | exact Or.inr rfl | exact Or.inr (lcg (by omega)) | exact trivial | constructor))
  · try dsimp only at hP
    try dsimp only
    subst hP
    refine Go_ild2 dX11_trapped_4 ?_
    refine Go_ald0 dX11_trapped_5 ?_
    refine gf10_0 dX11_trapped_6 flX11_12 ?_
    refine Go_cV0 (d' := 0) (bc' := 0) (bs' := 0) rfl dX11_trapped_9 mvX0_pathCount rfl lkX11_183 (by first | assumption | rfl) rfl trivial (by decide) (by decide) (by decide) (Nat.le_of_ble_eq_true rfl) ?_
    refine e_X0_pathCount h.1.1.1 ?_
    refine Go_icmp_ge (tgt := 48) dX11_trapped_12 (by decide) (by constructor <;> omega) (by constructor <;> omega) (fun h12 => ?_) (fun h12 => by omega)
    refine Go_ild1 dX11_trapped_48 ?_
    refine Go_ireturn dX11_trapped_49 rfl (by first | rfl | decide | exact nar_b | simp [narrow]) ?_
    exact k
theorem e_X11_touching (h : CI w s sv g tx) (h1 : inR z1) (h2 : inR z2)
    (k : ∀ p o : Nat, z1 = p → p < s.1.length → z2 = o → o < s.1.length → p ≠ o → K (vi (toC s.1 p o)) none w)
    (x1 : ¬ (0 ≤ z1 ∧ z1 < s.1.length ∧ 0 ≤ z2 ∧ z2 < s.1.length) → X 1 none w) (x3 : 0 ≤ z1 → z1 < s.1.length → z1 = z2 → X 3 none w) : Ev G yX11_touching cX11_touching 3 mX11_touching none 8 3 18 [vr 1, vi z1, vi z2] w K X := by
  refine Ev_intro mvX11_touching.1 rfl (fun h => by cases h) (allc1 rfl) (Nat.le_of_ble_eq_true rfl) (Or.inl rfl) ?_
  show Go G cX11_touching mX11_touching none 8 3 18 0 [some (vr 1), some (vi z1), some (vi z2)] [] w K X
  refine Go_ald0 dX11_touching_0 ?_
  refine Go_ild1 dX11_touching_1 ?_
  refine Go_ild2 dX11_touching_2 ?_
  refine Go_cVv2 (d' := 7) (bc' := 3) (bs' := 18) rfl dX11_touching_3 mvX11_checkTwoPaths rfl lkX11_153 (by first | assumption | rfl) rfl trivial (by decide) (by decide) (by decide) (Nat.le_of_ble_eq_true rfl) ?_
  refine e_X11_checkTwoPaths h.1.1.1 h1 h2 (fun p o e hp e2 ho hpo => ?_) x1 x3
  subst e e2
  refine Go_ald0 dX11_touching_6 ?_
  refine gf10_0 dX11_touching_7 flX11_12 ?_
  refine Go_ild1 dX11_touching_10 ?_
  refine Go_ild2 dX11_touching_11 ?_
  refine Go_cV2 (d' := 3) (bc' := 0) (bs' := 0) rfl dX11_touching_12 mvX0_touchingPairs rfl lkX11_278 (by first | assumption | rfl) rfl trivial (by decide) (by decide) (by decide) (Nat.le_of_ble_eq_true rfl) ?_
  refine e_X0_touchingPairs h.1.1 h.2.1 hp ho ?_
  refine Go_ireturn dX11_touching_15 rfl (by first | rfl | decide | exact nar_b | simp [narrow]) ?_
  exact k p o rfl hp rfl ho hpo
theorem e_X11_ifTurned (h : CI w s sv g tx) (h1 : inR z1) (h2 : inR z2) (h3 : inR z3)
    (k : ∀ w' (p j q : Nat), z1 = p → p < s.1.length → z2 = j → j < (pth s.1 p).length → z3 = q → 1 ≤ q → q ≤ 3 → CI w' s sv g tx → frm w w' ccs → K (vi (whyT s.1 p j q)) none w')
    (x1 : (∀ p j : Nat, z1 = p → p < s.1.length → z2 = j → ¬ j < (pth s.1 p).length) → X 1 none w) (x3 : ∀ p j : Nat, z1 = p → p < s.1.length → z2 = j → j < (pth s.1 p).length → ¬ (1 ≤ z3 ∧ z3 ≤ 3) → X 3 none w) : Ev G yX11_ifTurned cX11_ifTurned 4 mX11_ifTurned none 8 3 18 [vr 1, vi z1, vi z2, vi z3] w K X := by
  refine Ev_intro mvX11_ifTurned.1 rfl (fun h => by cases h) (allc1 rfl) (Nat.le_of_ble_eq_true rfl) (Or.inl rfl) ?_
  show Go G cX11_ifTurned mX11_ifTurned none 8 3 18 0 [some (vr 1), some (vi z1), some (vi z2), some (vi z3)] [] w K X
  refine Go_ald0 dX11_ifTurned_0 ?_
  refine Go_ild1 dX11_ifTurned_1 ?_
  refine Go_ild2 dX11_ifTurned_2 ?_
  refine Go_cVv2 (d' := 7) (bc' := 2) (bs' := 12) rfl dX11_ifTurned_3 mvX11_checkPlace rfl lkX11_132 (by first | assumption | rfl) rfl trivial (by decide) (by decide) (by decide) (Nat.le_of_ble_eq_true rfl) ?_
  refine e_X11_checkPlace h.1.1.1 h1 h2 (fun p j e hp e2 hj => ?_) x1
  refine Go_ild3 dX11_ifTurned_6 ?_
  refine Go_cSv1 (d' := 7) (bc' := 1) (bs' := 6) rfl dX11_ifTurned_7 msX11_checkQuarters rfl lkX11_136 (by decide) (by decide) (by decide) (Nat.le_of_ble_eq_true rfl) ?_
  refine e_X11_checkQuarters h3 (fun q e3 q1 q3 => ?_) (x3 p j e hp e2 hj)
  subst e e2 e3
  refine Go_ald0 dX11_ifTurned_10 ?_
  refine gf10_5 dX11_ifTurned_11 flX11_47 ?_
  refine Go_ald0 dX11_ifTurned_14 ?_
  refine gf10_0 dX11_ifTurned_15 flX11_12 ?_
  refine Go_ild1 dX11_ifTurned_18 ?_
  refine Go_ild2 dX11_ifTurned_19 ?_
  refine Go_ild3 dX11_ifTurned_20 ?_
  refine Go_cV4 (d' := 3) (bc' := 0) (bs' := 0) rfl dX11_ifTurned_21 mvX10_refusal rfl lkX11_139 (by first | assumption | rfl) rfl trivial (by decide) (by decide) (by decide) (Nat.le_of_ble_eq_true rfl) ?_
  refine e_X10_refusal h.1.1 h.2.1 hp hj q3 (fun w2 l2 f2 => ?_)
  refine Go_ireturn dX11_ifTurned_24 rfl (by first | rfl | decide | exact nar_b | simp [narrow]) ?_
  exact k _ p j q rfl hp rfl hj rfl q1 q3 (h.frm f2 (by decide)) (f2.mono (by decide +kernel))
def cntA (s : Sta) (sv : List Sta) (tx : List Nat) (z : Int) : Int :=
  if z = 0 then (s.1.length : Int) else if z = 1 then (tot s.1 : Int) else if z = 2 then s.2.1 else if z = 3 then s.2.2.1 else if z = 4 then s.2.2.2 else if z = 5 then (sv.length : Int) else (tx.length : Int)
theorem e_X11_count (h : CI w s sv g tx) (h1 : inR z1)
    (k : 0 ≤ z1 → z1 ≤ 6 → K (vi (cntA s sv tx z1)) none w)
    (x3 : ¬ (0 ≤ z1 ∧ z1 ≤ 6) → X 3 none w) : Ev G yX11_count cX11_count 2 mX11_count none 7 1 6 [vr 1, vi z1] w K X := by
  refine Ev_intro mvX11_count.1 rfl (fun h => by cases h) (allc1 rfl) (Nat.le_of_ble_eq_true rfl) (Or.inl rfl) ?_
  show Go G cX11_count mX11_count none 7 1 6 0 [some (vr 1), some (vi z1)] [] w K X
  refine Go_ild1 dX11_count_0 ?_
  refine Go_iconst dX11_count_1 ?_
  refine Go_bipush dX11_count_2 (by decide +kernel) ?_
  refine Go_cSv3 (d' := 6) (bc' := 1) (bs' := 6) rfl dX11_count_4 msX11_checkRange rfl lkX11_186 (by decide) (by decide) (by decide) (Nat.le_of_ble_eq_true rfl) ?_
  refine e_X11_checkRange h1 (by constructor <;> omega) (by constructor <;> omega) (fun q1 q2 => ?_) x3
  have c : z1 = 0 ∨ z1 = 1 ∨ z1 = 2 ∨ z1 = 3 ∨ z1 = 4 ∨ z1 = 5 ∨ z1 = 6 := by omega
  have k := k q1 q2
  rcases c with rfl | rfl | rfl | rfl | rfl | rfl | rfl
  · skip
    refine Go_ild1 dX11_count_7 ?_
    refine Go_tsIn (i := 0) (off := 40) (tgt := 48) dX11_count_8 (by omega) ⟨⟨by decide, by decide⟩, by decide⟩ (by decide) (by decide) ?_
    refine Go_ald0 dX11_count_48 ?_
    refine gf10_0 dX11_count_49 flX11_12 ?_
    refine Go_cV0 (d' := 0) (bc' := 0) (bs' := 0) rfl dX11_count_52 mvX0_pathCount rfl lkX11_183 (by first | assumption | rfl) rfl trivial (by decide) (by decide) (by decide) (Nat.le_of_ble_eq_true rfl) ?_
    refine e_X0_pathCount h.1.1.1 ?_
    refine Go_ireturn dX11_count_55 rfl (by first | rfl | decide | exact nar_b | simp [narrow]) ?_
    exact k
  · skip
    refine Go_ild1 dX11_count_7 ?_
    refine Go_tsIn (i := 1) (off := 48) (tgt := 56) dX11_count_8 (by omega) ⟨⟨by decide, by decide⟩, by decide⟩ (by decide) (by decide) ?_
    refine Go_ald0 dX11_count_56 ?_
    refine gf10_0 dX11_count_57 flX11_12 ?_
    refine Go_cV0 (d' := 0) (bc' := 0) (bs' := 0) rfl dX11_count_60 mvX0_takenSites rfl lkX11_296 (by first | assumption | rfl) rfl trivial (by decide) (by decide) (by decide) (Nat.le_of_ble_eq_true rfl) ?_
    refine e_X0_takenSites h.1.1 ?_
    refine Go_ireturn dX11_count_63 rfl (by first | rfl | decide | exact nar_b | simp [narrow]) ?_
    exact k
  · skip
    refine Go_ild1 dX11_count_7 ?_
    refine Go_tsIn (i := 2) (off := 56) (tgt := 64) dX11_count_8 (by omega) ⟨⟨by decide, by decide⟩, by decide⟩ (by decide) (by decide) ?_
    refine Go_ald0 dX11_count_64 ?_
    refine gf10_0 dX11_count_65 flX11_12 ?_
    refine Go_cV0 (d' := 0) (bc' := 0) (bs' := 0) rfl dX11_count_68 mvX0_stepsMade rfl lkX11_323 (by first | assumption | rfl) rfl trivial (by decide) (by decide) (by decide) (Nat.le_of_ble_eq_true rfl) ?_
    refine e_X0_stepsMade h.1 ?_
    refine Go_ireturn dX11_count_71 rfl (by first | rfl | decide | exact nar_b | simp [narrow]) ?_
    exact k
  · skip
    refine Go_ild1 dX11_count_7 ?_
    refine Go_tsIn (i := 3) (off := 64) (tgt := 72) dX11_count_8 (by omega) ⟨⟨by decide, by decide⟩, by decide⟩ (by decide) (by decide) ?_
    refine Go_ald0 dX11_count_72 ?_
    refine gf10_0 dX11_count_73 flX11_12 ?_
    refine Go_cV0 (d' := 0) (bc' := 0) (bs' := 0) rfl dX11_count_76 mvX0_refusals rfl lkX11_326 (by first | assumption | rfl) rfl trivial (by decide) (by decide) (by decide) (Nat.le_of_ble_eq_true rfl) ?_
    refine e_X0_refusals h.1 ?_
    refine Go_ireturn dX11_count_79 rfl (by first | rfl | decide | exact nar_b | simp [narrow]) ?_
    exact k
  · skip
    refine Go_ild1 dX11_count_7 ?_
    refine Go_tsIn (i := 4) (off := 72) (tgt := 80) dX11_count_8 (by omega) ⟨⟨by decide, by decide⟩, by decide⟩ (by decide) (by decide) ?_
    refine Go_ald0 dX11_count_80 ?_
    refine gf10_0 dX11_count_81 flX11_12 ?_
    refine Go_cV0 (d' := 0) (bc' := 0) (bs' := 0) rfl dX11_count_84 mvX0_turnsMade rfl lkX11_329 (by first | assumption | rfl) rfl trivial (by decide) (by decide) (by decide) (Nat.le_of_ble_eq_true rfl) ?_
    refine e_X0_turnsMade h.1 ?_
    refine Go_ireturn dX11_count_87 rfl (by first | rfl | decide | exact nar_b | simp [narrow]) ?_
    exact k
  · skip
    refine Go_ild1 dX11_count_7 ?_
    refine Go_tsIn (i := 5) (off := 80) (tgt := 88) dX11_count_8 (by omega) ⟨⟨by decide, by decide⟩, by decide⟩ (by decide) (by decide) ?_
    refine Go_ald0 dX11_count_88 ?_
    refine gf10_1 dX11_count_89 flX11_19 ?_
    refine Go_cV0 (d' := 0) (bc' := 0) (bs' := 0) rfl dX11_count_92 mvX1_size rfl lkX11_221 (by first | assumption | rfl) rfl trivial (by decide) (by decide) (by decide) (Nat.le_of_ble_eq_true rfl) ?_
    refine e_X1_size h.2.2.1 ?_
    refine Go_ireturn dX11_count_95 rfl (by first | rfl | decide | exact nar_b | simp [narrow]) ?_
    exact k
  · skip
    refine Go_ild1 dX11_count_7 ?_
    refine Go_tsOut (tgt := 96) dX11_count_8 (by constructor <;> omega) (by omega) (by decide) ?_
    refine Go_ald0 dX11_count_96 ?_
    refine gf10_3 dX11_count_97 flX11_33 ?_
    refine Go_cV0 (d' := 0) (bc' := 0) (bs' := 0) rfl dX11_count_100 mvX3_length rfl lkX11_196 (by first | assumption | rfl) rfl trivial (by decide) (by decide) (by decide) (Nat.le_of_ble_eq_true rfl) ?_
    refine e_X3_length h.2.2.2.2 ?_
    refine Go_ireturn dX11_count_103 rfl (by first | rfl | decide | exact nar_b | simp [narrow]) ?_
    exact k
end Api3
