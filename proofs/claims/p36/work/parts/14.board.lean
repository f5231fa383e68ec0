/-- where the trail of a path is; the board's cells -/
def tA (w : Wd) (p : Nat) : Nat := (w 3 p).toNat
def bts : List Nat := [6, 8, 10, 12, 14]
def BT (w : Wd) (ps : List (List Nat)) : Prop := w 2 1 = (ps.length : Int) ∧ ps.length ≤ 5 ∧ (∀ p, p < 5 → tA w p ∈ bts ∧ w 3 p = (tA w p : Int)) ∧ (∀ p q, p < 5 → q < 5 → tA w p = tA w q → p = q) ∧ ∀ p, p < ps.length → TR w (tA w p) (pth ps p)
def BD (w : Wd) (ps : List (List Nat)) : Prop := BT w ps ∧ MK (w 4) (w 5) ps ∧ w 2 7 = (tot ps : Int)
def bcs : List Nat := [2, 3, 4, 5, 6, 7, 8, 9, 10, 11, 12, 13, 14, 15]
theorem bts_sh {t : Nat} (h : t ∈ bts) : SH t = (1, 8) ∧ t ≠ 0 ∧ 6 ≤ t ∧ t ≤ 14 ∧ t % 2 = 0 := by
  have key : ∀ t ∈ bts, SH t = (1, 8) ∧ t ≠ 0 ∧ 6 ≤ t ∧ t ≤ 14 ∧ t % 2 = 0 := by decide +kernel
  exact key t h
theorem BT.frm {w w' : Wd} {ps : List (List Nat)} {A : List Nat} (h : BT w ps) (f : frm w w' A) (hA : ∀ a ∈ A, a < 3 ∨ a = 4 ∨ a = 5 ∨ 16 ≤ a) (h1 : w' 2 1 = w 2 1) : BT w' ps := by
  obtain ⟨a1, a2, a3, a4, a5⟩ := h
  have e3 : w' 3 = w 3 := f 3 (fun q => by have := hA 3 q; omega)
  have eA : ∀ p, tA w' p = tA w p := fun p => by unfold tA; rw [e3]
  refine ⟨by rw [h1, a1], a2, fun p hp => by rw [eA, e3]; exact a3 p hp, fun p q hp hq e => a4 p q hp hq (by rw [← eA, ← eA]; exact e), fun p hp => ?_⟩
  have b := bts_sh (a3 p (by omega)).1
  rw [eA]
  exact (a5 p hp).frm f (fun q => by have := hA _ q; omega) (fun q => by have := hA _ q; omega)
theorem BD.frm {w w' : Wd} {ps : List (List Nat)} {A : List Nat} (h : BD w ps) (f : frm w w' A) (hA : ∀ a ∈ A, a < 2 ∨ 16 ≤ a) : BD w' ps := by
  have e2 : w' 2 = w 2 := f 2 (fun q => by have := hA _ q; omega)
  have e4 : w' 4 = w 4 := f 4 (fun q => by have := hA _ q; omega)
  have e5 : w' 5 = w 5 := f 5 (fun q => by have := hA _ q; omega)
  exact ⟨h.1.frm f (fun a ha => by have := hA a ha; omega) (by rw [e2]), by rw [e4, e5]; exact h.2.1, by rw [e2]; exact h.2.2⟩
def owI (ps : List (List Nat)) (z : Int) : Int := if 0 ≤ z ∧ z < 100 then ow ps z.toNat else -1
def plI (ps : List (List Nat)) (z : Int) : Int := if 0 ≤ z ∧ z < 100 then plc ps z.toNat else -1
def frI (ps : List (List Nat)) (z : Int) : Prop := 0 ≤ z ∧ z < 100 ∧ ow ps z.toNat = -1
theorem owI_in {ps : List (List Nat)} (h : ps.length ≤ 5) (z : Int) : -1 ≤ owI ps z ∧ owI ps z < 5 := by
  have := ow_in ps z.toNat
  unfold owI
  split <;> omega
theorem plI_in {ps : List (List Nat)} (h : OKp ps) (z : Int) : -1 ≤ plI ps z ∧ plI ps z < 60 := by
  have := h.plc z.toNat
  unfold plI
  split <;> omega
def orF (f : Nat → Nat) : Nat → Nat
  | 0 => 0
  | n + 1 => orF f n ||| f n
/-- the directions with a free neighbour; how many neighbours are in a path -/
def frDF (ps : List (List Nat)) (s : Nat) (d : Nat) : Nat := if 0 ≤ nbI s d ∧ nbI s d < 100 ∧ ow ps (nbI s d).toNat = -1 then 2 ^ d else 0
def frD (ps : List (List Nat)) (s : Nat) : Nat := orF (frDF ps s) 4
def nbF (ps : List (List Nat)) (s p : Nat) (d : Nat) : Int := if owI ps (nbI s d) = p then 1 else 0
def nbN (ps : List (List Nat)) (s p : Nat) : Int := smF (nbF ps s p) 4
def cnG (ps : List (List Nat)) (p k d : Nat) : Int := if owI ps (nbI ((pth ps p).getD k 0) ((d : Int) + 1)) = p ∧ (plI ps (nbI ((pth ps p).getD k 0) ((d : Int) + 1)) - k > 1 ∨ k - plI ps (nbI ((pth ps p).getD k 0) ((d : Int) + 1)) > 1) then 1 else 0
def cnC (ps : List (List Nat)) (p : Nat) : Int := smF (fun k => smF (cnG ps p k) 2) (pth ps p).length
def toC (ps : List (List Nat)) (p o : Nat) : Int := smF (fun k => nbN ps ((pth ps p).getD k 0) o) (pth ps p).length
def fbF (ps : List (List Nat)) (p s : Nat) : Int := if ow ps s = -1 ∧ 0 < nbN ps s p then 1 else 0
def fbC (ps : List (List Nat)) (p : Nat) : Int := smF (fbF ps p) 100
theorem nbN_in (ps : List (List Nat)) (s p : Nat) : 0 ≤ nbN ps s p ∧ nbN ps s p ≤ 4 := by
  have := smF_in (f := nbF ps s p) (c := 1) (n := 4) (fun j _ => by unfold nbF; split <;> omega)
  unfold nbN
  omega
section Board
variable {G : Gm} {w : Wd} {K : Kt} {X : Xt} {ps : List (List Nat)}
theorem e_X0_pathCount (h : BT w ps) (k : K (vi ps.length) none w) : Ev G yX0_pathCount cX0_pathCount 1 mX0_pathCount none 0 0 0 [vr 2] w K X := by
  refine Ev_intro mvX0_pathCount.1 rfl (fun h => by cases h) (allc1 rfl) (Nat.le_of_ble_eq_true rfl) (Or.inl rfl) ?_
  show Go G cX0_pathCount mX0_pathCount none 0 0 0 0 [some (vr 2)] [] w K X
  refine Go_ald0 dX0_pathCount_0 ?_
  refine gf0_1 dX0_pathCount_1 flX0_35 (by first | assumption | rfl) ?_
  refine Go_ireturn dX0_pathCount_4 rfl (by first | rfl | decide | exact nar_b | simp [narrow]) ?_
  exact kI h.1 k
theorem e_X0_isFull (h : BT w ps) (k : K (vi (if ps.length = 5 then 1 else 0)) none w) : Ev G yX0_isFull cX0_isFull 1 mX0_isFull none 0 0 0 [vr 2] w K X := by
  have h1 := h.1
  have h2 := h.2.1
  refine Ev_intro mvX0_isFull.1 rfl (fun h => by cases h) (allc1 rfl) (Nat.le_of_ble_eq_true rfl) (Or.inl rfl) ?_
  show Go G cX0_isFull mX0_isFull none 0 0 0 0 [some (vr 2)] [] w K X
  refine Go_ald0 dX0_isFull_0 ?_
  refine gf0_1 dX0_isFull_1 flX0_35 (by first | assumption | rfl) ?_
  refine Go_iconst dX0_isFull_4 ?_
  refine Go_icmp_lt (tgt := 12) dX0_isFull_5 (by decide) (by constructor <;> omega) (by constructor <;> omega) (fun h5 => ?_) (fun h5 => ?_)
  · refine Go_iconst dX0_isFull_12 ?_
    refine Go_ireturn dX0_isFull_13 rfl (by first | rfl | decide | exact nar_b | simp [narrow]) ?_
    first | (refine kI (Eq.symm (if_neg (by omega))) k) | (refine kI (Eq.symm (if_pos (by omega))) k)
  · refine Go_iconst dX0_isFull_8 ?_
    refine Go_goto (tgt := 13) dX0_isFull_9 (by decide) ?_
    refine Go_ireturn dX0_isFull_13 rfl (by first | rfl | decide | exact nar_b | simp [narrow]) ?_
    first | (refine kI (Eq.symm (if_neg (by omega))) k) | (refine kI (Eq.symm (if_pos (by omega))) k)
theorem e_X0_trail {p : Nat} (h : BT w ps) (hp : p < 5) (k : K (vr (tA w p)) none w) : Ev G yX0_trail cX0_trail 2 mX0_trail none 0 0 0 [vr 2, vi (p : Int)] w K X := by
  have h3 := h.2.2.1 p hp
  refine Ev_intro mvX0_trail.1 rfl (fun h => by cases h) (allc1 rfl) (Nat.le_of_ble_eq_true rfl) (Or.inl rfl) ?_
  show Go G cX0_trail mX0_trail none 0 0 0 0 [some (vr 2), some (vi (p : Int))] [] w K X
  refine Go_ald0 dX0_trail_0 ?_
  refine gf0_0 dX0_trail_1 flX0_11 ?_
  refine Go_ild1 dX0_trail_4 ?_
  refine Go_aald5 dX0_trail_5 rfl trivial (by omega) (by omega) (by decide) (by rw [Int.toNat_natCast]; exact h3.2) (bts_sh h3.1).2.1 ?_
  refine Go_areturn dX0_trail_6 rfl ?_
  exact k
theorem e_X0_mark {s p j : Nat} (hs : s < 100) (k : K (vi 0) none (up (up w 4 s (p : Int)) 5 s (j : Int))) : Ev G yX0_mark cX0_mark 4 mX0_mark none 1 0 0 [vr 2, vi (s : Int), vi (p : Int), vi (j : Int)] w K X := by
  refine Ev_intro mvX0_mark.1 rfl (fun h => by cases h) (allc1 rfl) (Nat.le_of_ble_eq_true rfl) (Or.inl rfl) ?_
  show Go G cX0_mark mX0_mark none 1 0 0 0 [some (vr 2), some (vi (s : Int)), some (vi (p : Int)), some (vi (j : Int))] [] w K X
  refine Go_ild1 dX0_mark_0 ?_
  refine Go_cS1 (d' := 0) (bc' := 0) (bs' := 0) rfl dX0_mark_1 msX2_isSite rfl lkX0_50 (by decide) (by decide) (by decide) (Nat.le_of_ble_eq_true rfl) ?_
  refine e_X2_isSite (by constructor <;> omega) ?_
  refine Go_ifb_eq (tgt := 21) dX0_mark_4 (by decide)  (fun h4 => by omega) (fun h4 => ?_)
  refine Go_ald0 dX0_mark_7 ?_
  refine gf0_5 dX0_mark_8 flX0_17 ?_
  refine Go_ild1 dX0_mark_11 ?_
  refine Go_ild2 dX0_mark_12 ?_
  refine Go_iast dX0_mark_13 (by first | assumption | rfl) trivial (by omega) (by omega) (by decide) ?_
  refine Go_ald0 dX0_mark_14 ?_
  refine gf0_6 dX0_mark_15 flX0_21 ?_
  refine Go_ild1 dX0_mark_18 ?_
  refine Go_ild3 dX0_mark_19 ?_
  refine Go_iast dX0_mark_20 (by first | assumption | rfl) trivial (by omega) (by omega) (by decide) ?_
  refine Go_return dX0_mark_21 rfl ?_
  rw [Int.toNat_natCast]
  exact k
theorem e_X0_markSites (h : BT w ps) (hl : LTp ps) (hn : ND ps) (k : ∀ w', BD w' ps → frm w w' [2, 4, 5] → (∀ j, j ≠ 7 → w' 2 j = w 2 j) → K (vi 0) none w') : Ev G yX0_markSites cX0_markSites 4 mX0_markSites none 2 0 0 [vr 2] w K X := by
  have h2 := h.2.1
  refine Ev_intro mvX0_markSites.1 rfl (fun h => by cases h) (allc1 rfl) (Nat.le_of_ble_eq_true rfl) (Or.inl rfl) ?_
  show Go G cX0_markSites mX0_markSites none 2 0 0 0 [some (vr 2), none, none, none] [] w K X
  refine Go_ald0 dX0_markSites_0 ?_
  refine gf0_5 dX0_markSites_1 flX0_17 ?_
  refine Go_iconst dX0_markSites_4 ?_
  refine Go_cSv2 (d' := 0) (bc' := 0) (bs' := 0) rfl dX0_markSites_5 msJ7_fill_53178 rfl lkX0_25 (by decide) (by decide) (by decide) (Nat.le_of_ble_eq_true rfl) ?_
  refine e_J7_fill_53178 (n := 100) rfl (by decide) (fun w1 f1 g1 => ?_)
  refine Go_ald0 dX0_markSites_8 ?_
  refine gf0_6 dX0_markSites_9 flX0_21 ?_
  refine Go_iconst dX0_markSites_12 ?_
  refine Go_cSv2 (d' := 0) (bc' := 0) (bs' := 0) rfl dX0_markSites_13 msJ7_fill_53178 rfl lkX0_25 (by decide) (by decide) (by decide) (Nat.le_of_ble_eq_true rfl) ?_
  refine e_J7_fill_53178 (n := 100) rfl (by decide) (fun w2 f2 g2 => ?_)
  refine Go_ald0 dX0_markSites_16 ?_
  refine Go_iconst dX0_markSites_17 ?_
  refine pf0_7 dX0_markSites_18 flX0_31 (by first | assumption | rfl) ?_
  have m0 : MK ((up w2 2 7 0) 4) ((up w2 2 7 0) 5) (ps.take 0) := fun s hs => ⟨(by rw [up_a (by decide), f2.at (by decide)]; exact g1 s hs), (by rw [up_a (by decide)]; exact g2 s hs)⟩
  have f0 : frm w (up w2 2 7 0) [2, 4, 5] := ((f1.mono (by decide)).trans f2 (by decide)).up (by decide)
  have c0 : ∀ j, j ≠ 7 → (up w2 2 7 0) 2 j = w 2 j := fun j hj => by rw [up_k hj, f2.at (by decide), f1.at (by decide)]
  refine Go_iconst dX0_markSites_21 ?_
  refine Go_ist1 dX0_markSites_22 rfl ?_
  refine Go_upTo (n := ps.length) (L := fun i => [some (vr 2), some (vi (i : Int)), none, none]) (P := fun i v => MK (v 4) (v 5) (ps.take i) ∧ frm w v [2, 4, 5] ∧ (∀ j, j ≠ 7 → v 2 j = w 2 j) ∧ v 2 7 = (tot (ps.take i) : Int)) (by repeat' (first | exact Or.inl rfl | exact Or.inr rfl | exact Or.inr (lcg (by omega)) | exact trivial | constructor)) (⟨m0, f0, c0, up_s⟩) (fun i v hi hP kn => ?_) (fun v hP => ?_)
  · try dsimp only at hP kn
    try dsimp only
    obtain ⟨m1, f1, c1, t1⟩ := hP
    have hb := h.frm f1 (by decide) (c1 1 (by decide))
    have e1 := hb.1
    have h3 := hb.2.2.1 i (by omega)
    have ht := hb.2.2.2.2 i hi
    have hl0 := ht.2.2.1
    have hts := (bts_sh h3.1)
    have hts1 := hts.1
    refine Go_ild1 dX0_markSites_23 ?_
    refine Go_ald0 dX0_markSites_24 ?_
    refine gf0_1 dX0_markSites_25 flX0_35 (by first | assumption | rfl) ?_
    refine Go_icmp_ge (tgt := 84) dX0_markSites_28 (by decide) (by constructor <;> omega) (by constructor <;> omega) (fun h28 => by omega) (fun h28 => ?_)
    refine Go_ald0 dX0_markSites_31 ?_
    refine gf0_0 dX0_markSites_32 flX0_11 ?_
    refine Go_ild1 dX0_markSites_35 ?_
    refine Go_aald5 dX0_markSites_36 rfl trivial (by omega) (by omega) (by decide) (by rw [Int.toNat_natCast]; exact h3.2) hts.2.1 ?_
    refine Go_ast2 dX0_markSites_37 rfl ?_
    refine Go_iconst dX0_markSites_38 ?_
    refine Go_ist3 dX0_markSites_39 rfl ?_
    refine Go_upTo (n := (pth ps i).length) (L := fun i2 => [some (vr 2), some (vi (i : Int)), some (vr (tA v i)), some (vi (i2 : Int))]) (P := fun i2 v2 => MK (v2 4) (v2 5) (ps.take i ++ [(pth ps i).take i2]) ∧ frm v v2 [4, 5]) (by repeat' (first | exact Or.inl rfl | exact Or.inr rfl | exact Or.inr (lcg (by omega)) | exact trivial | constructor)) (⟨m1.next, frm.rfl⟩) (fun i2 v2 hi2 hP2 kn2 => ?_) (fun v2 hP2 => ?_)
    · try dsimp only at hP2 kn2
      try dsimp only
      obtain ⟨m2, f2⟩ := hP2
      have ht2 := ht.frm f2 (by simp; omega) (by simp; omega)
      have hx := (hl i).at i2
      have hd := hn.take hi2
      refine Go_ild3 dX0_markSites_40 ?_
      refine Go_ald2 dX0_markSites_41 ?_
      refine Go_cV0 (d' := 0) (bc' := 0) (bs' := 0) rfl dX0_markSites_42 mvX9_length rfl lkX0_38 (by first | assumption | rfl) rfl trivial (by decide) (by decide) (by decide) (Nat.le_of_ble_eq_true rfl) ?_
      refine e_X9_length ht2 ?_
      refine Go_icmp_ge (tgt := 65) dX0_markSites_45 (by decide) (by constructor <;> omega) (by constructor <;> omega) (fun h45 => by omega) (fun h45 => ?_)
      refine Go_ald0 dX0_markSites_48 ?_
      refine Go_ald2 dX0_markSites_49 ?_
      refine Go_ild3 dX0_markSites_50 ?_
      refine Go_cV1 (d' := 1) (bc' := 0) (bs' := 0) rfl dX0_markSites_51 mvX9_at rfl lkX0_42 (by first | assumption | rfl) rfl trivial (by decide) (by decide) (by decide) (Nat.le_of_ble_eq_true rfl) ?_
      refine e_X9_atN (j := i2) ht2 rfl hi2 ?_
      refine Go_ild1 dX0_markSites_54 ?_
      refine Go_ild3 dX0_markSites_55 ?_
      refine Go_cVv3 (d' := 1) (bc' := 0) (bs' := 0) rfl dX0_markSites_56 mvX0_mark rfl lkX0_46 (by first | assumption | rfl) rfl trivial (by decide) (by decide) (by decide) (Nat.le_of_ble_eq_true rfl) ?_
      refine e_X0_mark hx ?_
      refine Go_inc3 dX0_markSites_59 rfl ?_
      refine Go_goto (tgt := 40) dX0_markSites_62 (by decide) ?_
      refine Go_forget (by repeat' (first | exact Or.inl rfl | exact Or.inr rfl | exact Or.inr (lcg (by omega)) | exact trivial | constructor)) (kn2 _ ⟨?_, (f2.up (by decide)).up (by decide)⟩)
      rw [← take_getD hi2]
      refine m2.push hd.1 hd.2 ?_ ?_ (fun s hs => ⟨?_, ?_⟩)
      · rw [up_a (by decide), up_s, List.length_take, show min i ps.length = i by omega]
      · rw [up_s, List.length_take, show min i2 (pth ps i).length = i2 by omega]
      · rw [up_a (by decide), up_k hs]
      · rw [up_k hs, up_a (by decide)]
    · try dsimp only at hP2
      try dsimp only
      obtain ⟨m2, f2⟩ := hP2
      have ht2 := ht.frm f2 (by simp; omega) (by simp; omega)
      rw [List.take_length, take_pth hi] at m2
      refine Go_ild3 dX0_markSites_40 ?_
      refine Go_ald2 dX0_markSites_41 ?_
      refine Go_cV0 (d' := 0) (bc' := 0) (bs' := 0) rfl dX0_markSites_42 mvX9_length rfl lkX0_38 (by first | assumption | rfl) rfl trivial (by decide) (by decide) (by decide) (Nat.le_of_ble_eq_true rfl) ?_
      refine e_X9_length ht2 ?_
      refine Go_icmp_ge (tgt := 65) dX0_markSites_45 (by decide) (by constructor <;> omega) (by constructor <;> omega) (fun h45 => ?_) (fun h45 => by omega)
      refine Go_ald0 dX0_markSites_65 ?_
      refine Go_dup dX0_markSites_66 ?_
      refine gf0_7 dX0_markSites_67 flX0_31 (by first | assumption | rfl) ?_
      refine Go_ald2 dX0_markSites_70 ?_
      refine Go_cV0 (d' := 0) (bc' := 0) (bs' := 0) rfl dX0_markSites_71 mvX9_length rfl lkX0_38 (by first | assumption | rfl) rfl trivial (by decide) (by decide) (by decide) (Nat.le_of_ble_eq_true rfl) ?_
      refine e_X9_length ht2 ?_
      refine Go_iadd dX0_markSites_74 ?_
      refine pf0_7 dX0_markSites_75 flX0_31 (by first | assumption | rfl) ?_
      refine Go_inc1 dX0_markSites_78 rfl ?_
      refine Go_goto (tgt := 23) dX0_markSites_81 (by decide) ?_
      refine Go_forget (by repeat' (first | exact Or.inl rfl | exact Or.inr rfl | exact Or.inr (lcg (by omega)) | exact trivial | constructor)) (kn _ ⟨?_, (f1.trans f2 (by decide)).up (by decide), fun j hj => ?_, ?_⟩)
      · rw [up_f (by decide), up_f (by decide)]; exact m2
      · rw [up_k hj, f2.at (by decide), c1 j hj]
      · rw [up_s, f2.at (by decide), t1, ← take_pth hi, tot_app]; simp [tot]
  · try dsimp only at hP
    try dsimp only
    obtain ⟨m1, f1, c1, t1⟩ := hP
    have hb := h.frm f1 (by decide) (c1 1 (by decide))
    have e1 := hb.1
    rw [List.take_length] at m1 t1
    refine Go_ild1 dX0_markSites_23 ?_
    refine Go_ald0 dX0_markSites_24 ?_
    refine gf0_1 dX0_markSites_25 flX0_35 (by first | assumption | rfl) ?_
    refine Go_icmp_ge (tgt := 84) dX0_markSites_28 (by decide) (by constructor <;> omega) (by constructor <;> omega) (fun h28 => ?_) (fun h28 => by omega)
    refine Go_return dX0_markSites_84 rfl ?_
    exact k _ ⟨hb, m1, t1⟩ f1 c1
theorem e_X0_pathAt {z : Int} (h : MK (w 4) (w 5) ps) (hz : inR z) (k : K (vi (owI ps z)) none w) : Ev G yX0_pathAt cX0_pathAt 2 mX0_pathAt none 1 0 0 [vr 2, vi z] w K X := by
  have a1 := hz.1
  have a2 := hz.2
  unfold owI at k
  refine Ev_intro mvX0_pathAt.1 rfl (fun h => by cases h) (allc1 rfl) (Nat.le_of_ble_eq_true rfl) (Or.inl rfl) ?_
  show Go G cX0_pathAt mX0_pathAt none 1 0 0 0 [some (vr 2), some (vi z)] [] w K X
  refine Go_ild1 dX0_pathAt_0 ?_
  refine Go_cS1 (d' := 0) (bc' := 0) (bs' := 0) rfl dX0_pathAt_1 msX2_isSite rfl lkX0_50 (by decide) (by decide) (by decide) (Nat.le_of_ble_eq_true rfl) ?_
  refine e_X2_isSite hz ?_
  refine Go_ifb_eq (tgt := 16) dX0_pathAt_4 (by decide)  (fun h4 => ?_) (fun h4 => ?_)
  · refine Go_iconst dX0_pathAt_16 ?_
    refine Go_ireturn dX0_pathAt_17 rfl (by first | rfl | decide | exact nar_b | simp [narrow]) ?_
    first | (refine kI (Eq.symm (if_neg (by omega))) k) | (refine kI ?_ k; rw [if_pos (by omega)]; exact (h z.toNat (by omega)).1)
  · refine Go_ald0 dX0_pathAt_7 ?_
    refine gf0_5 dX0_pathAt_8 flX0_17 ?_
    refine Go_ild1 dX0_pathAt_11 ?_
    refine Go_iald dX0_pathAt_12 (by first | assumption | rfl) trivial (by omega) (by omega) (by decide) ?_
    refine Go_goto (tgt := 17) dX0_pathAt_13 (by decide) ?_
    refine Go_ireturn dX0_pathAt_17 rfl (by first | rfl | decide | exact nar_b | simp [narrow]) ?_
    first | (refine kI (Eq.symm (if_neg (by omega))) k) | (refine kI ?_ k; rw [if_pos (by omega)]; exact (h z.toNat (by omega)).1)
theorem e_X0_placeAt {z : Int} (h : MK (w 4) (w 5) ps) (hz : inR z) (k : K (vi (plI ps z)) none w) : Ev G yX0_placeAt cX0_placeAt 2 mX0_placeAt none 1 0 0 [vr 2, vi z] w K X := by
  have a1 := hz.1
  have a2 := hz.2
  unfold plI at k
  refine Ev_intro mvX0_placeAt.1 rfl (fun h => by cases h) (allc1 rfl) (Nat.le_of_ble_eq_true rfl) (Or.inl rfl) ?_
  show Go G cX0_placeAt mX0_placeAt none 1 0 0 0 [some (vr 2), some (vi z)] [] w K X
  refine Go_ild1 dX0_placeAt_0 ?_
  refine Go_cS1 (d' := 0) (bc' := 0) (bs' := 0) rfl dX0_placeAt_1 msX2_isSite rfl lkX0_50 (by decide) (by decide) (by decide) (Nat.le_of_ble_eq_true rfl) ?_
  refine e_X2_isSite hz ?_
  refine Go_ifb_eq (tgt := 16) dX0_placeAt_4 (by decide)  (fun h4 => ?_) (fun h4 => ?_)
  · refine Go_iconst dX0_placeAt_16 ?_
    refine Go_ireturn dX0_placeAt_17 rfl (by first | rfl | decide | exact nar_b | simp [narrow]) ?_
    first | (refine kI (Eq.symm (if_neg (by omega))) k) | (refine kI ?_ k; rw [if_pos (by omega)]; exact (h z.toNat (by omega)).2)
  · refine Go_ald0 dX0_placeAt_7 ?_
    refine gf0_6 dX0_placeAt_8 flX0_21 ?_
    refine Go_ild1 dX0_placeAt_11 ?_
    refine Go_iald dX0_placeAt_12 (by first | assumption | rfl) trivial (by omega) (by omega) (by decide) ?_
    refine Go_goto (tgt := 17) dX0_placeAt_13 (by decide) ?_
    refine Go_ireturn dX0_placeAt_17 rfl (by first | rfl | decide | exact nar_b | simp [narrow]) ?_
    first | (refine kI (Eq.symm (if_neg (by omega))) k) | (refine kI ?_ k; rw [if_pos (by omega)]; exact (h z.toNat (by omega)).2)
theorem e_X0_isFree {z : Int} (h : MK (w 4) (w 5) ps) (h5 : ps.length ≤ 5) (hz : inR z) (k : K (vi (if 0 ≤ z ∧ z < 100 ∧ ow ps z.toNat = -1 then 1 else 0)) none w) : Ev G yX0_isFree cX0_isFree 2 mX0_isFree none 1 0 0 [vr 2, vi z] w K X := by
  have a1 := hz.1
  have a2 := hz.2
  have b := ow_in ps z.toNat
  by_cases q : 0 ≤ z ∧ z < 100
  · have e := (h z.toNat (by omega)).1
    refine Ev_intro mvX0_isFree.1 rfl (fun h => by cases h) (allc1 rfl) (Nat.le_of_ble_eq_true rfl) (Or.inl rfl) ?_
    show Go G cX0_isFree mX0_isFree none 1 0 0 0 [some (vr 2), some (vi z)] [] w K X
    refine Go_ild1 dX0_isFree_0 ?_
    refine Go_cS1 (d' := 0) (bc' := 0) (bs' := 0) rfl dX0_isFree_1 msX2_isSite rfl lkX0_50 (by decide) (by decide) (by decide) (Nat.le_of_ble_eq_true rfl) ?_
    refine e_X2_isSite hz ?_
    refine Go_ifb_eq (tgt := 21) dX0_isFree_4 (by decide)  (fun h4 => by omega) (fun h4 => ?_)
    refine Go_ald0 dX0_isFree_7 ?_
    refine gf0_5 dX0_isFree_8 flX0_17 ?_
    refine Go_ild1 dX0_isFree_11 ?_
    refine Go_iald dX0_isFree_12 (by first | assumption | rfl) trivial (by omega) (by omega) (by decide) ?_
    refine Go_iconst dX0_isFree_13 ?_
    refine Go_icmp_ne (tgt := 21) dX0_isFree_14 (by decide) (by constructor <;> omega) (by constructor <;> omega) (fun h14 => ?_) (fun h14 => ?_)
    · refine Go_iconst dX0_isFree_21 ?_
      refine Go_ireturn dX0_isFree_22 rfl (by first | rfl | decide | exact nar_b | simp [narrow]) ?_
      first | (refine kI (Eq.symm (if_neg (by omega))) k) | (refine kI (Eq.symm (if_pos (by omega))) k)
    · refine Go_iconst dX0_isFree_17 ?_
      refine Go_goto (tgt := 22) dX0_isFree_18 (by decide) ?_
      refine Go_ireturn dX0_isFree_22 rfl (by first | rfl | decide | exact nar_b | simp [narrow]) ?_
      first | (refine kI (Eq.symm (if_neg (by omega))) k) | (refine kI (Eq.symm (if_pos (by omega))) k)
  · skip
    refine Ev_intro mvX0_isFree.1 rfl (fun h => by cases h) (allc1 rfl) (Nat.le_of_ble_eq_true rfl) (Or.inl rfl) ?_
    show Go G cX0_isFree mX0_isFree none 1 0 0 0 [some (vr 2), some (vi z)] [] w K X
    refine Go_ild1 dX0_isFree_0 ?_
    refine Go_cS1 (d' := 0) (bc' := 0) (bs' := 0) rfl dX0_isFree_1 msX2_isSite rfl lkX0_50 (by decide) (by decide) (by decide) (Nat.le_of_ble_eq_true rfl) ?_
    refine e_X2_isSite hz ?_
    refine Go_ifb_eq (tgt := 21) dX0_isFree_4 (by decide)  (fun h4 => ?_) (fun h4 => by omega)
    refine Go_iconst dX0_isFree_21 ?_
    refine Go_ireturn dX0_isFree_22 rfl (by first | rfl | decide | exact nar_b | simp [narrow]) ?_
    refine kI (Eq.symm (if_neg (by omega))) k
theorem e_X0_takenSites (h : BD w ps) (k : K (vi (tot ps)) none w) : Ev G yX0_takenSites cX0_takenSites 1 mX0_takenSites none 0 0 0 [vr 2] w K X := by
  refine Ev_intro mvX0_takenSites.1 rfl (fun h => by cases h) (allc1 rfl) (Nat.le_of_ble_eq_true rfl) (Or.inl rfl) ?_
  show Go G cX0_takenSites mX0_takenSites none 0 0 0 0 [some (vr 2)] [] w K X
  refine Go_ald0 dX0_takenSites_0 ?_
  refine gf0_7 dX0_takenSites_1 flX0_31 (by first | assumption | rfl) ?_
  refine Go_ireturn dX0_takenSites_4 rfl (by first | rfl | decide | exact nar_b | simp [narrow]) ?_
  exact kI h.2.2 k
theorem e_X0_noteStep {r : Int} (hr : inR r) (k : K (vi 0) none (if r = 0 then up w 2 2 (w 2 2 + 1) else up w 2 3 (w 2 3 + 1))) : Ev G yX0_noteStep cX0_noteStep 2 mX0_noteStep none 0 0 0 [vr 2, vi r] w K X := by
  have a1 := hr.1
  have a2 := hr.2
  refine Ev_intro mvX0_noteStep.1 rfl (fun h => by cases h) (allc1 rfl) (Nat.le_of_ble_eq_true rfl) (Or.inl rfl) ?_
  show Go G cX0_noteStep mX0_noteStep none 0 0 0 0 [some (vr 2), some (vi r)] [] w K X
  refine Go_ild1 dX0_noteStep_0 ?_
  refine Go_if_ne (tgt := 17) dX0_noteStep_1 (by decide) (by constructor <;> omega) (fun h1 => ?_) (fun h1 => ?_)
  · refine Go_ald0 dX0_noteStep_17 ?_
    refine Go_dup dX0_noteStep_18 ?_
    refine gf0_3 dX0_noteStep_19 flX0_59 (by first | assumption | rfl) ?_
    refine Go_iconst dX0_noteStep_22 ?_
    refine Go_iadd dX0_noteStep_23 ?_
    refine pf0_3 dX0_noteStep_24 flX0_59 (by first | assumption | rfl) ?_
    refine Go_return dX0_noteStep_27 rfl ?_
    first | (rw [if_pos h1] at k; exact k) | (rw [if_neg h1] at k; exact k)
  · refine Go_ald0 dX0_noteStep_4 ?_
    refine Go_dup dX0_noteStep_5 ?_
    refine gf0_2 dX0_noteStep_6 flX0_56 (by first | assumption | rfl) ?_
    refine Go_iconst dX0_noteStep_9 ?_
    refine Go_iadd dX0_noteStep_10 ?_
    refine pf0_2 dX0_noteStep_11 flX0_56 (by first | assumption | rfl) ?_
    refine Go_goto (tgt := 27) dX0_noteStep_14 (by decide) ?_
    refine Go_return dX0_noteStep_27 rfl ?_
    first | (rw [if_pos h1] at k; exact k) | (rw [if_neg h1] at k; exact k)
theorem e_X0_noteTurn {r : Int} (hr : inR r) (k : K (vi 0) none (if r = 0 then up w 2 4 (w 2 4 + 1) else up w 2 3 (w 2 3 + 1))) : Ev G yX0_noteTurn cX0_noteTurn 2 mX0_noteTurn none 0 0 0 [vr 2, vi r] w K X := by
  have a1 := hr.1
  have a2 := hr.2
  refine Ev_intro mvX0_noteTurn.1 rfl (fun h => by cases h) (allc1 rfl) (Nat.le_of_ble_eq_true rfl) (Or.inl rfl) ?_
  show Go G cX0_noteTurn mX0_noteTurn none 0 0 0 0 [some (vr 2), some (vi r)] [] w K X
  refine Go_ild1 dX0_noteTurn_0 ?_
  refine Go_if_ne (tgt := 17) dX0_noteTurn_1 (by decide) (by constructor <;> omega) (fun h1 => ?_) (fun h1 => ?_)
  · refine Go_ald0 dX0_noteTurn_17 ?_
    refine Go_dup dX0_noteTurn_18 ?_
    refine gf0_3 dX0_noteTurn_19 flX0_59 (by first | assumption | rfl) ?_
    refine Go_iconst dX0_noteTurn_22 ?_
    refine Go_iadd dX0_noteTurn_23 ?_
    refine pf0_3 dX0_noteTurn_24 flX0_59 (by first | assumption | rfl) ?_
    refine Go_return dX0_noteTurn_27 rfl ?_
    first | (rw [if_pos h1] at k; exact k) | (rw [if_neg h1] at k; exact k)
  · refine Go_ald0 dX0_noteTurn_4 ?_
    refine Go_dup dX0_noteTurn_5 ?_
    refine gf0_4 dX0_noteTurn_6 flX0_62 (by first | assumption | rfl) ?_
    refine Go_iconst dX0_noteTurn_9 ?_
    refine Go_iadd dX0_noteTurn_10 ?_
    refine pf0_4 dX0_noteTurn_11 flX0_62 (by first | assumption | rfl) ?_
    refine Go_goto (tgt := 27) dX0_noteTurn_14 (by decide) ?_
    refine Go_return dX0_noteTurn_27 rfl ?_
    first | (rw [if_pos h1] at k; exact k) | (rw [if_neg h1] at k; exact k)
theorem e_X0_freeDirections {s : Nat} (h : MK (w 4) (w 5) ps) (h5 : ps.length ≤ 5) (hs : s < 100) (k : K (vi (frD ps s)) none w) : Ev G yX0_freeDirections cX0_freeDirections 4 mX0_freeDirections none 2 0 0 [vr 2, vi (s : Int)] w K X := by
  unfold frD at k
  refine Ev_intro mvX0_freeDirections.1 rfl (fun h => by cases h) (allc1 rfl) (Nat.le_of_ble_eq_true rfl) (Or.inl rfl) ?_
  show Go G cX0_freeDirections mX0_freeDirections none 2 0 0 0 [some (vr 2), some (vi (s : Int)), none, none] [] w K X
  refine Go_iconst dX0_freeDirections_0 ?_
  refine Go_ist2 dX0_freeDirections_1 rfl ?_
  refine Go_iconst dX0_freeDirections_2 ?_
  refine Go_ist3 dX0_freeDirections_3 rfl ?_
  refine Go_upTo (n := 4) (L := fun i => [some (vr 2), some (vi (s : Int)), some (vi ((orF (frDF ps s) i : Nat) : Int)), some (vi (i : Int))]) (P := fun i v => v = w) (by repeat' (first | exact Or.inl rfl | exact Or.inr rfl | exact Or.inr (lcg (by omega)) | exact trivial | constructor)) (rfl) (fun i v hi hP kn => ?_) (fun v hP => ?_)
  · try dsimp only at hP kn
    try dsimp only
    subst hP
    have b := nbI_in s i
    have e : orF (frDF ps s) (i + 1) = orF (frDF ps s) i ||| (if 0 ≤ nbI s i ∧ nbI s i < 100 ∧ ow ps (nbI s i).toNat = -1 then 2 ^ i else 0) := rfl
    refine Go_ild3 dX0_freeDirections_4 ?_
    refine Go_iconst dX0_freeDirections_5 ?_
    refine Go_icmp_ge (tgt := 33) dX0_freeDirections_6 (by decide) (by constructor <;> omega) (by constructor <;> omega) (fun h6 => by omega) (fun h6 => ?_)
    refine Go_ald0 dX0_freeDirections_9 ?_
    refine Go_ild1 dX0_freeDirections_10 ?_
    refine Go_ild3 dX0_freeDirections_11 ?_
    refine Go_cS2 (d' := 1) (bc' := 0) (bs' := 0) rfl dX0_freeDirections_12 msX2_neighbour rfl lkX0_75 (by decide) (by decide) (by decide) (Nat.le_of_ble_eq_true rfl) ?_
    refine e_X2_neighbour (by omega) (by omega) (by constructor <;> omega) ?_
    refine Go_cV1 (d' := 1) (bc' := 0) (bs' := 0) rfl dX0_freeDirections_15 mvX0_isFree rfl lkX0_101 (by first | assumption | rfl) rfl trivial (by decide) (by decide) (by decide) (Nat.le_of_ble_eq_true rfl) ?_
    refine e_X0_isFree h h5 (by constructor <;> omega) ?_
    refine Go_ifb_eq (tgt := 27) dX0_freeDirections_18 (by decide)  (fun h18 => ?_) (fun h18 => ?_)
    · refine Go_inc3 dX0_freeDirections_27 rfl ?_
      refine Go_goto (tgt := 4) dX0_freeDirections_30 (by decide) ?_
      refine Go_forget (ls' := _) ?_ (kn _ rfl)
      first | rw [if_pos h18] at e | rw [if_neg h18, Nat.or_zero] at e
      rw [e]
      exact (by repeat' (first | exact Or.inl rfl | exact Or.inr rfl | exact Or.inr (lcg (by omega)) | exact trivial | constructor))
    · refine Go_ild2 dX0_freeDirections_21 ?_
      refine Go_iconst dX0_freeDirections_22 ?_
      refine Go_ild3 dX0_freeDirections_23 ?_
      refine Go_ishl dX0_freeDirections_24 (by omega) (by omega) ?_
      rw [Int.toNat_natCast]
      refine Go_ior dX0_freeDirections_25 ?_
      refine Go_ist2 dX0_freeDirections_26 rfl ?_
      refine Go_inc3 dX0_freeDirections_27 rfl ?_
      refine Go_goto (tgt := 4) dX0_freeDirections_30 (by decide) ?_
      refine Go_forget (ls' := _) ?_ (kn _ rfl)
      first | rw [if_pos h18] at e | rw [if_neg h18, Nat.or_zero] at e
      rw [e]
      exact (by repeat' (first | exact Or.inl rfl | exact Or.inr rfl | exact Or.inr (lcg (by omega)) | exact trivial | constructor))
  · try dsimp only at hP
    try dsimp only
    subst hP
    refine Go_ild3 dX0_freeDirections_4 ?_
    refine Go_iconst dX0_freeDirections_5 ?_
    refine Go_icmp_ge (tgt := 33) dX0_freeDirections_6 (by decide) (by constructor <;> omega) (by constructor <;> omega) (fun h6 => ?_) (fun h6 => by omega)
    refine Go_ild2 dX0_freeDirections_33 ?_
    refine Go_ireturn dX0_freeDirections_34 rfl (by first | rfl | decide | exact nar_b | simp [narrow]) ?_
    exact k
theorem e_X0_neighboursIn {s p : Nat} (h : MK (w 4) (w 5) ps) (h5 : ps.length ≤ 5) (hs : s < 100) (hp : p < 5) (k : K (vi (nbN ps s p)) none w) : Ev G yX0_neighboursIn cX0_neighboursIn 5 mX0_neighboursIn none 2 0 0 [vr 2, vi (s : Int), vi (p : Int)] w K X := by
  unfold nbN at k
  refine Ev_intro mvX0_neighboursIn.1 rfl (fun h => by cases h) (allc1 rfl) (Nat.le_of_ble_eq_true rfl) (Or.inl rfl) ?_
  show Go G cX0_neighboursIn mX0_neighboursIn none 2 0 0 0 [some (vr 2), some (vi (s : Int)), some (vi (p : Int)), none, none] [] w K X
  refine Go_iconst dX0_neighboursIn_0 ?_
  refine Go_ist3 dX0_neighboursIn_1 rfl ?_
  refine Go_iconst dX0_neighboursIn_2 ?_
  refine Go_ist4 dX0_neighboursIn_3 rfl ?_
  refine Go_upTo (n := 4) (L := fun i => [some (vr 2), some (vi (s : Int)), some (vi (p : Int)), some (vi (smF (nbF ps s p) i)), some (vi (i : Int))]) (P := fun i v => v = w) (by repeat' (first | exact Or.inl rfl | exact Or.inr rfl | exact Or.inr (lcg (by omega)) | exact trivial | constructor)) (rfl) (fun i v hi hP kn => ?_) (fun v hP => ?_)
  · try dsimp only at hP kn
    try dsimp only
    subst hP
    have b := nbI_in s i
    have b2 := owI_in h5 (nbI s i)
    have e : smF (nbF ps s p) (i + 1) = smF (nbF ps s p) i + (if owI ps (nbI s i) = p then 1 else 0) := rfl
    refine Go_ild4 dX0_neighboursIn_5 ?_
    refine Go_iconst dX0_neighboursIn_7 ?_
    refine Go_icmp_ge (tgt := 34) dX0_neighboursIn_8 (by decide) (by constructor <;> omega) (by constructor <;> omega) (fun h8 => by omega) (fun h8 => ?_)
    refine Go_ald0 dX0_neighboursIn_11 ?_
    refine Go_ild1 dX0_neighboursIn_12 ?_
    refine Go_ild4 dX0_neighboursIn_13 ?_
    refine Go_cS2 (d' := 1) (bc' := 0) (bs' := 0) rfl dX0_neighboursIn_15 msX2_neighbour rfl lkX0_75 (by decide) (by decide) (by decide) (Nat.le_of_ble_eq_true rfl) ?_
    refine e_X2_neighbour (by omega) (by omega) (by constructor <;> omega) ?_
    refine Go_cV1 (d' := 1) (bc' := 0) (bs' := 0) rfl dX0_neighboursIn_18 mvX0_pathAt rfl lkX0_99 (by first | assumption | rfl) rfl trivial (by decide) (by decide) (by decide) (Nat.le_of_ble_eq_true rfl) ?_
    refine e_X0_pathAt h (by constructor <;> omega) ?_
    refine Go_ild2 dX0_neighboursIn_21 ?_
    refine Go_icmp_ne (tgt := 28) dX0_neighboursIn_22 (by decide) (by constructor <;> omega) (by constructor <;> omega) (fun h22 => ?_) (fun h22 => ?_)
    · refine Go_inc4 dX0_neighboursIn_28 rfl ?_
      refine Go_goto (tgt := 5) dX0_neighboursIn_31 (by decide) ?_
      refine Go_forget (ls' := _) ?_ (kn _ rfl)
      first | rw [if_pos h22] at e | rw [if_neg h22, Int.add_zero] at e
      rw [e]
      exact (by repeat' (first | exact Or.inl rfl | exact Or.inr rfl | exact Or.inr (lcg (by omega)) | exact trivial | constructor))
    · refine Go_inc3 dX0_neighboursIn_25 rfl ?_
      refine Go_inc4 dX0_neighboursIn_28 rfl ?_
      refine Go_goto (tgt := 5) dX0_neighboursIn_31 (by decide) ?_
      refine Go_forget (ls' := _) ?_ (kn _ rfl)
      first | rw [if_pos h22] at e | rw [if_neg h22, Int.add_zero] at e
      rw [e]
      exact (by repeat' (first | exact Or.inl rfl | exact Or.inr rfl | exact Or.inr (lcg (by omega)) | exact trivial | constructor))
  · try dsimp only at hP
    try dsimp only
    subst hP
    refine Go_ild4 dX0_neighboursIn_5 ?_
    refine Go_iconst dX0_neighboursIn_7 ?_
    refine Go_icmp_ge (tgt := 34) dX0_neighboursIn_8 (by decide) (by constructor <;> omega) (by constructor <;> omega) (fun h8 => ?_) (fun h8 => by omega)
    refine Go_ild3 dX0_neighboursIn_34 ?_
    refine Go_ireturn dX0_neighboursIn_35 rfl (by first | rfl | decide | exact nar_b | simp [narrow]) ?_
    exact k
theorem e_X0_touchingPairs {p o : Nat} (h : BD w ps) (ho : OKp ps) (hp : p < ps.length) (hq : o < ps.length) (k : K (vi (toC ps p o)) none w) : Ev G yX0_touchingPairs cX0_touchingPairs 6 mX0_touchingPairs none 3 0 0 [vr 2, vi (p : Int), vi (o : Int)] w K X := by
  obtain ⟨hb, hm, ht⟩ := h
  have h5 := hb.2.1
  have h3 := hb.2.2.1 p (by omega)
  have hT := hb.2.2.2.2 p hp
  have hl := hT.2.2.1
  unfold toC at k
  refine Ev_intro mvX0_touchingPairs.1 rfl (fun h => by cases h) (allc1 rfl) (Nat.le_of_ble_eq_true rfl) (Or.inl rfl) ?_
  show Go G cX0_touchingPairs mX0_touchingPairs none 3 0 0 0 [some (vr 2), some (vi (p : Int)), some (vi (o : Int)), none, none, none] [] w K X
  refine Go_iconst dX0_touchingPairs_0 ?_
  refine Go_ist3 dX0_touchingPairs_1 rfl ?_
  refine Go_ald0 dX0_touchingPairs_2 ?_
  refine gf0_0 dX0_touchingPairs_3 flX0_11 ?_
  refine Go_ild1 dX0_touchingPairs_6 ?_
  refine Go_aald5 dX0_touchingPairs_7 rfl trivial (by omega) (by omega) (by decide) (by rw [Int.toNat_natCast]; exact h3.2) (bts_sh h3.1).2.1 ?_
  refine Go_ast4 dX0_touchingPairs_8 rfl ?_
  refine Go_iconst dX0_touchingPairs_10 ?_
  refine Go_ist5 dX0_touchingPairs_11 rfl ?_
  refine Go_upTo (n := (pth ps p).length) (L := fun i => [some (vr 2), some (vi (p : Int)), some (vi (o : Int)), some (vi (smF (fun k => nbN ps ((pth ps p).getD k 0) o) i)), some (vr (tA w p)), some (vi (i : Int))]) (P := fun i v => v = w) (by repeat' (first | exact Or.inl rfl | exact Or.inr rfl | exact Or.inr (lcg (by omega)) | exact trivial | constructor)) (rfl) (fun i v hi hP kn => ?_) (fun v hP => ?_)
  · try dsimp only at hP kn
    try dsimp only
    subst hP
    have hx := (ho.lt p).at i
    have hts := (bts_sh h3.1).1
    refine Go_ild5 dX0_touchingPairs_13 ?_
    refine Go_ald4 dX0_touchingPairs_15 ?_
    refine Go_cV0 (d' := 0) (bc' := 0) (bs' := 0) rfl dX0_touchingPairs_17 mvX9_length rfl lkX0_38 (by first | assumption | rfl) rfl trivial (by decide) (by decide) (by decide) (Nat.le_of_ble_eq_true rfl) ?_
    refine e_X9_length hT ?_
    refine Go_icmp_ge (tgt := 44) dX0_touchingPairs_20 (by decide) (by constructor <;> omega) (by constructor <;> omega) (fun h20 => by omega) (fun h20 => ?_)
    refine Go_ild3 dX0_touchingPairs_23 ?_
    refine Go_ald0 dX0_touchingPairs_24 ?_
    refine Go_ald4 dX0_touchingPairs_25 ?_
    refine Go_ild5 dX0_touchingPairs_27 ?_
    refine Go_cV1 (d' := 1) (bc' := 0) (bs' := 0) rfl dX0_touchingPairs_29 mvX9_at rfl lkX0_42 (by first | assumption | rfl) rfl trivial (by decide) (by decide) (by decide) (Nat.le_of_ble_eq_true rfl) ?_
    refine e_X9_atN (j := i) hT rfl hi ?_
    refine Go_ild2 dX0_touchingPairs_32 ?_
    refine Go_cV2 (d' := 2) (bc' := 0) (bs' := 0) rfl dX0_touchingPairs_33 mvX0_neighboursIn rfl lkX0_120 (by first | assumption | rfl) rfl trivial (by decide) (by decide) (by decide) (Nat.le_of_ble_eq_true rfl) ?_
    refine e_X0_neighboursIn hm h5 hx (by omega) ?_
    refine Go_iadd dX0_touchingPairs_36 ?_
    refine Go_ist3 dX0_touchingPairs_37 rfl ?_
    refine Go_inc5 dX0_touchingPairs_38 rfl ?_
    refine Go_goto (tgt := 13) dX0_touchingPairs_41 (by decide) ?_
    exact Go_forget (by repeat' (first | exact Or.inl rfl | exact Or.inr rfl | exact Or.inr (lcg (by omega)) | exact trivial | constructor)) (kn _ rfl)
  · try dsimp only at hP
    try dsimp only
    subst hP
    have hts := (bts_sh h3.1).1
    refine Go_ild5 dX0_touchingPairs_13 ?_
    refine Go_ald4 dX0_touchingPairs_15 ?_
    refine Go_cV0 (d' := 0) (bc' := 0) (bs' := 0) rfl dX0_touchingPairs_17 mvX9_length rfl lkX0_38 (by first | assumption | rfl) rfl trivial (by decide) (by decide) (by decide) (Nat.le_of_ble_eq_true rfl) ?_
    refine e_X9_length hT ?_
    refine Go_icmp_ge (tgt := 44) dX0_touchingPairs_20 (by decide) (by constructor <;> omega) (by constructor <;> omega) (fun h20 => ?_) (fun h20 => by omega)
    refine Go_ild3 dX0_touchingPairs_44 ?_
    refine Go_ireturn dX0_touchingPairs_45 rfl (by first | rfl | decide | exact nar_b | simp [narrow]) ?_
    exact k
theorem e_X0_freeBorder {p : Nat} (h : MK (w 4) (w 5) ps) (h5 : ps.length ≤ 5) (hp : p < 5) (k : K (vi (fbC ps p)) none w) : Ev G yX0_freeBorder cX0_freeBorder 4 mX0_freeBorder none 3 0 0 [vr 2, vi (p : Int)] w K X := by
  unfold fbC at k
  refine Ev_intro mvX0_freeBorder.1 rfl (fun h => by cases h) (allc1 rfl) (Nat.le_of_ble_eq_true rfl) (Or.inl rfl) ?_
  show Go G cX0_freeBorder mX0_freeBorder none 3 0 0 0 [some (vr 2), some (vi (p : Int)), none, none] [] w K X
  refine Go_iconst dX0_freeBorder_0 ?_
  refine Go_ist2 dX0_freeBorder_1 rfl ?_
  refine Go_iconst dX0_freeBorder_2 ?_
  refine Go_ist3 dX0_freeBorder_3 rfl ?_
  refine Go_upTo (n := 100) (L := fun i => [some (vr 2), some (vi (p : Int)), some (vi (smF (fbF ps p) i)), some (vi (i : Int))]) (P := fun i v => v = w) (by repeat' (first | exact Or.inl rfl | exact Or.inr rfl | exact Or.inr (lcg (by omega)) | exact trivial | constructor)) (rfl) (fun i v hi hP kn => ?_) (fun v hP => ?_)
  · try dsimp only at hP kn
    try dsimp only
    subst hP
    have b := nbN_in ps i p
    have e : smF (fbF ps p) (i + 1) = smF (fbF ps p) i + (if ow ps i = -1 ∧ 0 < nbN ps i p then 1 else 0) := rfl
    refine Go_ild3 dX0_freeBorder_4 ?_
    refine Go_bipush dX0_freeBorder_5 (by decide +kernel) ?_
    refine Go_icmp_ge (tgt := 36) dX0_freeBorder_7 (by decide) (by constructor <;> omega) (by constructor <;> omega) (fun h7 => by omega) (fun h7 => ?_)
    refine Go_ald0 dX0_freeBorder_10 ?_
    refine Go_ild3 dX0_freeBorder_11 ?_
    refine Go_cV1 (d' := 1) (bc' := 0) (bs' := 0) rfl dX0_freeBorder_12 mvX0_isFree rfl lkX0_101 (by first | assumption | rfl) rfl trivial (by decide) (by decide) (by decide) (Nat.le_of_ble_eq_true rfl) ?_
    refine e_X0_isFree h h5 (by constructor <;> omega) ?_
    refine Go_ifb_eq (tgt := 30) dX0_freeBorder_15 (by decide)  (fun h15 => ?_) (fun h15 => ?_)
    · refine Go_inc3 dX0_freeBorder_30 rfl ?_
      refine Go_goto (tgt := 4) dX0_freeBorder_33 (by decide) ?_
      refine Go_forget (ls' := _) ?_ (kn _ rfl)
      first | rw [if_neg (by intro q; apply h15; refine ⟨by omega, by omega, ?_⟩; rw [Int.toNat_natCast]; exact q.1), Int.add_zero] at e | rw [if_neg (by omega), Int.add_zero] at e | (rw [Int.toNat_natCast] at h15; rw [if_pos ⟨h15.2.2, by omega⟩] at e)
      rw [e]
      exact (by repeat' (first | exact Or.inl rfl | exact Or.inr rfl | exact Or.inr (lcg (by omega)) | exact trivial | constructor))
    · refine Go_ald0 dX0_freeBorder_18 ?_
      refine Go_ild3 dX0_freeBorder_19 ?_
      refine Go_ild1 dX0_freeBorder_20 ?_
      refine Go_cV2 (d' := 2) (bc' := 0) (bs' := 0) rfl dX0_freeBorder_21 mvX0_neighboursIn rfl lkX0_120 (by first | assumption | rfl) rfl trivial (by decide) (by decide) (by decide) (Nat.le_of_ble_eq_true rfl) ?_
      refine e_X0_neighboursIn h h5 hi hp ?_
      refine Go_if_le (tgt := 30) dX0_freeBorder_24 (by decide) (by constructor <;> omega) (fun h24 => ?_) (fun h24 => ?_)
      · refine Go_inc3 dX0_freeBorder_30 rfl ?_
        refine Go_goto (tgt := 4) dX0_freeBorder_33 (by decide) ?_
        refine Go_forget (ls' := _) ?_ (kn _ rfl)
        first | rw [if_neg (by intro q; apply h15; refine ⟨by omega, by omega, ?_⟩; rw [Int.toNat_natCast]; exact q.1), Int.add_zero] at e | rw [if_neg (by omega), Int.add_zero] at e | (rw [Int.toNat_natCast] at h15; rw [if_pos ⟨h15.2.2, by omega⟩] at e)
        rw [e]
        exact (by repeat' (first | exact Or.inl rfl | exact Or.inr rfl | exact Or.inr (lcg (by omega)) | exact trivial | constructor))
      · refine Go_inc2 dX0_freeBorder_27 rfl ?_
        refine Go_inc3 dX0_freeBorder_30 rfl ?_
        refine Go_goto (tgt := 4) dX0_freeBorder_33 (by decide) ?_
        refine Go_forget (ls' := _) ?_ (kn _ rfl)
        first | rw [if_neg (by intro q; apply h15; refine ⟨by omega, by omega, ?_⟩; rw [Int.toNat_natCast]; exact q.1), Int.add_zero] at e | rw [if_neg (by omega), Int.add_zero] at e | (rw [Int.toNat_natCast] at h15; rw [if_pos ⟨h15.2.2, by omega⟩] at e)
        rw [e]
        exact (by repeat' (first | exact Or.inl rfl | exact Or.inr rfl | exact Or.inr (lcg (by omega)) | exact trivial | constructor))
  · try dsimp only at hP
    try dsimp only
    subst hP
    refine Go_ild3 dX0_freeBorder_4 ?_
    refine Go_bipush dX0_freeBorder_5 (by decide +kernel) ?_
    refine Go_icmp_ge (tgt := 36) dX0_freeBorder_7 (by decide) (by constructor <;> omega) (by constructor <;> omega) (fun h7 => ?_) (fun h7 => by omega)
    refine Go_ild2 dX0_freeBorder_36 ?_
    refine Go_ireturn dX0_freeBorder_37 rfl (by first | rfl | decide | exact nar_b | simp [narrow]) ?_
    exact k
end Board
