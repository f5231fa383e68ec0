/-! the law's own changes: a path goes, a step, a turn -/
theorem PK_of {w w' : Wd} {q r k : Nat} (h : w' 69 (12 * q + k / 4) = w 69 (12 * r + k / 4)) : PK w' q k = PK w r k := by unfold PK; rw [h]
theorem PA_of {w w' : Wd} (h : PA w) (e : ∀ i, i < 60 → ∃ j, j < 60 ∧ w' 69 i = w 69 j) : PA w' := fun i hi => by
  obtain ⟨j, hj, e⟩ := e i hi
  rw [e]
  exact h j hj
/-- the rows of paths p to e - 1 have come one down; of path e, m ints -/
def dr69 (w v : Wd) (p e m : Nat) : Prop := ∀ q j, q < 5 → j < 12 → v 69 (12 * q + j) = if p ≤ q ∧ (q < e ∨ q = e ∧ j < m) then w 69 (12 * (q + 1) + j) else w 69 (12 * q + j)
def dr68 (w v : Wd) (p e : Nat) : Prop := ∀ q, v 68 q = if p ≤ q ∧ q < e then w 68 (q + 1) else w 68 q
section Due1
variable {G : Gm} {w : Wd} {K : Kt} {X : Xt} {ps : List (List Nat)} {s : Sta}
theorem e_L_drops {p : Nat} {N : Int} (h : PA w) (hp : p < 5) (hN : w 68 5 = N) (k : ∀ w', PA w' → frm w w' [68, 69] → w' 68 5 = N - 1 → (∀ j, 6 ≤ j → w' 68 j = w 68 j) → (∀ q, q < 4 → w' 68 q = (if q < p then w 68 q else w 68 (q + 1)) ∧ ∀ k, k < 48 → PK w' q k = if q < p then PK w q k else PK w (q + 1) k) → K (vi 0) none w') : Ev G yL_drops cL_drops 5 mL_drops none 0 0 0 [vi (p : Int), vr 68, vr 69] w K X := by
  refine Ev_intro msL_drops.1 rfl (fun h => by cases h) (allc1 rfl) (Nat.le_of_ble_eq_true rfl) (Or.inl rfl) ?_
  show Go G cL_drops mL_drops none 0 0 0 0 [some (vi (p : Int)), some (vr 68), some (vr 69), none, none] [] w K X
  refine Go_ild0 dL_drops_0 ?_
  refine Go_ist3 dL_drops_1 rfl ?_
  refine Go_upTo (n := 4 - p) (L := fun i => [some (vi (p : Int)), some (vr 68), some (vr 69), some (vi ((p : Int) + i)), none]) (P := fun i v => frm w v [68, 69] ∧ dr68 w v p (p + i) ∧ dr69 w v p (p + i) 0) (by repeat' (first | exact Or.inl rfl | exact Or.inr rfl | exact Or.inr (lcg (by omega)) | exact trivial | constructor)) (⟨frm.rfl, fun q => by rw [if_neg (by omega)], fun q j _ _ => by rw [if_neg (by omega)]⟩) (fun i v hi hP kn => ?_) (fun v hP => ?_)
  · try dsimp only at hP kn
    try dsimp only
    obtain ⟨fr, h8, h9⟩ := hP
    refine Go_ild3 dL_drops_2 ?_
    refine Go_iconst dL_drops_3 ?_
    refine Go_icmp_ge (tgt := 57) dL_drops_4 (by decide) (by constructor <;> omega) (by constructor <;> omega) (fun h4 => by omega) (fun h4 => ?_)
    refine Go_ald1 dL_drops_7 ?_
    refine Go_ild3 dL_drops_8 ?_
    refine Go_ald1 dL_drops_9 ?_
    refine Go_ild3 dL_drops_10 ?_
    refine Go_iconst dL_drops_11 ?_
    refine Go_iadd dL_drops_12 ?_
    refine Go_iald dL_drops_13 (by first | assumption | rfl) trivial (by omega) (by omega) (by decide) ?_
    rw [show ((p : Int) + i + 1).toNat = p + i + 1 by omega]
    refine Go_iast dL_drops_14 (by first | assumption | rfl) trivial (by omega) (by omega) (by decide) ?_
    rw [show ((p : Int) + i).toNat = p + i by omega]
    refine Go_iconst dL_drops_15 ?_
    refine Go_ist4 dL_drops_16 rfl ?_
    refine Go_upTo (n := 12) (L := fun i2 => [some (vi (p : Int)), some (vr 68), some (vr 69), some (vi ((p : Int) + i)), some (vi (i2 : Int))]) (P := fun i2 v2 => frm w v2 [68, 69] ∧ dr68 w v2 p (p + i + 1) ∧ dr69 w v2 p (p + i) i2) (by repeat' (first | exact Or.inl rfl | exact Or.inr rfl | exact Or.inr (lcg (by omega)) | exact trivial | constructor)) (⟨fr.up (by simp), fun q => ?_, fun q j hq hj => by rw [up_a (by decide)]; exact h9 q j hq hj⟩) (fun i2 v2 hi2 hP2 kn2 => ?_) (fun v2 hP2 => ?_)
    · have a1 := h8 (p + i + 1)
      rw [if_neg (by omega)] at a1
      by_cases c : q = p + i
      · subst c; rw [up_s, if_pos (by omega), a1]
      · rw [up_k c, h8 q]
        by_cases c2 : p ≤ q ∧ q < p + i
        · rw [if_pos c2, if_pos (by omega)]
        · rw [if_neg c2, if_neg (by omega)]
    · try dsimp only at hP2 kn2
      try dsimp only
      obtain ⟨fr2, g8, g9⟩ := hP2
      have a2 := g9 (p + i + 1) i2 (by omega) hi2
      rw [if_neg (by omega)] at a2
      refine Go_ild4 dL_drops_18 ?_
      refine Go_bipush dL_drops_20 (by decide +kernel) ?_
      refine Go_icmp_ge (tgt := 51) dL_drops_22 (by decide) (by constructor <;> omega) (by constructor <;> omega) (fun h22 => by omega) (fun h22 => ?_)
      refine Go_ald2 dL_drops_25 ?_
      refine Go_bipush dL_drops_26 (by decide +kernel) ?_
      refine Go_ild3 dL_drops_28 ?_
      refine Go_imul dL_drops_29 ?_
      refine Go_ild4 dL_drops_30 ?_
      refine Go_iadd dL_drops_32 ?_
      refine Go_ald2 dL_drops_33 ?_
      refine Go_bipush dL_drops_34 (by decide +kernel) ?_
      refine Go_ild3 dL_drops_36 ?_
      refine Go_iconst dL_drops_37 ?_
      refine Go_iadd dL_drops_38 ?_
      refine Go_imul dL_drops_39 ?_
      refine Go_ild4 dL_drops_40 ?_
      refine Go_iadd dL_drops_42 ?_
      refine Go_iald dL_drops_43 (by first | assumption | rfl) trivial (by omega) (by omega) (by decide) ?_
      rw [show (12 * ((p : Int) + i + 1) + (i2 : Int)).toNat = 12 * (p + i + 1) + i2 by omega]
      refine Go_iast dL_drops_44 (by first | assumption | rfl) trivial (by omega) (by omega) (by decide) ?_
      rw [show (12 * ((p : Int) + i) + (i2 : Int)).toNat = 12 * (p + i) + i2 by omega]
      refine Go_inc4 dL_drops_45 rfl ?_
      refine Go_goto (tgt := 18) dL_drops_48 (by decide) ?_
      refine Go_forget (by repeat' (first | exact Or.inl rfl | exact Or.inr rfl | exact Or.inr (lcg (by omega)) | exact trivial | constructor)) (kn2 _ ⟨fr2.up (by simp), fun q => by rw [up_a (by decide)]; exact g8 q, fun q j hq hj => ?_⟩)
      by_cases c : q = p + i ∧ j = i2
      · obtain ⟨rfl, rfl⟩ := c
        rw [up_s, if_pos (by omega), a2]
      · rw [up_k (by omega), g9 q j hq hj]
        by_cases c2 : p ≤ q ∧ (q < p + i ∨ q = p + i ∧ j < i2)
        · rw [if_pos c2, if_pos (by omega)]
        · rw [if_neg c2, if_neg (by omega)]
    · try dsimp only at hP2
      try dsimp only
      obtain ⟨fr2, g8, g9⟩ := hP2
      refine Go_ild4 dL_drops_18 ?_
      refine Go_bipush dL_drops_20 (by decide +kernel) ?_
      refine Go_icmp_ge (tgt := 51) dL_drops_22 (by decide) (by constructor <;> omega) (by constructor <;> omega) (fun h22 => ?_) (fun h22 => by omega)
      refine Go_inc3 dL_drops_51 rfl ?_
      refine Go_goto (tgt := 2) dL_drops_54 (by decide) ?_
      refine Go_forget (by repeat' (first | exact Or.inl rfl | exact Or.inr rfl | exact Or.inr (lcg (by omega)) | exact trivial | constructor)) (kn _ ⟨fr2, g8, fun q j hq hj => ?_⟩)
      rw [g9 q j hq hj]
      by_cases c2 : p ≤ q ∧ (q < p + i ∨ q = p + i ∧ j < 12)
      · rw [if_pos c2, if_pos (by omega)]
      · rw [if_neg c2, if_neg (by omega)]
  · try dsimp only at hP
    try dsimp only
    obtain ⟨fr, h8, h9⟩ := hP
    have e5 := h8 5
    rw [if_neg (by omega)] at e5
    refine Go_ild3 dL_drops_2 ?_
    refine Go_iconst dL_drops_3 ?_
    refine Go_icmp_ge (tgt := 57) dL_drops_4 (by decide) (by constructor <;> omega) (by constructor <;> omega) (fun h4 => ?_) (fun h4 => by omega)
    refine Go_ald1 dL_drops_57 ?_
    refine Go_iconst dL_drops_58 ?_
    refine Go_iconst dL_drops_59 ?_
    refine Go_iast dL_drops_60 (by first | assumption | rfl) trivial (by omega) (by omega) (by decide) ?_
    rw [show (4 : Int).toNat = 4 from rfl]
    refine Go_ald1 dL_drops_61 ?_
    refine Go_iconst dL_drops_62 ?_
    refine Go_dup2 dL_drops_63 ?_
    refine Go_iald dL_drops_64 (by first | assumption | rfl) trivial (by omega) (by omega) (by decide) ?_
    rw [show (5 : Int).toNat = 5 from rfl, up_k (by decide), e5, hN]
    refine Go_iconst dL_drops_65 ?_
    refine Go_isub dL_drops_66 ?_
    refine Go_iast dL_drops_67 (by first | assumption | rfl) trivial (by omega) (by omega) (by decide) ?_
    rw [show (5 : Int).toNat = 5 from rfl]
    refine Go_return dL_drops_68 rfl ?_
    refine k _ ?_ ((fr.up (by simp)).up (by simp)) (by rw [up_s]) (fun j hj => ?_) (fun q hq => ⟨?_, fun m hm => ?_⟩)
    · refine PA_of (w := w) h (fun a ha => ?_)
      have e9 := h9 (a / 12) (a % 12) (by omega) (by omega)
      rw [show 12 * (a / 12) + a % 12 = a by omega] at e9
      rw [up_a (by decide), up_a (by decide), e9]
      by_cases c : p ≤ a / 12 ∧ (a / 12 < p + (4 - p) ∨ a / 12 = p + (4 - p) ∧ a % 12 < 0)
      · rw [if_pos c]; exact ⟨12 * (a / 12 + 1) + a % 12, by omega, rfl⟩
      · rw [if_neg c]; exact ⟨a, ha, rfl⟩
    · rw [up_k (by omega), up_k (by omega), h8 j, if_neg (by omega)]
    · rw [up_k (by omega), up_k (by omega), h8 q]
      by_cases c : q < p
      · rw [if_neg (by omega), if_pos c]
      · rw [if_pos (by omega), if_neg c]
    · by_cases c : q < p
      · rw [if_pos c]; refine PK_of ?_; rw [up_a (by decide), up_a (by decide), h9 q (m / 4) (by omega) (by omega), if_neg (by omega)]
      · rw [if_neg c]; refine PK_of ?_; rw [up_a (by decide), up_a (by decide), h9 q (m / 4) (by omega) (by omega), if_pos (by omega)]
theorem why_rsn (ho : OKp ps) {p : Nat} {t : Int} (hb : -1 ≤ t ∧ t < 100) : (if t = -1 then 1 else if whI ps t.toNat < 0 ∨ whI ps t.toNat = -5 then 0 else if ow ps t.toNat = p then 2 else 3) = rsn ps p t := by
  have wd := whI_dec ho t.toNat
  have wi := whI_in ho t.toNat
  have oi := ow_in ps t.toNat
  unfold rsn owI
  by_cases c : t = -1
  · rw [if_pos c, if_pos c]
  · rw [if_neg c, if_neg c, if_pos (show 0 ≤ t ∧ t < 100 by omega)]
    (repeat' split) <;> omega
theorem why_slith (ho : OKp ps) {p : Nat} (hp : p < ps.length) {t : Int} (hb : -1 ≤ t ∧ t < 100) : (if t = -1 then 1 else if whI ps t.toNat < 0 ∨ whI ps t.toNat = 100 * (p : Int) then 0 else if ow ps t.toNat = p then 2 else 3) = if t = ((pth ps p).getD 0 0 : Int) then 0 else rsn ps p t := by
  have wd := whI_dec ho t.toNat
  have wi := whI_in ho t.toNat
  have oi := ow_in ps t.toNat
  have hl := ho.len hp
  have hm := getD_mem (l := pth ps p) (j := 0) (by omega)
  have e0 := ow_of ho.nd hm
  rw [idx_getD (ho.nd p).1 (by omega)] at e0
  rw [← why_rsn ho hb]
  by_cases c : t = -1
  · rw [if_pos c, if_pos c, if_neg (by omega)]
  · rw [if_neg c, if_neg c]
    by_cases c2 : t = ((pth ps p).getD 0 0 : Int)
    · have e2 : t.toNat = (pth ps p).getD 0 0 := by omega
      rw [if_pos c2, e2, if_pos]
      right
      unfold whI
      rw [e0.1, e0.2, if_neg (by omega)]
      omega
    · rw [if_neg c2]
      have n : ¬ whI ps t.toNat = 100 * (p : Int) := fun q => by
        rcases ow_cases ho.nd t.toNat with ⟨-, e1, -⟩ | ⟨p', hp', m, e1, e2⟩
        · have := wd.1.mpr e1; omega
        · have d := wd.2 (by omega)
          have bp := ho.plc t.toNat
          have hpp : p' = p := by omega
          subst hpp
          have i0 : (pth ps p').idxOf t.toNat = 0 := by omega
          have g := (getD_idx m).1
          rw [i0] at g
          omega
      have n5 : ¬ whI ps t.toNat = -5 := by omega
      (repeat' split) <;> omega
theorem stepT_in (ps : List (List Nat)) (p d : Nat) : -1 ≤ stepT ps p d ∧ stepT ps p d < 100 := nbI_in _ _
theorem RP_cnt {w : Wd} {j : Nat} {z : Int} (h : RP w ps) (h5 : ps.length ≤ 5) (hj : 6 ≤ j) : RP (up w 68 j z) ps := by
  obtain ⟨a1, a2, a3⟩ := h
  refine ⟨a1.frm (A := [68]) (frm.rfl.up (by simp)) (by simp), by rw [up_k (by omega)]; exact a2, fun p hp => ?_⟩
  have c := a3 p hp
  exact ⟨by rw [up_k (by omega)]; exact c.1, c.2.1, fun k hk => by rw [PK.frm (A := [68]) (frm.rfl.up (by simp)) (by simp)]; exact c.2.2 k hk⟩
theorem RS_ref {w : Wd} {s : Sta} (h : RS w s) (h5 : s.1.length ≤ 5) : RS (up w 68 7 (w 68 7 + 1)) (s.1, s.2.1, s.2.2.1 + 1, s.2.2.2) :=
  ⟨RP_cnt h.1 h5 (by decide), by rw [up_k (by decide)]; exact h.2.1, by rw [up_s, h.2.2.1], by rw [up_k (by decide)]; exact h.2.2.2⟩
/-- a step and a slither -/
theorem e_L_stepped0 {p d : Nat} (h : RS w s) (ho : OKp s.1) (hp : p < s.1.length) (hd : d < 4) (hl47 : (pth s.1 p).length ≤ 47) (k : ∀ w', RS w' (stepS s p d) → frm w w' [68, 69] → K (vi (stepR s.1 p d)) none w') : Ev G yL_stepped cL_stepped 8 mL_stepped none 3 0 0 [vi (p : Int), vi (d : Int), vi 0, vr 68, vr 69] w K X := by
  have h5 := ho.1
  have hq := h.1.2.2 p hp
  have hl := ho.len hp
  have hlen : w 68 (Int.toNat (p : Int)) = ((pth s.1 p).length : Int) := hq.1
  have lt := (ho.lt p).at ((pth s.1 p).length - 1)
  have bt := stepT_in s.1 p d
  have er := why_rsn ho (p := p) bt
  have eR : stepR s.1 p d = rsn s.1 p (stepT s.1 p d) := by unfold stepR; rw [if_neg (by omega)]
  have bR := rsn_in s.1 p (stepT s.1 p d)
  unfold stepS at k
  refine Ev_intro msL_stepped.1 rfl (fun h => by cases h) (allc1 rfl) (Nat.le_of_ble_eq_true rfl) (Or.inl rfl) ?_
  show Go G cL_stepped mL_stepped none 3 0 0 0 [some (vi (p : Int)), some (vi (d : Int)), some (vi 0), some (vr 68), some (vr 69), none, none, none] [] w K X
  refine Go_ild0 dL_stepped_0 ?_
  refine Go_ald3 dL_stepped_1 ?_
  refine Go_ild0 dL_stepped_2 ?_
  refine Go_iald dL_stepped_3 (by first | assumption | rfl) trivial (by omega) (by omega) (by decide) ?_
  refine Go_iconst dL_stepped_4 ?_
  refine Go_isub dL_stepped_5 ?_
  refine Go_ald4 dL_stepped_6 ?_
  rw [hlen, show ((pth s.1 p).length : Int) - 1 = (((pth s.1 p).length - 1 : Nat) : Int) by omega]
  refine Go_cS3 (d' := 0) (bc' := 0) (bs' := 0) rfl dL_stepped_8 msL_at rfl lkL_70 (by decide) (by omega) (by omega) (Nat.le_of_ble_eq_true rfl) ?_
  refine e_L_at h.1.1 (by omega) (by omega) ?_
  rw [hq.2.2 _ (by omega)]
  refine Go_ild1 dL_stepped_11 ?_
  refine Go_cS2 (d' := 0) (bc' := 0) (bs' := 0) rfl dL_stepped_12 msL_go rfl lkL_114 (by decide) (by omega) (by omega) (Nat.le_of_ble_eq_true rfl) ?_
  refine e_L_go lt hd ?_
  rw [show nbI (((pth s.1 p).getD ((pth s.1 p).length - 1) 0 : Nat) : Int) (d : Int) = stepT s.1 p d from rfl]
  refine Go_ist5 dL_stepped_15 rfl ?_
  refine Go_ild0 dL_stepped_17 ?_
  refine Go_ild5 dL_stepped_18 ?_
  refine Go_ild2 dL_stepped_20 ?_
  refine Go_if_eq (tgt := 31) dL_stepped_21 (by decide) (by constructor <;> omega) (fun h21 => ?_) (fun h21 => by omega)
  refine Go_bipush dL_stepped_31 (by decide +kernel) ?_
  refine Go_ald3 dL_stepped_33 ?_
  refine Go_ald4 dL_stepped_34 ?_
  refine Go_cS5 (d' := 2) (bc' := 0) (bs' := 0) rfl dL_stepped_36 msL_why rfl lkL_117 (by decide) (by omega) (by omega) (Nat.le_of_ble_eq_true rfl) ?_
  refine e_L_why (z := (stepT s.1 p d).toNat) h.1 ho (by omega) (by omega) (by constructor <;> omega) ?_ (by omega)
  rw [er, ← eR]
  refine Go_ist6 dL_stepped_39 rfl ?_
  refine Go_ild6 dL_stepped_41 ?_
  by_cases q0 : stepR s.1 p d = 0
  · rw [q0] at k
    have hs : stepT s.1 p d ≠ -1 := fun z => by
      have : rsn s.1 p (stepT s.1 p d) = 1 := by unfold rsn; rw [if_pos z]
      omega
    rw [if_pos rfl] at k
    refine Go_if_le (tgt := 57) dL_stepped_43 (by decide) (by constructor <;> omega) (fun h43 => ?_) (fun h43 => by omega)
    refine Go_ild2 dL_stepped_57 ?_
    refine Go_if_eq (tgt := 114) dL_stepped_58 (by decide) (by constructor <;> omega) (fun h58 => ?_) (fun h58 => by omega)
    refine Go_ild0 dL_stepped_114 ?_
    refine Go_ald3 dL_stepped_115 ?_
    refine Go_ild0 dL_stepped_116 ?_
    refine Go_iald dL_stepped_117 (by first | assumption | rfl) trivial (by omega) (by omega) (by decide) ?_
    refine Go_ild5 dL_stepped_118 ?_
    refine Go_ald4 dL_stepped_120 ?_
    rw [hlen, show stepT s.1 p d = (((stepT s.1 p d).toNat : Nat) : Int) by omega]
    refine Go_cSv4 (d' := 0) (bc' := 0) (bs' := 0) rfl dL_stepped_122 msL_puts rfl lkL_121 (by decide) (by omega) (by omega) (Nat.le_of_ble_eq_true rfl) ?_
    refine e_L_puts h.1.1 (by omega) (by omega) (by omega) (fun w1 a1 f1 k1 => ?_)
    refine Go_ald3 dL_stepped_125 ?_
    refine Go_ild0 dL_stepped_126 ?_
    refine Go_dup2 dL_stepped_127 ?_
    refine Go_iald dL_stepped_128 (by first | assumption | rfl) trivial (by omega) (by omega) (by decide) ?_
    rw [f1.at (by simp), hlen]
    refine Go_iconst dL_stepped_129 ?_
    refine Go_iadd dL_stepped_130 ?_
    refine Go_iast dL_stepped_131 (by first | assumption | rfl) trivial (by omega) (by omega) (by decide) ?_
    rw [Int.toNat_natCast]
    refine Go_ald3 dL_stepped_132 ?_
    refine Go_bipush dL_stepped_133 (by decide +kernel) ?_
    refine Go_dup2 dL_stepped_135 ?_
    refine Go_iald dL_stepped_136 (by first | assumption | rfl) trivial (by omega) (by omega) (by decide) ?_
    rw [show (6 : Int).toNat = 6 from rfl, up_k (by omega), f1.at (by simp)]
    refine Go_iconst dL_stepped_137 ?_
    refine Go_iadd dL_stepped_138 ?_
    refine Go_iast dL_stepped_139 (by first | assumption | rfl) trivial (by omega) (by omega) (by decide) ?_
    rw [show (6 : Int).toNat = 6 from rfl]
    refine Go_iconst dL_stepped_140 ?_
    refine Go_ireturn dL_stepped_141 rfl (by first | rfl | decide | exact nar_b | simp [narrow]) ?_
    have f2 : frm w (up (up w1 68 p ((((pth s.1 p).length : Nat) : Int) + 1)) 68 6 (w 68 6 + 1)) [68, 69] := ((f1.mono (by simp)).up (by simp)).up (by simp)
    refine k _ ⟨?_, ?_, ?_, ?_⟩ f2
    · refine RP_cnt (RP_set h.1 h5 (a1.frm (A := [68]) (frm.rfl.up (by simp)) (by simp)) (by rw [up_k (by omega), f1.at (by simp)]) (fun q hq5 hqp => ⟨by rw [up_k hqp, f1.at (by simp)], fun k hk => ?_⟩) (by rw [up_s, List.length_append]; rfl) (by rw [List.length_append, List.length_singleton]; omega) (fun k hk => ?_)) (by rw [List.length_set]; exact h5) (by decide)
      · rw [PK.frm (A := [68]) (frm.rfl.up (by simp)) (by simp), k1 q k hq5 hk, if_neg (fun z => hqp z.1)]
      · rw [List.length_append, List.length_singleton] at hk
        rw [PK.frm (A := [68]) (frm.rfl.up (by simp)) (by simp), k1 p k (by omega) (by omega), gD_app]
        by_cases c : k < (pth s.1 p).length
        · rw [if_neg (by omega), if_pos c]; exact hq.2.2 k c
        · rw [if_pos ⟨rfl, by omega⟩, if_neg c, show k - (pth s.1 p).length = 0 by omega]; rfl
    · rw [up_s, h.2.1]
    · rw [up_k (by decide), up_k (by omega), f1.at (by simp)]; exact h.2.2.1
    · rw [up_k (by decide), up_k (by omega), f1.at (by simp)]; exact h.2.2.2
  · rw [if_neg q0] at k
    refine Go_if_le (tgt := 57) dL_stepped_43 (by decide) (by constructor <;> omega) (fun h43 => by omega) (fun h43 => ?_)
    refine Go_ald3 dL_stepped_46 ?_
    refine Go_bipush dL_stepped_47 (by decide +kernel) ?_
    refine Go_dup2 dL_stepped_49 ?_
    refine Go_iald dL_stepped_50 (by first | assumption | rfl) trivial (by omega) (by omega) (by decide) ?_
    refine Go_iconst dL_stepped_51 ?_
    refine Go_iadd dL_stepped_52 ?_
    refine Go_iast dL_stepped_53 (by first | assumption | rfl) trivial (by omega) (by omega) (by decide) ?_
    refine Go_ild6 dL_stepped_54 ?_
    refine Go_ireturn dL_stepped_56 rfl (by first | rfl | decide | exact nar_b | simp [narrow]) ?_
    exact k _ (RS_ref h h5) (frm.rfl.up (by simp))
theorem e_L_stepped1 {p d : Nat} (h : RS w s) (ho : OKp s.1) (hp : p < s.1.length) (hd : d < 4) (k : ∀ w', RS w' (slithS s p d) → frm w w' [68, 69] → K (vi (slithR s.1 p d)) none w') : Ev G yL_stepped cL_stepped 8 mL_stepped none 3 0 0 [vi (p : Int), vi (d : Int), vi 1, vr 68, vr 69] w K X := by
  have h5 := ho.1
  have hq := h.1.2.2 p hp
  have hl := ho.len hp
  have hlen : w 68 (Int.toNat (p : Int)) = ((pth s.1 p).length : Int) := hq.1
  have lt := (ho.lt p).at ((pth s.1 p).length - 1)
  have bt := stepT_in s.1 p d
  have er := why_slith ho hp bt
  have eR : slithR s.1 p d = if stepT s.1 p d = ((pth s.1 p).getD 0 0 : Int) then 0 else rsn s.1 p (stepT s.1 p d) := rfl
  have bR := slithR_in s.1 p d
  unfold slithS at k
  refine Ev_intro msL_stepped.1 rfl (fun h => by cases h) (allc1 rfl) (Nat.le_of_ble_eq_true rfl) (Or.inl rfl) ?_
  show Go G cL_stepped mL_stepped none 3 0 0 0 [some (vi (p : Int)), some (vi (d : Int)), some (vi 1), some (vr 68), some (vr 69), none, none, none] [] w K X
  refine Go_ild0 dL_stepped_0 ?_
  refine Go_ald3 dL_stepped_1 ?_
  refine Go_ild0 dL_stepped_2 ?_
  refine Go_iald dL_stepped_3 (by first | assumption | rfl) trivial (by omega) (by omega) (by decide) ?_
  refine Go_iconst dL_stepped_4 ?_
  refine Go_isub dL_stepped_5 ?_
  refine Go_ald4 dL_stepped_6 ?_
  rw [hlen, show ((pth s.1 p).length : Int) - 1 = (((pth s.1 p).length - 1 : Nat) : Int) by omega]
  refine Go_cS3 (d' := 0) (bc' := 0) (bs' := 0) rfl dL_stepped_8 msL_at rfl lkL_70 (by decide) (by omega) (by omega) (Nat.le_of_ble_eq_true rfl) ?_
  refine e_L_at h.1.1 (by omega) (by omega) ?_
  rw [hq.2.2 _ (by omega)]
  refine Go_ild1 dL_stepped_11 ?_
  refine Go_cS2 (d' := 0) (bc' := 0) (bs' := 0) rfl dL_stepped_12 msL_go rfl lkL_114 (by decide) (by omega) (by omega) (Nat.le_of_ble_eq_true rfl) ?_
  refine e_L_go lt hd ?_
  rw [show nbI (((pth s.1 p).getD ((pth s.1 p).length - 1) 0 : Nat) : Int) (d : Int) = stepT s.1 p d from rfl]
  refine Go_ist5 dL_stepped_15 rfl ?_
  refine Go_ild0 dL_stepped_17 ?_
  refine Go_ild5 dL_stepped_18 ?_
  refine Go_ild2 dL_stepped_20 ?_
  refine Go_if_eq (tgt := 31) dL_stepped_21 (by decide) (by constructor <;> omega) (fun h21 => by omega) (fun h21 => ?_)
  refine Go_bipush dL_stepped_24 (by decide +kernel) ?_
  refine Go_ild0 dL_stepped_26 ?_
  refine Go_imul dL_stepped_27 ?_
  refine Go_goto (tgt := 33) dL_stepped_28 (by decide) ?_
  refine Go_ald3 dL_stepped_33 ?_
  refine Go_ald4 dL_stepped_34 ?_
  refine Go_cS5 (d' := 2) (bc' := 0) (bs' := 0) rfl dL_stepped_36 msL_why rfl lkL_117 (by decide) (by omega) (by omega) (Nat.le_of_ble_eq_true rfl) ?_
  refine e_L_why (z := (stepT s.1 p d).toNat) h.1 ho (by omega) (by omega) (by constructor <;> omega) ?_ (by omega)
  rw [er, ← eR]
  refine Go_ist6 dL_stepped_39 rfl ?_
  refine Go_ild6 dL_stepped_41 ?_
  by_cases q0 : slithR s.1 p d = 0
  · rw [q0] at k
    have hs : stepT s.1 p d ≠ -1 := fun z => by
      have : rsn s.1 p (stepT s.1 p d) = 1 := by unfold rsn; rw [if_pos z]
      rw [this, z, if_neg (by omega)] at eR
      omega
    rw [if_pos rfl] at k
    refine Go_if_le (tgt := 57) dL_stepped_43 (by decide) (by constructor <;> omega) (fun h43 => ?_) (fun h43 => by omega)
    refine Go_ild2 dL_stepped_57 ?_
    refine Go_if_eq (tgt := 114) dL_stepped_58 (by decide) (by constructor <;> omega) (fun h58 => by omega) (fun h58 => ?_)
    refine Go_iconst dL_stepped_61 ?_
    refine Go_ist7 dL_stepped_62 rfl ?_
    refine Go_upTo (n := (pth s.1 p).length - 1) (L := fun i => [some (vi (p : Int)), some (vi (d : Int)), some (vi 1), some (vr 68), some (vr 69), some (vi (stepT s.1 p d)), some (vi (slithR s.1 p d)), some (vi (i : Int))]) (P := fun i v => PA v ∧ frm w v [69] ∧ ∀ q k, q < 5 → k < 48 → PK v q k = if q = p ∧ k < i then PK w p (k + 1) else PK w q k) (by repeat' (first | exact Or.inl rfl | exact Or.inr rfl | exact Or.inr (lcg (by omega)) | exact trivial | constructor)) (⟨h.1.1, frm.rfl, fun q k _ _ => by rw [if_neg (by omega)]⟩) (fun i v hi hP kn => ?_) (fun v hP => ?_)
    · try dsimp only at hP kn
      try dsimp only
      obtain ⟨pa, fr, hk⟩ := hP
      refine Go_ild7 dL_stepped_64 ?_
      refine Go_ald3 dL_stepped_66 ?_
      refine Go_ild0 dL_stepped_67 ?_
      refine Go_iald dL_stepped_68 (by first | assumption | rfl) trivial (by omega) (by omega) (by decide) ?_
      refine Go_iconst dL_stepped_69 ?_
      refine Go_isub dL_stepped_70 ?_
      rw [fr.at (by simp), hlen]
      refine Go_icmp_ge (tgt := 98) dL_stepped_71 (by decide) (by constructor <;> omega) (by constructor <;> omega) (fun h71 => by omega) (fun h71 => ?_)
      refine Go_ild0 dL_stepped_74 ?_
      refine Go_ild7 dL_stepped_75 ?_
      refine Go_ild0 dL_stepped_77 ?_
      refine Go_ild7 dL_stepped_78 ?_
      refine Go_iconst dL_stepped_80 ?_
      refine Go_iadd dL_stepped_81 ?_
      refine Go_ald4 dL_stepped_82 ?_
      rw [show (i : Int) + 1 = ((i + 1 : Nat) : Int) by omega]
      refine Go_cS3 (d' := 0) (bc' := 0) (bs' := 0) rfl dL_stepped_84 msL_at rfl lkL_70 (by decide) (by omega) (by omega) (Nat.le_of_ble_eq_true rfl) ?_
      refine e_L_at pa (by omega) (by omega) ?_
      refine Go_ald4 dL_stepped_87 ?_
      refine Go_cSv4 (d' := 0) (bc' := 0) (bs' := 0) rfl dL_stepped_89 msL_puts rfl lkL_121 (by decide) (by omega) (by omega) (Nat.le_of_ble_eq_true rfl) ?_
      refine e_L_puts pa (by omega) (by omega) (PK_lt _ _ _) (fun w1 a1 f1 k1 => ?_)
      refine Go_inc7 dL_stepped_92 rfl ?_
      refine Go_goto (tgt := 64) dL_stepped_95 (by decide) ?_
      refine Go_forget (by repeat' (first | exact Or.inl rfl | exact Or.inr rfl | exact Or.inr (lcg (by omega)) | exact trivial | constructor)) (kn _ ⟨a1, fr.trans f1 (by simp), fun q k hq5 hk48 => ?_⟩)
      have e1 : PK v p (i + 1) = PK w p (i + 1) := by rw [hk p (i + 1) (by omega) (by omega), if_neg (by omega)]
      rw [k1 q k hq5 hk48, e1, hk q k hq5 hk48]
      by_cases c : q = p ∧ k = i
      · rw [if_pos c, if_pos (by omega), c.2]
      · rw [if_neg c]
        by_cases c2 : q = p ∧ k < i
        · rw [if_pos c2, if_pos (by omega)]
        · rw [if_neg c2, if_neg (by omega)]
    · try dsimp only at hP
      try dsimp only
      obtain ⟨pa, fr, hk⟩ := hP
      refine Go_ild7 dL_stepped_64 ?_
      refine Go_ald3 dL_stepped_66 ?_
      refine Go_ild0 dL_stepped_67 ?_
      refine Go_iald dL_stepped_68 (by first | assumption | rfl) trivial (by omega) (by omega) (by decide) ?_
      refine Go_iconst dL_stepped_69 ?_
      refine Go_isub dL_stepped_70 ?_
      rw [fr.at (by simp), hlen]
      refine Go_icmp_ge (tgt := 98) dL_stepped_71 (by decide) (by constructor <;> omega) (by constructor <;> omega) (fun h71 => ?_) (fun h71 => by omega)
      refine Go_ild0 dL_stepped_98 ?_
      refine Go_ald3 dL_stepped_99 ?_
      refine Go_ild0 dL_stepped_100 ?_
      refine Go_iald dL_stepped_101 (by first | assumption | rfl) trivial (by omega) (by omega) (by decide) ?_
      refine Go_iconst dL_stepped_102 ?_
      refine Go_isub dL_stepped_103 ?_
      refine Go_ild5 dL_stepped_104 ?_
      refine Go_ald4 dL_stepped_106 ?_
      rw [fr.at (by simp), hlen, show stepT s.1 p d = (((stepT s.1 p d).toNat : Nat) : Int) by omega, show ((pth s.1 p).length : Int) - 1 = (((pth s.1 p).length - 1 : Nat) : Int) by omega]
      refine Go_cSv4 (d' := 0) (bc' := 0) (bs' := 0) rfl dL_stepped_108 msL_puts rfl lkL_121 (by decide) (by omega) (by omega) (Nat.le_of_ble_eq_true rfl) ?_
      refine e_L_puts pa (by omega) (by omega) (by omega) (fun w1 a1 f1' k1 => ?_)
      have f1 : frm w w1 [69] := fr.trans f1' (by simp)
      refine Go_goto (tgt := 132) dL_stepped_111 (by decide) ?_
      refine Go_ald3 dL_stepped_132 ?_
      refine Go_bipush dL_stepped_133 (by decide +kernel) ?_
      refine Go_dup2 dL_stepped_135 ?_
      refine Go_iald dL_stepped_136 (by first | assumption | rfl) trivial (by omega) (by omega) (by decide) ?_
      rw [show (6 : Int).toNat = 6 from rfl, f1.at (by simp)]
      refine Go_iconst dL_stepped_137 ?_
      refine Go_iadd dL_stepped_138 ?_
      refine Go_iast dL_stepped_139 (by first | assumption | rfl) trivial (by omega) (by omega) (by decide) ?_
      rw [show (6 : Int).toNat = 6 from rfl]
      refine Go_iconst dL_stepped_140 ?_
      refine Go_ireturn dL_stepped_141 rfl (by first | rfl | decide | exact nar_b | simp [narrow]) ?_
      have f2 : frm w (up w1 68 6 (w 68 6 + 1)) [68, 69] := (f1.mono (by simp)).up (by simp)
      refine k _ ⟨?_, ?_, ?_, ?_⟩ f2
      · refine RP_cnt (RP_set h.1 h5 a1 (by rw [f1.at (by simp)]) (fun q hq5 hqp => ⟨by rw [f1.at (by simp)], fun m hm => ?_⟩) (by rw [f1.at (by simp), List.length_append, List.length_drop, List.length_singleton, hq.1]; omega) (by rw [List.length_append, List.length_drop, List.length_singleton]; omega) (fun m hm => ?_)) (by rw [List.length_set]; exact h5) (by decide)
        · rw [k1 q m hq5 hm, if_neg (fun z => hqp z.1), hk q m hq5 hm, if_neg (fun z => hqp z.1)]
        · rw [List.length_append, List.length_drop, List.length_singleton] at hm
          rw [k1 p m (by omega) (by omega), gD_app, List.length_drop]
          by_cases c : m < (pth s.1 p).length - 1
          · rw [if_neg (by omega), if_pos c, hk p m (by omega) (by omega), if_pos ⟨rfl, c⟩, hq.2.2 _ (by omega), drop_getD, Nat.add_comm]
          · rw [if_pos ⟨rfl, by omega⟩, if_neg c, show m - ((pth s.1 p).length - 1) = 0 by omega]; rfl
      · rw [up_s, h.2.1]
      · rw [up_k (by decide), f1.at (by simp)]; exact h.2.2.1
      · rw [up_k (by decide), f1.at (by simp)]; exact h.2.2.2
  · rw [if_neg q0] at k
    refine Go_if_le (tgt := 57) dL_stepped_43 (by decide) (by constructor <;> omega) (fun h43 => by omega) (fun h43 => ?_)
    refine Go_ald3 dL_stepped_46 ?_
    refine Go_bipush dL_stepped_47 (by decide +kernel) ?_
    refine Go_dup2 dL_stepped_49 ?_
    refine Go_iald dL_stepped_50 (by first | assumption | rfl) trivial (by omega) (by omega) (by decide) ?_
    refine Go_iconst dL_stepped_51 ?_
    refine Go_iadd dL_stepped_52 ?_
    refine Go_iast dL_stepped_53 (by first | assumption | rfl) trivial (by omega) (by omega) (by decide) ?_
    refine Go_ild6 dL_stepped_54 ?_
    refine Go_ireturn dL_stepped_56 rfl (by first | rfl | decide | exact nar_b | simp [narrow]) ?_
    exact k _ (RS_ref h h5) (frm.rfl.up (by simp))
theorem e_L_turns {p pl q : Nat} (h : RS w s) (ho : OKp s.1) (hp : p < s.1.length) (hpl : pl < (pth s.1 p).length) (h1 : 1 ≤ q) (h3 : q ≤ 3)
    (k : ∀ w', RS w' (if whyT s.1 p pl q = 0 then turS s p pl q else (s.1, s.2.1, s.2.2.1 + 1, s.2.2.2)) → frm w w' [68, 69] → K (vi (whyT s.1 p pl q)) none w') : Ev G yL_turns cL_turns 7 mL_turns none 3 0 0 [vi (p : Int), vi (pl : Int), vi (q : Int), vr 68, vr 69] w K X := by
  have h5 := ho.1
  have hq := h.1.2.2 p hp
  have hl := ho.len hp
  have hlen : w 68 (Int.toNat (p : Int)) = ((pth s.1 p).length : Int) := hq.1
  have lt := ho.lt p
  have bw := whyT_in s.1 p pl q
  refine Ev_intro msL_turns.1 rfl (fun h => by cases h) (allc1 rfl) (Nat.le_of_ble_eq_true rfl) (Or.inl rfl) ?_
  show Go G cL_turns mL_turns none 3 0 0 0 [some (vi (p : Int)), some (vi (pl : Int)), some (vi (q : Int)), some (vr 68), some (vr 69), none, none] [] w K X
  refine Go_ild0 dL_turns_0 ?_
  refine Go_ild1 dL_turns_1 ?_
  refine Go_ild2 dL_turns_2 ?_
  refine Go_ald3 dL_turns_3 ?_
  refine Go_ald4 dL_turns_4 ?_
  refine Go_cS5 (d' := 2) (bc' := 0) (bs' := 0) rfl dL_turns_6 msL_whyNotTurned rfl lkL_125 (by decide) (by omega) (by omega) (Nat.le_of_ble_eq_true rfl) ?_
  refine e_L_whyNotTurned h.1 ho hp hpl h1 h3 ?_
  refine Go_ist5 dL_turns_9 rfl ?_
  refine Go_ild5 dL_turns_11 ?_
  by_cases q0 : whyT s.1 p pl q = 0
  · rw [if_pos q0, q0] at k
    have sw := fun m h1 h2 => (whyT_s q0 (m := m) h1 h2).1
    refine Go_if_le (tgt := 27) dL_turns_13 (by decide) (by constructor <;> omega) (fun h13 => ?_) (fun h13 => by omega)
    refine Go_ild1 dL_turns_27 ?_
    refine Go_iconst dL_turns_28 ?_
    refine Go_iadd dL_turns_29 ?_
    refine Go_ist6 dL_turns_30 rfl ?_
    refine Go_upTo (n := (pth s.1 p).length - (pl + 1)) (L := fun i => [some (vi (p : Int)), some (vi (pl : Int)), some (vi (q : Int)), some (vr 68), some (vr 69), some (vi (whyT s.1 p pl q)), some (vi ((pl : Int) + 1 + i))]) (P := fun i v => PA v ∧ frm w v [69] ∧ ∀ r k, r < 5 → k < 48 → PK v r k = if r = p ∧ pl < k ∧ k < pl + 1 + i then (swI ((pth s.1 p).getD k 0) ((pth s.1 p).getD pl 0) q).toNat else PK w r k) (by repeat' (first | exact Or.inl rfl | exact Or.inr rfl | exact Or.inr (lcg (by omega)) | exact trivial | constructor)) (⟨h.1.1, frm.rfl, fun q k _ _ => by rw [if_neg (by omega)]⟩) (fun i v hi hP kn => ?_) (fun v hP => ?_)
    · try dsimp only at hP kn
      try dsimp only
      obtain ⟨pa, fr, hk⟩ := hP
      have b1 := lt.at (pl + 1 + i)
      have b2 := lt.at pl
      have sb := swI_in ((pth s.1 p).getD (pl + 1 + i) 0) ((pth s.1 p).getD pl 0) q
      have sn := sw (pl + 1 + i) (by omega) (by omega)
      refine Go_ild6 dL_turns_32 ?_
      refine Go_ald3 dL_turns_34 ?_
      refine Go_ild0 dL_turns_35 ?_
      refine Go_iald dL_turns_36 (by first | assumption | rfl) trivial (by omega) (by omega) (by decide) ?_
      rw [fr.at (by simp), hlen]
      refine Go_icmp_ge (tgt := 73) dL_turns_37 (by decide) (by constructor <;> omega) (by constructor <;> omega) (fun h37 => by omega) (fun h37 => ?_)
      refine Go_ild0 dL_turns_40 ?_
      refine Go_ild6 dL_turns_41 ?_
      refine Go_ild0 dL_turns_43 ?_
      refine Go_ild6 dL_turns_44 ?_
      refine Go_ald4 dL_turns_46 ?_
      rw [show (pl : Int) + 1 + (i : Int) = ((pl + 1 + i : Nat) : Int) by omega]
      refine Go_cS3 (d' := 0) (bc' := 0) (bs' := 0) rfl dL_turns_48 msL_at rfl lkL_70 (by decide) (by omega) (by omega) (Nat.le_of_ble_eq_true rfl) ?_
      refine e_L_at pa (by omega) (by omega) ?_
      rw [hk p (pl + 1 + i) (by omega) (by omega), if_neg (by omega), hq.2.2 _ (by omega)]
      refine Go_ild0 dL_turns_51 ?_
      refine Go_ild1 dL_turns_52 ?_
      refine Go_ald4 dL_turns_53 ?_
      refine Go_cS3 (d' := 0) (bc' := 0) (bs' := 0) rfl dL_turns_55 msL_at rfl lkL_70 (by decide) (by omega) (by omega) (Nat.le_of_ble_eq_true rfl) ?_
      refine e_L_at pa (by omega) (by omega) ?_
      rw [hk p pl (by omega) (by omega), if_neg (by omega), hq.2.2 _ (by omega)]
      refine Go_ild2 dL_turns_58 ?_
      refine Go_cS3 (d' := 0) (bc' := 0) (bs' := 0) rfl dL_turns_59 msL_turned rfl lkL_80 (by decide) (by omega) (by omega) (Nat.le_of_ble_eq_true rfl) ?_
      refine e_L_turned b1 b2 h1 h3 ?_
      rw [show swI ((pth s.1 p).getD (pl + 1 + i) 0) ((pth s.1 p).getD pl 0) q = (((swI ((pth s.1 p).getD (pl + 1 + i) 0) ((pth s.1 p).getD pl 0) q).toNat : Nat) : Int) by omega]
      refine Go_ald4 dL_turns_62 ?_
      refine Go_cSv4 (d' := 0) (bc' := 0) (bs' := 0) rfl dL_turns_64 msL_puts rfl lkL_121 (by decide) (by omega) (by omega) (Nat.le_of_ble_eq_true rfl) ?_
      refine e_L_puts pa (by omega) (by omega) (by omega) (fun w1 a1 f1 k1 => ?_)
      refine Go_inc6 dL_turns_67 rfl ?_
      refine Go_goto (tgt := 32) dL_turns_70 (by decide) ?_
      refine Go_forget (by repeat' (first | exact Or.inl rfl | exact Or.inr rfl | exact Or.inr (lcg (by omega)) | exact trivial | constructor)) (kn _ ⟨a1, fr.trans f1 (by simp), fun r m hr hm => ?_⟩)
      rw [k1 r m hr hm, hk r m hr hm]
      by_cases c : r = p ∧ m = pl + 1 + i
      · rw [if_pos c, if_pos (by omega), c.2]
      · rw [if_neg c]
        by_cases c2 : r = p ∧ pl < m ∧ m < pl + 1 + i
        · rw [if_pos c2, if_pos (by omega)]
        · rw [if_neg c2, if_neg (by omega)]
    · try dsimp only at hP
      try dsimp only
      obtain ⟨pa, fr, hk⟩ := hP
      refine Go_ild6 dL_turns_32 ?_
      refine Go_ald3 dL_turns_34 ?_
      refine Go_ild0 dL_turns_35 ?_
      refine Go_iald dL_turns_36 (by first | assumption | rfl) trivial (by omega) (by omega) (by decide) ?_
      rw [fr.at (by simp), hlen]
      refine Go_icmp_ge (tgt := 73) dL_turns_37 (by decide) (by constructor <;> omega) (by constructor <;> omega) (fun h37 => ?_) (fun h37 => by omega)
      refine Go_ald3 dL_turns_73 ?_
      refine Go_bipush dL_turns_74 (by decide +kernel) ?_
      refine Go_dup2 dL_turns_76 ?_
      refine Go_iald dL_turns_77 (by first | assumption | rfl) trivial (by omega) (by omega) (by decide) ?_
      rw [show (8 : Int).toNat = 8 from rfl, fr.at (by simp)]
      refine Go_iconst dL_turns_78 ?_
      refine Go_iadd dL_turns_79 ?_
      refine Go_iast dL_turns_80 (by first | assumption | rfl) trivial (by omega) (by omega) (by decide) ?_
      rw [show (8 : Int).toNat = 8 from rfl]
      refine Go_iconst dL_turns_81 ?_
      refine Go_ireturn dL_turns_82 rfl (by first | rfl | decide | exact nar_b | simp [narrow]) ?_
      have f2 : frm w (up v 68 8 (w 68 8 + 1)) [68, 69] := (fr.mono (by simp)).up (by simp)
      refine k _ ⟨?_, ?_, ?_, ?_⟩ f2
      · refine RP_cnt (RP_set h.1 h5 pa (by rw [fr.at (by simp)]) (fun r hr5 hrp => ⟨by rw [fr.at (by simp)], fun m hm => ?_⟩) (by rw [fr.at (by simp), hq.1]; unfold turL; rw [mvL_len]) (by unfold turL; rw [mvL_len]; exact hq.2.1) (fun m hm => ?_)) (by show (s.1.set _ _).length ≤ 5; rw [List.length_set]; exact h5) (by decide)
        · rw [hk r m hr5 hm, if_neg (fun z => hrp z.1)]
        · unfold turL at hm ⊢
          rw [mvL_len] at hm
          rw [mvL_at hm, hk p m (by omega) (by omega)]
          by_cases c : m ≤ pl ∨ (pth s.1 p).length ≤ m
          · rw [if_neg (by omega), if_pos c]; exact hq.2.2 m hm
          · rw [if_pos (by omega), if_neg c]
      · rw [up_k (by decide), fr.at (by simp)]; exact h.2.1
      · rw [up_k (by decide), fr.at (by simp)]; exact h.2.2.1
      · rw [up_s, h.2.2.2]; rfl
  · rw [if_neg q0] at k
    refine Go_if_le (tgt := 27) dL_turns_13 (by decide) (by constructor <;> omega) (fun h13 => by omega) (fun h13 => ?_)
    refine Go_ald3 dL_turns_16 ?_
    refine Go_bipush dL_turns_17 (by decide +kernel) ?_
    refine Go_dup2 dL_turns_19 ?_
    refine Go_iald dL_turns_20 (by first | assumption | rfl) trivial (by omega) (by omega) (by decide) ?_
    refine Go_iconst dL_turns_21 ?_
    refine Go_iadd dL_turns_22 ?_
    refine Go_iast dL_turns_23 (by first | assumption | rfl) trivial (by omega) (by omega) (by decide) ?_
    refine Go_ild5 dL_turns_24 ?_
    refine Go_ireturn dL_turns_26 rfl (by first | rfl | decide | exact nar_b | simp [narrow]) ?_
    exact k _ (RS_ref h h5) (frm.rfl.up (by simp))
end Due1
