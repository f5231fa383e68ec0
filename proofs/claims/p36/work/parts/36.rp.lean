/-! the arrays when paths change -/
theorem RP_set {w w' : Wd} {ps : List (List Nat)} {p : Nat} {l : List Nat} (h : RP w ps) (h5 : ps.length ≤ 5) (ha : PA w') (hc : w' 68 5 = w 68 5) (ho : ∀ q, q < 5 → q ≠ p → w' 68 q = w 68 q ∧ ∀ k, k < 48 → PK w' q k = PK w q k) (hn : w' 68 p = (l.length : Int)) (hl : l.length ≤ 48) (hk : ∀ k, k < l.length → PK w' p k = l.getD k 0) : RP w' (ps.set p l) := by
  refine ⟨ha, by rw [hc, List.length_set]; exact h.2.1, fun q hq => ?_⟩
  rw [List.length_set] at hq
  by_cases c : q = p
  · subst c
    rw [pth_set hq, if_pos rfl]
    exact ⟨hn, hl, hk⟩
  · have hp : p < ps.length ∨ ps.length ≤ p := by omega
    have e : pth (ps.set p l) q = pth ps q := by
      rcases hp with hp | hp
      · rw [pth_set hp, if_neg c]
      · rw [List.set_eq_of_length_le hp]
    rw [e]
    have a := h.2.2 q hq
    have b := ho q (by omega) c
    exact ⟨by rw [b.1]; exact a.1, a.2.1, fun k hk => by rw [b.2 k (by omega)]; exact a.2.2 k hk⟩
theorem RP_app {w w' : Wd} {ps : List (List Nat)} {l : List Nat} (h : RP w ps) (h5 : ps.length < 5) (ha : PA w') (hc : w' 68 5 = w 68 5 + 1) (ho : ∀ q, q < ps.length → w' 68 q = w 68 q ∧ ∀ k, k < 48 → PK w' q k = PK w q k) (hn : w' 68 ps.length = (l.length : Int)) (hl : l.length ≤ 48) (hk : ∀ k, k < l.length → PK w' ps.length k = l.getD k 0) : RP w' (ps ++ [l]) := by
  refine ⟨ha, by rw [hc, h.2.1, List.length_append]; rfl, fun q hq => ?_⟩
  rw [List.length_append, List.length_singleton] at hq
  rw [pth_app]
  by_cases c : q = ps.length
  · subst c
    rw [if_pos rfl]
    exact ⟨hn, hl, hk⟩
  · rw [if_neg c]
    have a := h.2.2 q (by omega)
    have b := ho q (by omega)
    exact ⟨by rw [b.1]; exact a.1, a.2.1, fun k hk => by rw [b.2 k (by omega)]; exact a.2.2 k hk⟩
theorem RP_erase {w w' : Wd} {ps : List (List Nat)} {p : Nat} (h : RP w ps) (h5 : ps.length ≤ 5) (hp : p < ps.length) (ha : PA w') (hc : w' 68 5 = w 68 5 - 1) (ho : ∀ q, q < 4 → w' 68 q = (if q < p then w 68 q else w 68 (q + 1)) ∧ ∀ k, k < 48 → PK w' q k = if q < p then PK w q k else PK w (q + 1) k) : RP w' (ps.eraseIdx p) := by
  have hl : (ps.eraseIdx p).length = ps.length - 1 := List.length_eraseIdx_of_lt hp
  refine ⟨ha, by rw [hc, h.2.1, hl]; omega, fun q hq => ?_⟩
  rw [hl] at hq
  have b := ho q (by omega)
  rw [pth_erase]
  by_cases c : q < p
  · rw [if_pos c] at b ⊢
    have a := h.2.2 q (by omega)
    exact ⟨by rw [b.1]; exact a.1, a.2.1, fun k hk => by rw [b.2 k (by omega), if_pos c]; exact a.2.2 k hk⟩
  · rw [if_neg c] at b ⊢
    have a := h.2.2 (q + 1) (by omega)
    exact ⟨by rw [b.1]; exact a.1, a.2.1, fun k hk => by rw [b.2 k (by omega), if_neg c]; exact a.2.2 k hk⟩
/-- the counters too -/
def RS (w : Wd) (s : Sta) : Prop := RP w s.1 ∧ w 68 6 = s.2.1 ∧ w 68 7 = s.2.2.1 ∧ w 68 8 = s.2.2.2
theorem RS.frm {w w' : Wd} {s : Sta} {A : List Nat} (h : RS w s) (f : frm w w' A) (h1 : 68 ∉ A) (h2 : 69 ∉ A) : RS w' s :=
  ⟨h.1.frm f h1 h2, by rw [f.at h1]; exact h.2.1, by rw [f.at h1]; exact h.2.2.1, by rw [f.at h1]; exact h.2.2.2⟩
/-- whether a value has come -/
def hasF (f : Nat → Int) (v : Int) : Nat → Int
  | 0 => 0
  | n + 1 => if hasF f v n = 1 ∨ f n = v then 1 else 0
theorem hasF_in (f : Nat → Int) (v : Int) (n : Nat) : hasF f v n = 0 ∨ hasF f v n = 1 := by
  cases n with
  | zero => exact Or.inl rfl
  | succ n => unfold hasF; split; exact Or.inr rfl; exact Or.inl rfl
theorem mnF_has {f : Nat → Int} (h : ∀ j, f j = 1 ∨ f j = 2 ∨ f j = 3 ∨ f j = 9) : ∀ n, mnF f 9 n = if hasF f 1 n = 1 then 1 else if hasF f 2 n = 1 then 2 else if hasF f 3 n = 1 then 3 else 9
  | 0 => rfl
  | n + 1 => by
    have ih := mnF_has h n
    have hn := h n
    have e : mnF f 9 (n + 1) = if f n < mnF f 9 n then f n else mnF f 9 n := rfl
    have e1 : hasF f 1 (n + 1) = if hasF f 1 n = 1 ∨ f n = 1 then 1 else 0 := rfl
    have e2 : hasF f 2 (n + 1) = if hasF f 2 n = 1 ∨ f n = 2 then 1 else 0 := rfl
    have e3 : hasF f 3 (n + 1) = if hasF f 3 n = 1 ∨ f n = 3 then 1 else 0 := rfl
    rw [e, e1, e2, e3, ih]
    have i1 := hasF_in f 1 n
    have i2 := hasF_in f 2 n
    have i3 := hasF_in f 3 n
    rcases i1 with i1 | i1 <;> rcases i2 with i2 | i2 <;> rcases i3 with i3 | i3 <;> rcases hn with hn | hn | hn | hn <;> rw [i1, i2, i3, hn] <;> decide
theorem tcl_4 (ps : List (List Nat)) (p pl q m : Nat) : tcl ps p pl q m = 1 ∨ tcl ps p pl q m = 2 ∨ tcl ps p pl q m = 3 ∨ tcl ps p pl q m = 9 := by unfold tcl; repeat' split; all_goals omega
section Rp
variable {G : Gm} {w : Wd} {K : Kt} {X : Xt} {ps : List (List Nat)}
theorem e_L_whoseI {z : Int} (h : RP w ps) (ho : OKp ps) (h0 : 0 ≤ z) (hz : z < 100) (k : K (vi (whI ps z.toNat)) none w) : Ev G yL_whose cL_whose 5 mL_whose none 1 0 0 [vi z, vr 68, vr 69] w K X := by
  obtain ⟨n, rfl⟩ := Int.eq_ofNat_of_zero_le h0
  exact e_L_whose h ho (by omega) k
theorem e_L_whyNotTurned {p pl q : Nat} (h : RP w ps) (ho : OKp ps) (hp : p < ps.length) (hpl : pl < (pth ps p).length) (h1 : 1 ≤ q) (h3 : q ≤ 3) (k : K (vi (whyT ps p pl q)) none w) : Ev G yL_whyNotTurned cL_whyNotTurned 11 mL_whyNotTurned none 2 0 0 [vi (p : Int), vi (pl : Int), vi (q : Int), vr 68, vr 69] w K X := by
  have h5 := ho.1
  have hq := h.2.2 p hp
  have hlen : w 68 (Int.toNat (p : Int)) = ((pth ps p).length : Int) := hq.1
  have lt := ho.lt p
  obtain ⟨f, hf⟩ : ∃ f : Nat → Int, f = fun j => tcl ps p pl q (pl + 1 + j) := ⟨_, rfl⟩
  have hk : whyT ps p pl q = if hasF f 1 ((pth ps p).length - (pl + 1)) = 1 then 1 else if hasF f 2 ((pth ps p).length - (pl + 1)) = 1 then 2 else if hasF f 3 ((pth ps p).length - (pl + 1)) = 1 then 3 else 0 := by
    have m := mnF_has (f := f) (fun j => by rw [hf]; exact tcl_4 _ _ _ _ _) ((pth ps p).length - (pl + 1))
    unfold whyT tmn
    rw [← hf, m]
    have i1 := hasF_in f 1 ((pth ps p).length - (pl + 1))
    have i2 := hasF_in f 2 ((pth ps p).length - (pl + 1))
    have i3 := hasF_in f 3 ((pth ps p).length - (pl + 1))
    rcases i1 with i1 | i1 <;> rcases i2 with i2 | i2 <;> rcases i3 with i3 | i3 <;> rw [i1, i2, i3] <;> decide
  rw [hk] at k
  refine Ev_intro msL_whyNotTurned.1 rfl (fun h => by cases h) (allc1 rfl) (Nat.le_of_ble_eq_true rfl) (Or.inl rfl) ?_
  show Go G cL_whyNotTurned mL_whyNotTurned none 2 0 0 0 [some (vi (p : Int)), some (vi (pl : Int)), some (vi (q : Int)), some (vr 68), some (vr 69), none, none, none, none, none, none] [] w K X
  refine Go_iconst dL_whyNotTurned_0 ?_
  refine Go_ist5 dL_whyNotTurned_1 rfl ?_
  refine Go_iconst dL_whyNotTurned_3 ?_
  refine Go_ist6 dL_whyNotTurned_4 rfl ?_
  refine Go_iconst dL_whyNotTurned_6 ?_
  refine Go_ist7 dL_whyNotTurned_7 rfl ?_
  refine Go_ild1 dL_whyNotTurned_9 ?_
  refine Go_iconst dL_whyNotTurned_10 ?_
  refine Go_iadd dL_whyNotTurned_11 ?_
  refine Go_ist8 dL_whyNotTurned_12 rfl ?_
  refine Go_upTo (n := (pth ps p).length - (pl + 1)) (L := fun i => [some (vi (p : Int)), some (vi (pl : Int)), some (vi (q : Int)), some (vr 68), some (vr 69), some (vi (hasF f 1 i)), some (vi (hasF f 2 i)), some (vi (hasF f 3 i)), some (vi ((pl : Int) + 1 + i)), none, none]) (P := fun i v => v = w) (by repeat' (first | exact Or.inl rfl | exact Or.inr rfl | exact Or.inr (lcg (by omega)) | exact trivial | constructor)) (rfl) (fun i v hi hP kn => ?_) (fun v hP => ?_)
  · try dsimp only at hP kn
    try dsimp only
    subst hP
    have i1 := hasF_in f 1 i
    have i2 := hasF_in f 2 i
    have i3 := hasF_in f 3 i
    have e1 : hasF f 1 (i + 1) = if hasF f 1 i = 1 ∨ f i = 1 then 1 else 0 := rfl
    have e2 : hasF f 2 (i + 1) = if hasF f 2 i = 1 ∨ f i = 2 then 1 else 0 := rfl
    have e3 : hasF f 3 (i + 1) = if hasF f 3 i = 1 ∨ f i = 3 then 1 else 0 := rfl
    have ft : f i = tcl ps p pl q (pl + 1 + i) := by rw [hf]
    have b1 := lt.at (pl + 1 + i)
    have b2 := lt.at pl
    obtain ⟨to, hto⟩ : ∃ to : Int, to = swI ((pth ps p).getD (pl + 1 + i) 0) ((pth ps p).getD pl 0) q := ⟨_, rfl⟩
    have bt : -1 ≤ to ∧ to < 100 := by rw [hto]; exact swI_in _ _ _
    unfold tcl at ft
    rw [← hto] at ft
    have wd := whI_dec ho to.toNat
    have wi := whI_in ho to.toNat
    have oi := ow_in ps to.toNat
    have pi := ho.plc to.toNat
    have kC : ∀ (z W : Int), z = hasF f 3 (i + 1) → Go G cL_whyNotTurned mL_whyNotTurned none 2 0 0 138 [some (vi (p : Int)), some (vi (pl : Int)), some (vi (q : Int)), some (vr 68), some (vr 69), some (vi (hasF f 1 (i + 1))), some (vi (hasF f 2 (i + 1))), some (vi (hasF f 3 i)), some (vi ((pl : Int) + 1 + i)), some (vi to), some (vi W)] [vi z] v K X := fun z W hz => by
      refine Go_ist7 dL_whyNotTurned_138 rfl ?_
      refine Go_inc8 dL_whyNotTurned_140 rfl ?_
      refine Go_goto (tgt := 14) dL_whyNotTurned_143 (by decide) ?_
      rw [hz]
      exact Go_forget (by repeat' (first | exact Or.inl rfl | exact Or.inr rfl | exact Or.inr (lcg (by omega)) | exact trivial | constructor)) (kn _ rfl)
    have kB : ∀ (z W : Int), (to = -1 ∧ W = -1 ∨ 0 ≤ to ∧ W = whI ps to.toNat) → z = hasF f 2 (i + 1) → Go G cL_whyNotTurned mL_whyNotTurned none 2 0 0 112 [some (vi (p : Int)), some (vi (pl : Int)), some (vi (q : Int)), some (vr 68), some (vr 69), some (vi (hasF f 1 (i + 1))), some (vi (hasF f 2 i)), some (vi (hasF f 3 i)), some (vi ((pl : Int) + 1 + i)), some (vi to), some (vi W)] [vi z] v K X := fun z W hW hz => by
      subst hz
      refine Go_ist6 dL_whyNotTurned_112 rfl ?_
      refine Go_ild7 dL_whyNotTurned_114 ?_
      refine Go_if_ne (tgt := 133) dL_whyNotTurned_116 (by decide) (by constructor <;> omega) (fun h116 => ?_) (fun h116 => ?_)
      · refine Go_iconst dL_whyNotTurned_133 ?_
        refine Go_goto (tgt := 138) dL_whyNotTurned_134 (by decide) ?_
        refine kC _ _ ?_
        rw [e3, ft]
        (repeat' split) <;> omega
      · refine Go_ild10 dL_whyNotTurned_119 ?_
        refine Go_if_lt (tgt := 137) dL_whyNotTurned_121 (by decide) (by constructor <;> omega) (fun h121 => ?_) (fun h121 => ?_)
        · refine Go_iconst dL_whyNotTurned_137 ?_
          refine kC _ _ ?_
          rw [e3, ft]
          (repeat' split) <;> omega
        · refine Go_ild10 dL_whyNotTurned_124 ?_
          refine Go_bipush dL_whyNotTurned_126 (by decide +kernel) ?_
          refine Go_idiv dL_whyNotTurned_128 (by omega) (by omega) (by omega) (by omega) ?_
          refine Go_ild0 dL_whyNotTurned_129 ?_
          refine Go_icmp_eq (tgt := 137) dL_whyNotTurned_130 (by decide) (by constructor <;> omega) (by constructor <;> omega) (fun h130 => ?_) (fun h130 => ?_)
          · refine Go_iconst dL_whyNotTurned_137 ?_
            refine kC _ _ ?_
            rw [e3, ft]
            (repeat' split) <;> omega
          · refine Go_iconst dL_whyNotTurned_133 ?_
            refine Go_goto (tgt := 138) dL_whyNotTurned_134 (by decide) ?_
            refine kC _ _ ?_
            rw [e3, ft]
            (repeat' split) <;> omega
    have kA : ∀ (z W : Int), (to = -1 ∧ W = -1 ∨ 0 ≤ to ∧ W = whI ps to.toNat) → z = hasF f 1 (i + 1) → Go G cL_whyNotTurned mL_whyNotTurned none 2 0 0 77 [some (vi (p : Int)), some (vi (pl : Int)), some (vi (q : Int)), some (vr 68), some (vr 69), some (vi (hasF f 1 i)), some (vi (hasF f 2 i)), some (vi (hasF f 3 i)), some (vi ((pl : Int) + 1 + i)), some (vi to), some (vi W)] [vi z] v K X := fun z W hW hz => by
      subst hz
      refine Go_ist5 dL_whyNotTurned_77 rfl ?_
      refine Go_ild6 dL_whyNotTurned_79 ?_
      refine Go_if_ne (tgt := 107) dL_whyNotTurned_81 (by decide) (by constructor <;> omega) (fun h81 => ?_) (fun h81 => ?_)
      · refine Go_iconst dL_whyNotTurned_107 ?_
        refine Go_goto (tgt := 112) dL_whyNotTurned_108 (by decide) ?_
        refine kB _ _ hW ?_
        rw [e2, ft]
        (repeat' split) <;> omega
      · refine Go_ild10 dL_whyNotTurned_84 ?_
        refine Go_if_lt (tgt := 111) dL_whyNotTurned_86 (by decide) (by constructor <;> omega) (fun h86 => ?_) (fun h86 => ?_)
        · refine Go_iconst dL_whyNotTurned_111 ?_
          refine kB _ _ hW ?_
          rw [e2, ft]
          (repeat' split) <;> omega
        · refine Go_ild10 dL_whyNotTurned_89 ?_
          refine Go_bipush dL_whyNotTurned_91 (by decide +kernel) ?_
          refine Go_idiv dL_whyNotTurned_93 (by omega) (by omega) (by omega) (by omega) ?_
          refine Go_ild0 dL_whyNotTurned_94 ?_
          refine Go_icmp_ne (tgt := 111) dL_whyNotTurned_95 (by decide) (by constructor <;> omega) (by constructor <;> omega) (fun h95 => ?_) (fun h95 => ?_)
          · refine Go_iconst dL_whyNotTurned_111 ?_
            refine kB _ _ hW ?_
            rw [e2, ft]
            (repeat' split) <;> omega
          · refine Go_ild10 dL_whyNotTurned_98 ?_
            refine Go_bipush dL_whyNotTurned_100 (by decide +kernel) ?_
            refine Go_irem dL_whyNotTurned_102 (by omega) (by omega) (by omega) (by omega) ?_
            refine Go_ild1 dL_whyNotTurned_103 ?_
            refine Go_icmp_gt (tgt := 111) dL_whyNotTurned_104 (by decide) (by constructor <;> omega) (by constructor <;> omega) (fun h104 => ?_) (fun h104 => ?_)
            · refine Go_iconst dL_whyNotTurned_111 ?_
              refine kB _ _ hW ?_
              rw [e2, ft]
              (repeat' split) <;> omega
            · refine Go_iconst dL_whyNotTurned_107 ?_
              refine Go_goto (tgt := 112) dL_whyNotTurned_108 (by decide) ?_
              refine kB _ _ hW ?_
              rw [e2, ft]
              (repeat' split) <;> omega
    have k60 : ∀ (W : Int), (to = -1 ∧ W = -1 ∨ 0 ≤ to ∧ W = whI ps to.toNat) → Go G cL_whyNotTurned mL_whyNotTurned none 2 0 0 60 [some (vi (p : Int)), some (vi (pl : Int)), some (vi (q : Int)), some (vr 68), some (vr 69), some (vi (hasF f 1 i)), some (vi (hasF f 2 i)), some (vi (hasF f 3 i)), some (vi ((pl : Int) + 1 + i)), some (vi to), none] [vi W] v K X := fun W hW => by
      refine Go_ist10 dL_whyNotTurned_60 rfl ?_
      refine Go_ild5 dL_whyNotTurned_62 ?_
      refine Go_if_ne (tgt := 72) dL_whyNotTurned_64 (by decide) (by constructor <;> omega) (fun h64 => ?_) (fun h64 => ?_)
      · refine Go_iconst dL_whyNotTurned_72 ?_
        refine Go_goto (tgt := 77) dL_whyNotTurned_73 (by decide) ?_
        refine kA _ _ hW ?_
        rw [e1, ft]
        (repeat' split) <;> omega
      · refine Go_ild9 dL_whyNotTurned_67 ?_
        refine Go_if_ge (tgt := 76) dL_whyNotTurned_69 (by decide) (by constructor <;> omega) (fun h69 => ?_) (fun h69 => ?_)
        · refine Go_iconst dL_whyNotTurned_76 ?_
          refine kA _ _ hW ?_
          rw [e1, ft]
          (repeat' split) <;> omega
        · refine Go_iconst dL_whyNotTurned_72 ?_
          refine Go_goto (tgt := 77) dL_whyNotTurned_73 (by decide) ?_
          refine kA _ _ hW ?_
          rw [e1, ft]
          (repeat' split) <;> omega
    refine Go_ild8 dL_whyNotTurned_14 ?_
    refine Go_ald3 dL_whyNotTurned_16 ?_
    refine Go_ild0 dL_whyNotTurned_17 ?_
    refine Go_iald dL_whyNotTurned_18 (by first | assumption | rfl) trivial (by omega) (by omega) (by decide) ?_
    rw [hlen]
    refine Go_icmp_ge (tgt := 146) dL_whyNotTurned_19 (by decide) (by constructor <;> omega) (by constructor <;> omega) (fun h19 => by omega) (fun h19 => ?_)
    refine Go_ild0 dL_whyNotTurned_22 ?_
    refine Go_ild8 dL_whyNotTurned_23 ?_
    refine Go_ald4 dL_whyNotTurned_25 ?_
    rw [show (pl : Int) + 1 + (i : Int) = ((pl + 1 + i : Nat) : Int) by omega]
    refine Go_cS3 (d' := 0) (bc' := 0) (bs' := 0) rfl dL_whyNotTurned_27 msL_at rfl lkL_70 (by decide) (by omega) (by omega) (Nat.le_of_ble_eq_true rfl) ?_
    refine e_L_at h.1 (by omega) (by omega) ?_
    rw [hq.2.2 _ (by omega)]
    refine Go_ild0 dL_whyNotTurned_30 ?_
    refine Go_ild1 dL_whyNotTurned_31 ?_
    refine Go_ald4 dL_whyNotTurned_32 ?_
    refine Go_cS3 (d' := 0) (bc' := 0) (bs' := 0) rfl dL_whyNotTurned_34 msL_at rfl lkL_70 (by decide) (by omega) (by omega) (Nat.le_of_ble_eq_true rfl) ?_
    refine e_L_at h.1 (by omega) (by omega) ?_
    rw [hq.2.2 _ (by omega)]
    refine Go_ild2 dL_whyNotTurned_37 ?_
    refine Go_cS3 (d' := 0) (bc' := 0) (bs' := 0) rfl dL_whyNotTurned_38 msL_turned rfl lkL_80 (by decide) (by omega) (by omega) (Nat.le_of_ble_eq_true rfl) ?_
    refine e_L_turned b1 b2 h1 h3 ?_
    rw [← hto]
    refine Go_ist9 dL_whyNotTurned_41 rfl ?_
    refine Go_ild9 dL_whyNotTurned_43 ?_
    refine Go_if_ge (tgt := 52) dL_whyNotTurned_45 (by decide) (by constructor <;> omega) (fun h45 => ?_) (fun h45 => ?_)
    · refine Go_ild9 dL_whyNotTurned_52 ?_
      refine Go_ald3 dL_whyNotTurned_54 ?_
      refine Go_ald4 dL_whyNotTurned_55 ?_
      refine Go_cS3 (d' := 1) (bc' := 0) (bs' := 0) rfl dL_whyNotTurned_57 msL_whose rfl lkL_76 (by decide) (by omega) (by omega) (Nat.le_of_ble_eq_true rfl) ?_
      refine e_L_whoseI h ho (by omega) (by omega) ?_
      exact k60 _ (by omega)
    · refine Go_iconst dL_whyNotTurned_48 ?_
      refine Go_goto (tgt := 60) dL_whyNotTurned_49 (by decide) ?_
      exact k60 _ (by omega)
  · try dsimp only at hP
    try dsimp only
    subst hP
    have i1 := hasF_in f 1 ((pth ps p).length - (pl + 1))
    have i2 := hasF_in f 2 ((pth ps p).length - (pl + 1))
    have i3 := hasF_in f 3 ((pth ps p).length - (pl + 1))
    refine Go_ild8 dL_whyNotTurned_14 ?_
    refine Go_ald3 dL_whyNotTurned_16 ?_
    refine Go_ild0 dL_whyNotTurned_17 ?_
    refine Go_iald dL_whyNotTurned_18 (by first | assumption | rfl) trivial (by omega) (by omega) (by decide) ?_
    rw [hlen]
    refine Go_icmp_ge (tgt := 146) dL_whyNotTurned_19 (by decide) (by constructor <;> omega) (by constructor <;> omega) (fun h19 => ?_) (fun h19 => by omega)
    refine Go_ild5 dL_whyNotTurned_146 ?_
    refine Go_if_eq (tgt := 155) dL_whyNotTurned_148 (by decide) (by constructor <;> omega) (fun h148 => ?_) (fun h148 => ?_)
    · refine Go_ild6 dL_whyNotTurned_155 ?_
      refine Go_if_eq (tgt := 164) dL_whyNotTurned_157 (by decide) (by constructor <;> omega) (fun h157 => ?_) (fun h157 => ?_)
      · refine Go_ild7 dL_whyNotTurned_164 ?_
        refine Go_if_eq (tgt := 173) dL_whyNotTurned_166 (by decide) (by constructor <;> omega) (fun h166 => ?_) (fun h166 => ?_)
        · refine Go_iconst dL_whyNotTurned_173 ?_
          refine Go_ireturn dL_whyNotTurned_174 rfl (by first | rfl | decide | exact nar_b | simp [narrow]) ?_
          exact kI (by (repeat' split) <;> omega) k
        · refine Go_iconst dL_whyNotTurned_169 ?_
          refine Go_goto (tgt := 174) dL_whyNotTurned_170 (by decide) ?_
          refine Go_ireturn dL_whyNotTurned_174 rfl (by first | rfl | decide | exact nar_b | simp [narrow]) ?_
          exact kI (by (repeat' split) <;> omega) k
      · refine Go_iconst dL_whyNotTurned_160 ?_
        refine Go_goto (tgt := 174) dL_whyNotTurned_161 (by decide) ?_
        refine Go_ireturn dL_whyNotTurned_174 rfl (by first | rfl | decide | exact nar_b | simp [narrow]) ?_
        exact kI (by (repeat' split) <;> omega) k
    · refine Go_iconst dL_whyNotTurned_151 ?_
      refine Go_goto (tgt := 174) dL_whyNotTurned_152 (by decide) ?_
      refine Go_ireturn dL_whyNotTurned_174 rfl (by first | rfl | decide | exact nar_b | simp [narrow]) ?_
      exact kI (by (repeat' split) <;> omega) k
end Rp
