section Model5
variable {G : Gm} {w : Wd} {K : Kt} {X : Xt} {s : Sta} {sv : List Sta} {g : Nat → Option Sta} {tx : List Nat} {z z1 z2 z3 : Int} {p pl q k0 n : Nat} {l : List Nat}
theorem e_X12_turned {x a : Nat} (hs : x < 100) (hp : a < 100) (hq : q ≤ 3) (k : K (vi (swI x a q)) none w) : Ev G yX12_turned cX12_turned 7 mX12_turned none 1 0 0 [vi (x : Int), vi (a : Int), vi (q : Int)] w K X := by
  have b0 : -9 ≤ (x : Int) % 10 - (a : Int) % 10 ∧ (x : Int) % 10 - (a : Int) % 10 ≤ 9 ∧ -9 ≤ (x : Int) / 10 - (a : Int) / 10 ∧ (x : Int) / 10 - (a : Int) / 10 ≤ 9 := by omega
  have b := rcN_in b0 q
  unfold swI numI at k
  refine Ev_intro msX12_turned.1 rfl (fun h => by cases h) (allc1 rfl) (Nat.le_of_ble_eq_true rfl) (Or.inl rfl) ?_
  show Go G cX12_turned mX12_turned none 1 0 0 0 [some (vi (x : Int)), some (vi (a : Int)), some (vi (q : Int)), none, none, none, none] [] w K X
  refine Go_ild0 dX12_turned_0 ?_
  refine Go_bipush dX12_turned_1 (by decide +kernel) ?_
  refine Go_irem dX12_turned_3 (by omega) (by omega) (by omega) (by omega) ?_
  refine Go_ild1 dX12_turned_4 ?_
  refine Go_bipush dX12_turned_5 (by decide +kernel) ?_
  refine Go_irem dX12_turned_7 (by omega) (by omega) (by omega) (by omega) ?_
  refine Go_isub dX12_turned_8 ?_
  refine Go_ist3 dX12_turned_9 rfl ?_
  refine Go_ild0 dX12_turned_10 ?_
  refine Go_bipush dX12_turned_11 (by decide +kernel) ?_
  refine Go_idiv dX12_turned_13 (by omega) (by omega) (by omega) (by omega) ?_
  refine Go_ild1 dX12_turned_14 ?_
  refine Go_bipush dX12_turned_15 (by decide +kernel) ?_
  refine Go_idiv dX12_turned_17 (by omega) (by omega) (by omega) (by omega) ?_
  refine Go_isub dX12_turned_18 ?_
  refine Go_ist4 dX12_turned_19 rfl ?_
  refine Go_iconst dX12_turned_21 ?_
  refine Go_ist5 dX12_turned_22 rfl ?_
  refine Go_upTo (n := q) (L := fun i => [some (vi (x : Int)), some (vi (a : Int)), some (vi (q : Int)), some (vi (rcN ((x : Int) % 10 - (a : Int) % 10) ((x : Int) / 10 - (a : Int) / 10) i).1), some (vi (rcN ((x : Int) % 10 - (a : Int) % 10) ((x : Int) / 10 - (a : Int) / 10) i).2), some (vi (i : Int)), none]) (P := fun i v => v = w) (by repeat' (first | exact Or.inl rfl | exact Or.inr rfl | exact Or.inr (lcg (by omega)) | exact trivial | constructor)) (rfl) (fun i v hi hP kn => ?_) (fun v hP => ?_)
  · try dsimp only at hP kn
    try dsimp only
    subst hP
    refine Go_ild5 dX12_turned_24 ?_
    refine Go_ild2 dX12_turned_26 ?_
    refine Go_icmp_ge (tgt := 47) dX12_turned_27 (by decide) (by constructor <;> omega) (by constructor <;> omega) (fun h27 => by omega) (fun h27 => ?_)
    refine Go_ild3 dX12_turned_30 ?_
    refine Go_ist6 dX12_turned_31 rfl ?_
    refine Go_ild4 dX12_turned_33 ?_
    refine Go_ineg dX12_turned_35 ?_
    refine Go_ist3 dX12_turned_36 rfl ?_
    refine Go_ild6 dX12_turned_37 ?_
    refine Go_ist4 dX12_turned_39 rfl ?_
    refine Go_inc5 dX12_turned_41 rfl ?_
    refine Go_goto (tgt := 24) dX12_turned_44 (by decide) ?_
    exact Go_forget (by repeat' (first | exact Or.inl rfl | exact Or.inr rfl | exact Or.inr (lcg (by omega)) | exact trivial | constructor)) (kn _ rfl)
  · try dsimp only at hP
    try dsimp only
    subst hP
    generalize (rcN ((x : Int) % 10 - (a : Int) % 10) ((x : Int) / 10 - (a : Int) / 10) q).1 = c at b k ⊢
    generalize (rcN ((x : Int) % 10 - (a : Int) % 10) ((x : Int) / 10 - (a : Int) / 10) q).2 = r at b k ⊢
    refine Go_ild5 dX12_turned_24 ?_
    refine Go_ild2 dX12_turned_26 ?_
    refine Go_icmp_ge (tgt := 47) dX12_turned_27 (by decide) (by constructor <;> omega) (by constructor <;> omega) (fun h27 => ?_) (fun h27 => by omega)
    refine Go_ild1 dX12_turned_47 ?_
    refine Go_bipush dX12_turned_48 (by decide +kernel) ?_
    refine Go_irem dX12_turned_50 (by omega) (by omega) (by omega) (by omega) ?_
    refine Go_ild3 dX12_turned_51 ?_
    refine Go_iadd dX12_turned_52 ?_
    refine Go_ist5 dX12_turned_53 rfl ?_
    refine Go_ild1 dX12_turned_55 ?_
    refine Go_bipush dX12_turned_56 (by decide +kernel) ?_
    refine Go_idiv dX12_turned_58 (by omega) (by omega) (by omega) (by omega) ?_
    refine Go_ild4 dX12_turned_59 ?_
    refine Go_iadd dX12_turned_61 ?_
    refine Go_ist6 dX12_turned_62 rfl ?_
    refine Go_ild5 dX12_turned_64 ?_
    refine Go_iconst dX12_turned_66 ?_
    refine Go_bipush dX12_turned_67 (by decide +kernel) ?_
    refine Go_cS3 (d' := 0) (bc' := 0) (bs' := 0) rfl dX12_turned_69 msX12_within rfl lkX12_62 (by decide) (by decide) (by decide) (Nat.le_of_ble_eq_true rfl) ?_
    refine e_X12_within (by constructor <;> omega) (by constructor <;> omega) (by constructor <;> omega) ?_
    refine Go_ifb_eq (tgt := 97) dX12_turned_72 (by decide)  (fun h72 => ?_) (fun h72 => ?_)
    · refine Go_iconst dX12_turned_97 ?_
      refine Go_ireturn dX12_turned_98 rfl (by first | rfl | decide | exact nar_b | simp [narrow]) ?_
      first | (refine kI (Eq.symm (if_neg (by omega))) k) | (refine kI (Eq.symm (if_pos (by omega))) k)
    · refine Go_ild6 dX12_turned_75 ?_
      refine Go_iconst dX12_turned_77 ?_
      refine Go_bipush dX12_turned_78 (by decide +kernel) ?_
      refine Go_cS3 (d' := 0) (bc' := 0) (bs' := 0) rfl dX12_turned_80 msX12_within rfl lkX12_62 (by decide) (by decide) (by decide) (Nat.le_of_ble_eq_true rfl) ?_
      refine e_X12_within (by constructor <;> omega) (by constructor <;> omega) (by constructor <;> omega) ?_
      refine Go_ifb_eq (tgt := 97) dX12_turned_83 (by decide)  (fun h83 => ?_) (fun h83 => ?_)
      · refine Go_iconst dX12_turned_97 ?_
        refine Go_ireturn dX12_turned_98 rfl (by first | rfl | decide | exact nar_b | simp [narrow]) ?_
        first | (refine kI (Eq.symm (if_neg (by omega))) k) | (refine kI (Eq.symm (if_pos (by omega))) k)
      · refine Go_bipush dX12_turned_86 (by decide +kernel) ?_
        refine Go_ild6 dX12_turned_88 ?_
        refine Go_imul dX12_turned_90 ?_
        refine Go_ild5 dX12_turned_91 ?_
        refine Go_iadd dX12_turned_93 ?_
        refine Go_goto (tgt := 98) dX12_turned_94 (by decide) ?_
        refine Go_ireturn dX12_turned_98 rfl (by first | rfl | decide | exact nar_b | simp [narrow]) ?_
        first | (refine kI (Eq.symm (if_neg (by omega))) k) | (refine kI (Eq.symm (if_pos (by omega))) k)
theorem e_X12_whyNotTurned (h : ST w 69 0 s) (hm : MK (w 74) (w 75) s.1) (hp : p < s.1.length) (hpl : pl < (pth s.1 p).length) (hq : q ≤ 3) (k : K (vi (whyT s.1 p pl q)) none w) : Ev G yX12_whyNotTurned cX12_whyNotTurned 8 mX12_whyNotTurned none 2 0 0 [vr 68, vi (p : Int), vi (pl : Int), vi (q : Int)] w K X := by
  have h5 := h.1.1
  have hl := h.1.len hp
  have hx := h.1.lt p
  unfold whyT at k
  refine Ev_intro mvX12_whyNotTurned.1 rfl (fun h => by cases h) (allc1 rfl) (Nat.le_of_ble_eq_true rfl) (Or.inl rfl) ?_
  show Go G cX12_whyNotTurned mX12_whyNotTurned none 2 0 0 0 [some (vr 68), some (vi (p : Int)), some (vi (pl : Int)), some (vi (q : Int)), none, none, none, none] [] w K X
  refine Go_bipush dX12_whyNotTurned_0 (by decide +kernel) ?_
  refine Go_ist4 dX12_whyNotTurned_2 rfl ?_
  refine Go_ild2 dX12_whyNotTurned_4 ?_
  refine Go_iconst dX12_whyNotTurned_5 ?_
  refine Go_iadd dX12_whyNotTurned_6 ?_
  refine Go_ist5 dX12_whyNotTurned_7 rfl ?_
  refine Go_upTo (n := (pth s.1 p).length - (pl + 1)) (L := fun i => [some (vr 68), some (vi (p : Int)), some (vi (pl : Int)), some (vi (q : Int)), some (vi (tmn s.1 p pl q i)), some (vi ((pl : Int) + 1 + i)), none, none]) (P := fun i v => v = w) (by repeat' (first | exact Or.inl rfl | exact Or.inr rfl | exact Or.inr (lcg (by omega)) | exact trivial | constructor)) (rfl) (fun i v hi hP kn => ?_) (fun v hP => ?_)
  · try dsimp only at hP kn
    try dsimp only
    subst hP
    have b := swI_in ((pth s.1 p).getD (pl + 1 + i) 0) ((pth s.1 p).getD pl 0) q
    have bo := ow_in s.1 (swI ((pth s.1 p).getD (pl + 1 + i) 0) ((pth s.1 p).getD pl 0) q).toNat
    have bp := h.1.plc (swI ((pth s.1 p).getD (pl + 1 + i) 0) ((pth s.1 p).getD pl 0) q).toNat
    have ht : tcl s.1 p pl q (pl + 1 + i) = if swI ((pth s.1 p).getD (pl + 1 + i) 0) ((pth s.1 p).getD pl 0) q = -1 then 1 else if ow s.1 (swI ((pth s.1 p).getD (pl + 1 + i) 0) ((pth s.1 p).getD pl 0) q).toNat = -1 then 9 else if ow s.1 (swI ((pth s.1 p).getD (pl + 1 + i) 0) ((pth s.1 p).getD pl 0) q).toNat = p then (if plc s.1 (swI ((pth s.1 p).getD (pl + 1 + i) 0) ((pth s.1 p).getD pl 0) q).toNat ≤ pl then 2 else 9) else 3 := rfl
    have hs : tmn s.1 p pl q (i + 1) = if tcl s.1 p pl q (pl + 1 + i) < tmn s.1 p pl q i then tcl s.1 p pl q (pl + 1 + i) else tmn s.1 p pl q i := rfl
    have bt := mnF_in (f := fun j => tcl s.1 p pl q (pl + 1 + j)) (a := 9) (lo := 1) (hi := 9) (n := i) (by omega) (fun j _ => tcl_in s.1 p pl q (pl + 1 + j))
    have bt' : 1 ≤ tmn s.1 p pl q i ∧ tmn s.1 p pl q i ≤ 9 := bt
    have em : swI ((pth s.1 p).getD (pl + 1 + i) 0) ((pth s.1 p).getD pl 0) q ≠ -1 → v 74 (swI ((pth s.1 p).getD (pl + 1 + i) 0) ((pth s.1 p).getD pl 0) q).toNat = ow s.1 (swI ((pth s.1 p).getD (pl + 1 + i) 0) ((pth s.1 p).getD pl 0) q).toNat ∧ v 75 (swI ((pth s.1 p).getD (pl + 1 + i) 0) ((pth s.1 p).getD pl 0) q).toNat = plc s.1 (swI ((pth s.1 p).getD (pl + 1 + i) 0) ((pth s.1 p).getD pl 0) q).toNat := fun _ => hm _ (by omega)
    refine Go_ild5 dX12_whyNotTurned_9 ?_
    refine Go_ald0 dX12_whyNotTurned_11 ?_
    refine Go_ild1 dX12_whyNotTurned_12 ?_
    refine Go_cV1 (d' := 0) (bc' := 0) (bs' := 0) rfl dX12_whyNotTurned_13 mvX12_lengthOf rfl lkX12_70 (by first | assumption | rfl) rfl trivial (by decide) (by decide) (by decide) (Nat.le_of_ble_eq_true rfl) ?_
    refine e_X12_lengthOf h hp ?_
    refine Go_icmp_ge (tgt := 120) dX12_whyNotTurned_16 (by decide) (by constructor <;> omega) (by constructor <;> omega) (fun h16 => by omega) (fun h16 => ?_)
    refine Go_ald0 dX12_whyNotTurned_19 ?_
    refine Go_ild1 dX12_whyNotTurned_20 ?_
    refine Go_ild5 dX12_whyNotTurned_21 ?_
    refine Go_cV2 (d' := 0) (bc' := 0) (bs' := 0) rfl dX12_whyNotTurned_23 mvX12_siteOf rfl lkX12_74 (by first | assumption | rfl) rfl trivial (by decide) (by decide) (by decide) (Nat.le_of_ble_eq_true rfl) ?_
    refine e_X12_siteOf (k0 := pl + 1 + i) h hp (by omega) (by omega) ?_
    refine Go_ald0 dX12_whyNotTurned_26 ?_
    refine Go_ild1 dX12_whyNotTurned_27 ?_
    refine Go_ild2 dX12_whyNotTurned_28 ?_
    refine Go_cV2 (d' := 0) (bc' := 0) (bs' := 0) rfl dX12_whyNotTurned_29 mvX12_siteOf rfl lkX12_74 (by first | assumption | rfl) rfl trivial (by decide) (by decide) (by decide) (Nat.le_of_ble_eq_true rfl) ?_
    refine e_X12_siteOf (k0 := pl) h hp rfl hpl ?_
    refine Go_ild3 dX12_whyNotTurned_32 ?_
    refine Go_cS3 (d' := 1) (bc' := 0) (bs' := 0) rfl dX12_whyNotTurned_33 msX12_turned rfl lkX12_127 (by decide) (by decide) (by decide) (Nat.le_of_ble_eq_true rfl) ?_
    refine e_X12_turned (hx.at _) (hx.at _) hq ?_
    refine Go_ist6 dX12_whyNotTurned_36 rfl ?_
    refine Go_ild6 dX12_whyNotTurned_38 ?_
    refine Go_iconst dX12_whyNotTurned_40 ?_
    refine Go_icmp_ne (tgt := 48) dX12_whyNotTurned_41 (by decide) (by constructor <;> omega) (by constructor <;> omega) (fun h41 => ?_) (fun h41 => ?_)
    · refine Go_ald0 dX12_whyNotTurned_48 ?_
      refine gf11_8 dX12_whyNotTurned_49 flX12_25 ?_
      refine Go_ild6 dX12_whyNotTurned_52 ?_
      refine Go_iald dX12_whyNotTurned_54 (by first | assumption | rfl) trivial (by omega) (by omega) (by decide) ?_
      rw [(em h41).1]
      refine Go_iconst dX12_whyNotTurned_55 ?_
      refine Go_icmp_ne (tgt := 64) dX12_whyNotTurned_56 (by decide) (by constructor <;> omega) (by constructor <;> omega) (fun h56 => ?_) (fun h56 => ?_)
      · refine Go_ald0 dX12_whyNotTurned_64 ?_
        refine gf11_8 dX12_whyNotTurned_65 flX12_25 ?_
        refine Go_ild6 dX12_whyNotTurned_68 ?_
        refine Go_iald dX12_whyNotTurned_70 (by first | assumption | rfl) trivial (by omega) (by omega) (by decide) ?_
        rw [(em h41).1]
        refine Go_ild1 dX12_whyNotTurned_71 ?_
        refine Go_icmp_eq (tgt := 79) dX12_whyNotTurned_72 (by decide) (by constructor <;> omega) (by constructor <;> omega) (fun h72 => ?_) (fun h72 => ?_)
        · refine Go_ald0 dX12_whyNotTurned_79 ?_
          refine gf11_9 dX12_whyNotTurned_80 flX12_28 ?_
          refine Go_ild6 dX12_whyNotTurned_83 ?_
          refine Go_iald dX12_whyNotTurned_85 (by first | assumption | rfl) trivial (by omega) (by omega) (by decide) ?_
          rw [(em h41).2]
          refine Go_ild2 dX12_whyNotTurned_86 ?_
          refine Go_icmp_gt (tgt := 94) dX12_whyNotTurned_87 (by decide) (by constructor <;> omega) (by constructor <;> omega) (fun h87 => ?_) (fun h87 => ?_)
          · refine Go_bipush dX12_whyNotTurned_94 (by decide +kernel) ?_
            refine Go_ist7 dX12_whyNotTurned_96 rfl ?_
            refine Go_ild7 dX12_whyNotTurned_98 ?_
            refine Go_ild4 dX12_whyNotTurned_100 ?_
            refine Go_icmp_ge (tgt := 110) dX12_whyNotTurned_102 (by decide) (by constructor <;> omega) (by constructor <;> omega) (fun h102 => ?_) (fun h102 => ?_)
            · refine Go_ild4 dX12_whyNotTurned_110 ?_
              refine Go_ist4 dX12_whyNotTurned_112 rfl ?_
              refine Go_inc5 dX12_whyNotTurned_114 rfl ?_
              refine Go_goto (tgt := 9) dX12_whyNotTurned_117 (by decide) ?_
              refine Go_forget (ls' := _) ?_ (kn _ rfl)
              repeat' split at ht
              all_goals (repeat' split at hs)
              all_goals first | (exfalso; omega) | exact (by repeat' (first | exact Or.inl rfl | exact Or.inr rfl | exact Or.inr (lcg (by omega)) | exact trivial | constructor))
            · refine Go_ild7 dX12_whyNotTurned_105 ?_
              refine Go_goto (tgt := 112) dX12_whyNotTurned_107 (by decide) ?_
              refine Go_ist4 dX12_whyNotTurned_112 rfl ?_
              refine Go_inc5 dX12_whyNotTurned_114 rfl ?_
              refine Go_goto (tgt := 9) dX12_whyNotTurned_117 (by decide) ?_
              refine Go_forget (ls' := _) ?_ (kn _ rfl)
              repeat' split at ht
              all_goals (repeat' split at hs)
              all_goals first | (exfalso; omega) | exact (by repeat' (first | exact Or.inl rfl | exact Or.inr rfl | exact Or.inr (lcg (by omega)) | exact trivial | constructor))
          · refine Go_iconst dX12_whyNotTurned_90 ?_
            refine Go_goto (tgt := 96) dX12_whyNotTurned_91 (by decide) ?_
            refine Go_ist7 dX12_whyNotTurned_96 rfl ?_
            refine Go_ild7 dX12_whyNotTurned_98 ?_
            refine Go_ild4 dX12_whyNotTurned_100 ?_
            refine Go_icmp_ge (tgt := 110) dX12_whyNotTurned_102 (by decide) (by constructor <;> omega) (by constructor <;> omega) (fun h102 => ?_) (fun h102 => ?_)
            · refine Go_ild4 dX12_whyNotTurned_110 ?_
              refine Go_ist4 dX12_whyNotTurned_112 rfl ?_
              refine Go_inc5 dX12_whyNotTurned_114 rfl ?_
              refine Go_goto (tgt := 9) dX12_whyNotTurned_117 (by decide) ?_
              refine Go_forget (ls' := _) ?_ (kn _ rfl)
              repeat' split at ht
              all_goals (repeat' split at hs)
              all_goals first | (exfalso; omega) | exact (by repeat' (first | exact Or.inl rfl | exact Or.inr rfl | exact Or.inr (lcg (by omega)) | exact trivial | constructor))
            · refine Go_ild7 dX12_whyNotTurned_105 ?_
              refine Go_goto (tgt := 112) dX12_whyNotTurned_107 (by decide) ?_
              refine Go_ist4 dX12_whyNotTurned_112 rfl ?_
              refine Go_inc5 dX12_whyNotTurned_114 rfl ?_
              refine Go_goto (tgt := 9) dX12_whyNotTurned_117 (by decide) ?_
              refine Go_forget (ls' := _) ?_ (kn _ rfl)
              repeat' split at ht
              all_goals (repeat' split at hs)
              all_goals first | (exfalso; omega) | exact (by repeat' (first | exact Or.inl rfl | exact Or.inr rfl | exact Or.inr (lcg (by omega)) | exact trivial | constructor))
        · refine Go_iconst dX12_whyNotTurned_75 ?_
          refine Go_goto (tgt := 96) dX12_whyNotTurned_76 (by decide) ?_
          refine Go_ist7 dX12_whyNotTurned_96 rfl ?_
          refine Go_ild7 dX12_whyNotTurned_98 ?_
          refine Go_ild4 dX12_whyNotTurned_100 ?_
          refine Go_icmp_ge (tgt := 110) dX12_whyNotTurned_102 (by decide) (by constructor <;> omega) (by constructor <;> omega) (fun h102 => ?_) (fun h102 => ?_)
          · refine Go_ild4 dX12_whyNotTurned_110 ?_
            refine Go_ist4 dX12_whyNotTurned_112 rfl ?_
            refine Go_inc5 dX12_whyNotTurned_114 rfl ?_
            refine Go_goto (tgt := 9) dX12_whyNotTurned_117 (by decide) ?_
            refine Go_forget (ls' := _) ?_ (kn _ rfl)
            repeat' split at ht
            all_goals (repeat' split at hs)
            all_goals first | (exfalso; omega) | exact (by repeat' (first | exact Or.inl rfl | exact Or.inr rfl | exact Or.inr (lcg (by omega)) | exact trivial | constructor))
          · refine Go_ild7 dX12_whyNotTurned_105 ?_
            refine Go_goto (tgt := 112) dX12_whyNotTurned_107 (by decide) ?_
            refine Go_ist4 dX12_whyNotTurned_112 rfl ?_
            refine Go_inc5 dX12_whyNotTurned_114 rfl ?_
            refine Go_goto (tgt := 9) dX12_whyNotTurned_117 (by decide) ?_
            refine Go_forget (ls' := _) ?_ (kn _ rfl)
            repeat' split at ht
            all_goals (repeat' split at hs)
            all_goals first | (exfalso; omega) | exact (by repeat' (first | exact Or.inl rfl | exact Or.inr rfl | exact Or.inr (lcg (by omega)) | exact trivial | constructor))
      · refine Go_bipush dX12_whyNotTurned_59 (by decide +kernel) ?_
        refine Go_goto (tgt := 96) dX12_whyNotTurned_61 (by decide) ?_
        refine Go_ist7 dX12_whyNotTurned_96 rfl ?_
        refine Go_ild7 dX12_whyNotTurned_98 ?_
        refine Go_ild4 dX12_whyNotTurned_100 ?_
        refine Go_icmp_ge (tgt := 110) dX12_whyNotTurned_102 (by decide) (by constructor <;> omega) (by constructor <;> omega) (fun h102 => ?_) (fun h102 => ?_)
        · refine Go_ild4 dX12_whyNotTurned_110 ?_
          refine Go_ist4 dX12_whyNotTurned_112 rfl ?_
          refine Go_inc5 dX12_whyNotTurned_114 rfl ?_
          refine Go_goto (tgt := 9) dX12_whyNotTurned_117 (by decide) ?_
          refine Go_forget (ls' := _) ?_ (kn _ rfl)
          repeat' split at ht
          all_goals (repeat' split at hs)
          all_goals first | (exfalso; omega) | exact (by repeat' (first | exact Or.inl rfl | exact Or.inr rfl | exact Or.inr (lcg (by omega)) | exact trivial | constructor))
        · refine Go_ild7 dX12_whyNotTurned_105 ?_
          refine Go_goto (tgt := 112) dX12_whyNotTurned_107 (by decide) ?_
          refine Go_ist4 dX12_whyNotTurned_112 rfl ?_
          refine Go_inc5 dX12_whyNotTurned_114 rfl ?_
          refine Go_goto (tgt := 9) dX12_whyNotTurned_117 (by decide) ?_
          refine Go_forget (ls' := _) ?_ (kn _ rfl)
          repeat' split at ht
          all_goals (repeat' split at hs)
          all_goals first | (exfalso; omega) | exact (by repeat' (first | exact Or.inl rfl | exact Or.inr rfl | exact Or.inr (lcg (by omega)) | exact trivial | constructor))
    · refine Go_iconst dX12_whyNotTurned_44 ?_
      refine Go_goto (tgt := 96) dX12_whyNotTurned_45 (by decide) ?_
      refine Go_ist7 dX12_whyNotTurned_96 rfl ?_
      refine Go_ild7 dX12_whyNotTurned_98 ?_
      refine Go_ild4 dX12_whyNotTurned_100 ?_
      refine Go_icmp_ge (tgt := 110) dX12_whyNotTurned_102 (by decide) (by constructor <;> omega) (by constructor <;> omega) (fun h102 => ?_) (fun h102 => ?_)
      · refine Go_ild4 dX12_whyNotTurned_110 ?_
        refine Go_ist4 dX12_whyNotTurned_112 rfl ?_
        refine Go_inc5 dX12_whyNotTurned_114 rfl ?_
        refine Go_goto (tgt := 9) dX12_whyNotTurned_117 (by decide) ?_
        refine Go_forget (ls' := _) ?_ (kn _ rfl)
        repeat' split at ht
        all_goals (repeat' split at hs)
        all_goals first | (exfalso; omega) | exact (by repeat' (first | exact Or.inl rfl | exact Or.inr rfl | exact Or.inr (lcg (by omega)) | exact trivial | constructor))
      · refine Go_ild7 dX12_whyNotTurned_105 ?_
        refine Go_goto (tgt := 112) dX12_whyNotTurned_107 (by decide) ?_
        refine Go_ist4 dX12_whyNotTurned_112 rfl ?_
        refine Go_inc5 dX12_whyNotTurned_114 rfl ?_
        refine Go_goto (tgt := 9) dX12_whyNotTurned_117 (by decide) ?_
        refine Go_forget (ls' := _) ?_ (kn _ rfl)
        repeat' split at ht
        all_goals (repeat' split at hs)
        all_goals first | (exfalso; omega) | exact (by repeat' (first | exact Or.inl rfl | exact Or.inr rfl | exact Or.inr (lcg (by omega)) | exact trivial | constructor))
  · try dsimp only at hP
    try dsimp only
    subst hP
    have bt := mnF_in (f := fun j => tcl s.1 p pl q (pl + 1 + j)) (a := 9) (lo := 1) (hi := 9) (n := (pth s.1 p).length - (pl + 1)) (by omega) (fun j _ => tcl_in s.1 p pl q (pl + 1 + j))
    have bt' : 1 ≤ tmn s.1 p pl q ((pth s.1 p).length - (pl + 1)) ∧ tmn s.1 p pl q ((pth s.1 p).length - (pl + 1)) ≤ 9 := bt
    refine Go_ild5 dX12_whyNotTurned_9 ?_
    refine Go_ald0 dX12_whyNotTurned_11 ?_
    refine Go_ild1 dX12_whyNotTurned_12 ?_
    refine Go_cV1 (d' := 0) (bc' := 0) (bs' := 0) rfl dX12_whyNotTurned_13 mvX12_lengthOf rfl lkX12_70 (by first | assumption | rfl) rfl trivial (by decide) (by decide) (by decide) (Nat.le_of_ble_eq_true rfl) ?_
    refine e_X12_lengthOf h hp ?_
    refine Go_icmp_ge (tgt := 120) dX12_whyNotTurned_16 (by decide) (by constructor <;> omega) (by constructor <;> omega) (fun h16 => ?_) (fun h16 => by omega)
    refine Go_ild4 dX12_whyNotTurned_120 ?_
    refine Go_bipush dX12_whyNotTurned_122 (by decide +kernel) ?_
    refine Go_icmp_ne (tgt := 131) dX12_whyNotTurned_124 (by decide) (by constructor <;> omega) (by constructor <;> omega) (fun h124 => ?_) (fun h124 => ?_)
    · refine Go_ild4 dX12_whyNotTurned_131 ?_
      refine Go_ireturn dX12_whyNotTurned_133 rfl (by first | rfl | decide | exact nar_b | simp [narrow]) ?_
      first | (rw [if_pos h124] at k; exact k) | (rw [if_neg h124] at k; exact k)
    · refine Go_iconst dX12_whyNotTurned_127 ?_
      refine Go_goto (tgt := 133) dX12_whyNotTurned_128 (by decide) ?_
      refine Go_ireturn dX12_whyNotTurned_133 rfl (by first | rfl | decide | exact nar_b | simp [narrow]) ?_
      first | (rw [if_pos h124] at k; exact k) | (rw [if_neg h124] at k; exact k)
/-- what a question does first: the owners are laid -/
theorem mq_lay {w w1 : Wd} {s : Sta} {sv : List Sta} {g : Nat → Option Sta} {tx : List Nat} (f : frm (up w 68 0 0) w1 [74, 75]) : mfr w w1 ∧ w1 68 0 = 0 := ⟨thr0.trans (mfr.of f (by decide)), by rw [f.at (by decide), up_s]⟩
theorem e_X12_ifTurned (h : MInv w s sv g tx) (h1 : inR z1) (h2 : inR z2) (h3 : inR z3)
    (k : ∀ w' (p j q : Nat), z1 = p → p < s.1.length → z2 = j → j < (pth s.1 p).length → z3 = q → 1 ≤ q → q ≤ 3 → MX w w' 0 s sv g tx → K (vi (whyT s.1 p j q)) none w')
    (x1 : ∀ w', (∀ p j : Nat, z1 = p → p < s.1.length → z2 = j → ¬ j < (pth s.1 p).length) → MX w w' 1 s sv g tx → K (vi 0) none w') (x2 : ∀ w' (p j : Nat), z1 = p → p < s.1.length → z2 = j → j < (pth s.1 p).length → ¬ (1 ≤ z3 ∧ z3 ≤ 3) → MX w w' 2 s sv g tx → K (vi 0) none w') : Ev G yX12_ifTurned cX12_ifTurned 4 mX12_ifTurned none 3 0 0 [vr 68, vi z1, vi z2, vi z3] w K X := by
  have hm := thr0.MInv h
  refine Ev_intro mvX12_ifTurned.1 rfl (fun h => by cases h) (allc1 rfl) (Nat.le_of_ble_eq_true rfl) (Or.inl rfl) ?_
  show Go G cX12_ifTurned mX12_ifTurned none 3 0 0 0 [some (vr 68), some (vi z1), some (vi z2), some (vi z3)] [] w K X
  refine Go_ald0 dX12_ifTurned_0 ?_
  refine Go_iconst dX12_ifTurned_1 ?_
  refine pf11_0 dX12_ifTurned_2 flX12_59 (by first | assumption | rfl) ?_
  refine Go_ald0 dX12_ifTurned_5 ?_
  refine Go_ild1 dX12_ifTurned_6 ?_
  refine Go_ild2 dX12_ifTurned_7 ?_
  refine Go_cV2 (d' := 2) (bc' := 0) (bs' := 0) rfl dX12_ifTurned_8 mvX12_isSite rfl lkX12_131 (by first | assumption | rfl) rfl trivial (by decide) (by decide) (by decide) (Nat.le_of_ble_eq_true rfl) ?_
  refine e_X12_isSite hm.1 h1 h2 (fun p j e hp e2 hj => ?_) (fun q => ?_)
  · subst e e2
    refine Go_if_ne (tgt := 20) dX12_ifTurned_11 (by decide) (by constructor <;> omega) (fun h11 => ?_) (fun h11 => by omega)
    refine Go_ild3 dX12_ifTurned_20 ?_
    refine Go_iconst dX12_ifTurned_21 ?_
    refine Go_iconst dX12_ifTurned_22 ?_
    refine Go_cS3 (d' := 0) (bc' := 0) (bs' := 0) rfl dX12_ifTurned_23 msX12_within rfl lkX12_62 (by decide) (by decide) (by decide) (Nat.le_of_ble_eq_true rfl) ?_
    refine e_X12_within h3 (by constructor <;> omega) (by constructor <;> omega) ?_
    refine Go_ifb_ne (tgt := 35) dX12_ifTurned_26 (by decide)  (fun h26 => ?_) (fun h26 => ?_)
    · obtain ⟨q, rfl⟩ := Int.eq_ofNat_of_zero_le (show 0 ≤ z3 by omega)
      refine Go_ald0 dX12_ifTurned_35 ?_
      refine Go_cVv0 (d' := 1) (bc' := 0) (bs' := 0) rfl dX12_ifTurned_36 mvX12_lay rfl lkX12_114 (by first | assumption | rfl) rfl trivial (by decide) (by decide) (by decide) (Nat.le_of_ble_eq_true rfl) ?_
      refine e_X12_lay hm.1 (fun w1 m1 f1 => ?_)
      have o := mq_lay (s := s) (sv := sv) (g := g) (tx := tx) f1
      refine Go_ald0 dX12_ifTurned_39 ?_
      refine Go_ild1 dX12_ifTurned_40 ?_
      refine Go_ild2 dX12_ifTurned_41 ?_
      refine Go_ild3 dX12_ifTurned_42 ?_
      refine Go_cV3 (d' := 2) (bc' := 0) (bs' := 0) rfl dX12_ifTurned_43 mvX12_whyNotTurned rfl lkX12_134 (by first | assumption | rfl) rfl trivial (by decide) (by decide) (by decide) (Nat.le_of_ble_eq_true rfl) ?_
      refine e_X12_whyNotTurned (o.1.MInv h).1 m1 hp hj (by omega) ?_
      refine Go_ireturn dX12_ifTurned_46 rfl (by first | rfl | decide | exact nar_b | simp [narrow]) ?_
      exact k _ p j q rfl hp rfl hj rfl (by omega) (by omega) (MX_q h o.1 o.2)
    · refine Go_ald0 dX12_ifTurned_29 ?_
      refine Go_iconst dX12_ifTurned_30 ?_
      refine Go_cV1 (d' := 0) (bc' := 0) (bs' := 0) rfl dX12_ifTurned_31 mvX12_fails rfl lkX12_78 (by first | assumption | rfl) rfl trivial (by decide) (by decide) (by decide) (Nat.le_of_ble_eq_true rfl) ?_
      refine e_X12_fails ?_
      refine Go_ireturn dX12_ifTurned_34 rfl (by first | rfl | decide | exact nar_b | simp [narrow]) ?_
      exact x2 _ p j rfl hp rfl hj h26 (MX_fail h)
  · skip
    refine Go_if_ne (tgt := 20) dX12_ifTurned_11 (by decide) (by constructor <;> omega) (fun h11 => by omega) (fun h11 => ?_)
    refine Go_ald0 dX12_ifTurned_14 ?_
    refine Go_iconst dX12_ifTurned_15 ?_
    refine Go_cV1 (d' := 0) (bc' := 0) (bs' := 0) rfl dX12_ifTurned_16 mvX12_fails rfl lkX12_78 (by first | assumption | rfl) rfl trivial (by decide) (by decide) (by decide) (Nat.le_of_ble_eq_true rfl) ?_
    refine e_X12_fails ?_
    refine Go_ireturn dX12_ifTurned_19 rfl (by first | rfl | decide | exact nar_b | simp [narrow]) ?_
    exact x1 _ q (MX_fail h)
theorem e_X12_turn (h : MInv w s sv g tx) (h1 : inR z1) (h2 : inR z2) (h3 : inR z3)
    (kt : ∀ w' (p j q : Nat), z1 = p → p < s.1.length → z2 = j → j < (pth s.1 p).length → z3 = q → 1 ≤ q → q ≤ 3 → whyT s.1 p j q = 0 → MX w w' 0 (turS s p j q) (pushS sv s) g tx → K (vi 0) none w')
    (kf : ∀ w' (p j q : Nat), z1 = p → p < s.1.length → z2 = j → j < (pth s.1 p).length → z3 = q → 1 ≤ q → q ≤ 3 → whyT s.1 p j q ≠ 0 → MX w w' 0 (s.1, s.2.1, s.2.2.1 + 1, s.2.2.2) (pushS sv s) g tx → K (vi (whyT s.1 p j q)) none w')
    (x1 : ∀ w', (∀ p j : Nat, z1 = p → p < s.1.length → z2 = j → ¬ j < (pth s.1 p).length) → MX w w' 1 s sv g tx → K (vi 0) none w') (x2 : ∀ w' (p j : Nat), z1 = p → p < s.1.length → z2 = j → j < (pth s.1 p).length → ¬ (1 ≤ z3 ∧ z3 ≤ 3) → MX w w' 2 s sv g tx → K (vi 0) none w') : Ev G yX12_turn cX12_turn 6 mX12_turn none 3 0 0 [vr 68, vi z1, vi z2, vi z3] w K X := by
  have hm := thr0.MInv h
  have h5 := h.1.1.1
  refine Ev_intro mvX12_turn.1 rfl (fun h => by cases h) (allc1 rfl) (Nat.le_of_ble_eq_true rfl) (Or.inl rfl) ?_
  show Go G cX12_turn mX12_turn none 3 0 0 0 [some (vr 68), some (vi z1), some (vi z2), some (vi z3), none, none] [] w K X
  refine Go_ald0 dX12_turn_0 ?_
  refine Go_iconst dX12_turn_1 ?_
  refine pf11_0 dX12_turn_2 flX12_59 (by first | assumption | rfl) ?_
  refine Go_ald0 dX12_turn_5 ?_
  refine Go_ild1 dX12_turn_6 ?_
  refine Go_ild2 dX12_turn_7 ?_
  refine Go_cV2 (d' := 2) (bc' := 0) (bs' := 0) rfl dX12_turn_8 mvX12_isSite rfl lkX12_131 (by first | assumption | rfl) rfl trivial (by decide) (by decide) (by decide) (Nat.le_of_ble_eq_true rfl) ?_
  refine e_X12_isSite hm.1 h1 h2 (fun p j e hp e2 hj => ?_) (fun q => ?_)
  · subst e e2
    by_cases c : 1 ≤ z3 ∧ z3 ≤ 3
    case neg =>
      refine Go_if_ne (tgt := 20) dX12_turn_11 (by decide) (by constructor <;> omega) (fun h11 => ?_) (fun h11 => by omega)
      refine Go_ild3 dX12_turn_20 ?_
      refine Go_iconst dX12_turn_21 ?_
      refine Go_iconst dX12_turn_22 ?_
      refine Go_cS3 (d' := 0) (bc' := 0) (bs' := 0) rfl dX12_turn_23 msX12_within rfl lkX12_62 (by decide) (by decide) (by decide) (Nat.le_of_ble_eq_true rfl) ?_
      refine e_X12_within h3 (by constructor <;> omega) (by constructor <;> omega) ?_
      refine Go_ifb_ne (tgt := 35) dX12_turn_26 (by decide)  (fun h26 => by exact absurd h26 c) (fun h26 => ?_)
      refine Go_ald0 dX12_turn_29 ?_
      refine Go_iconst dX12_turn_30 ?_
      refine Go_cV1 (d' := 0) (bc' := 0) (bs' := 0) rfl dX12_turn_31 mvX12_fails rfl lkX12_78 (by first | assumption | rfl) rfl trivial (by decide) (by decide) (by decide) (Nat.le_of_ble_eq_true rfl) ?_
      refine e_X12_fails ?_
      refine Go_ireturn dX12_turn_34 rfl (by first | rfl | decide | exact nar_b | simp [narrow]) ?_
      exact x2 _ p j rfl hp rfl hj h26 (MX_fail h)
    obtain ⟨q, rfl⟩ := Int.eq_ofNat_of_zero_le (show 0 ≤ z3 by omega)
    have bw := whyT_in s.1 p j q
    refine Go_if_ne (tgt := 20) dX12_turn_11 (by decide) (by constructor <;> omega) (fun h11 => ?_) (fun h11 => by omega)
    refine Go_ild3 dX12_turn_20 ?_
    refine Go_iconst dX12_turn_21 ?_
    refine Go_iconst dX12_turn_22 ?_
    refine Go_cS3 (d' := 0) (bc' := 0) (bs' := 0) rfl dX12_turn_23 msX12_within rfl lkX12_62 (by decide) (by decide) (by decide) (Nat.le_of_ble_eq_true rfl) ?_
    refine e_X12_within h3 (by constructor <;> omega) (by constructor <;> omega) ?_
    refine Go_ifb_ne (tgt := 35) dX12_turn_26 (by decide)  (fun h26 => ?_) (fun h26 => by exact absurd c h26)
    refine Go_ald0 dX12_turn_35 ?_
    refine Go_cVv0 (d' := 0) (bc' := 0) (bs' := 0) rfl dX12_turn_36 mvX12_save rfl lkX12_81 (by first | assumption | rfl) rfl trivial (by decide) (by decide) (by decide) (Nat.le_of_ble_eq_true rfl) ?_
    refine e_X12_save hm.1 hm.2.1 (fun w1 v1 f1 g1 => ?_)
    have hm1 := MI_save hm v1 f1 g1
    refine Go_ald0 dX12_turn_39 ?_
    refine Go_cVv0 (d' := 1) (bc' := 0) (bs' := 0) rfl dX12_turn_40 mvX12_lay rfl lkX12_114 (by first | assumption | rfl) rfl trivial (by decide) (by decide) (by decide) (Nat.le_of_ble_eq_true rfl) ?_
    refine e_X12_lay hm1.1 (fun w2 m2 f2 => ?_)
    have hm2 := (mfr.of f2 (by decide)).MInv hm1
    have f9 : frm w w2 mcs := ((frm.rfl.up (by decide) : frm w (up w 68 0 0) mcs).trans f1 (by decide)).trans f2 (by decide)
    have t0 : w2 68 0 = 0 := by rw [f2.at (by decide), g1 0 (by decide), up_s]
    have ha := st_a hm2.1
    refine Go_ald0 dX12_turn_43 ?_
    refine Go_ild1 dX12_turn_44 ?_
    refine Go_ild2 dX12_turn_45 ?_
    refine Go_ild3 dX12_turn_46 ?_
    refine Go_cV3 (d' := 2) (bc' := 0) (bs' := 0) rfl dX12_turn_47 mvX12_whyNotTurned rfl lkX12_134 (by first | assumption | rfl) rfl trivial (by decide) (by decide) (by decide) (Nat.le_of_ble_eq_true rfl) ?_
    refine e_X12_whyNotTurned hm2.1 m2 hp hj (by omega) ?_
    by_cases r0 : whyT s.1 p j q = 0
    · have o := OKp_turn h.1.1 hp hj (show q ≤ 3 by omega) r0
      have hl := h.1.1.len hp
      have hx := h.1.1.lt p
      refine Go_ist4 dX12_turn_50 rfl ?_
      refine Go_ild4 dX12_turn_52 ?_
      refine Go_if_eq (tgt := 70) dX12_turn_54 (by decide) (by constructor <;> omega) (fun h54 => ?_) (fun h54 => by omega)
      refine Go_ild2 dX12_turn_70 ?_
      refine Go_iconst dX12_turn_71 ?_
      refine Go_iadd dX12_turn_72 ?_
      refine Go_ist5 dX12_turn_73 rfl ?_
      refine Go_upTo (n := (pth s.1 p).length - (j + 1)) (L := fun i => [some (vr 68), some (vi (p : Int)), some (vi (j : Int)), some (vi (q : Int)), some (vi (whyT s.1 p j q)), some (vi ((j : Int) + 1 + i))]) (P := fun i v => frm w2 v [69] ∧ (∀ m, (m < 9 + 60 * p ∨ 9 + 60 * p + 60 ≤ m) → v 69 m = w2 69 m) ∧ ∀ m, m < (pth s.1 p).length → v 69 (9 + 60 * p + m) = ((mvL (pth s.1 p) j q (j + 1 + i)).getD m 0 : Int)) (by repeat' (first | exact Or.inl rfl | exact Or.inr rfl | exact Or.inr (lcg (by omega)) | exact trivial | constructor)) (⟨frm.rfl, fun m hm => rfl, fun m hm => by rw [show j + 1 + 0 = j + 1 by omega, mvL_0]; exact st_s hm2.1 hp hm⟩) (fun i v hi hP kn => ?_) (fun v hP => ?_)
      · try dsimp only at hP kn
        try dsimp only
        obtain ⟨f3, a1, a2⟩ := hP
        have e0 : v 69 (4 + p) = ((pth s.1 p).length : Int) := by rw [a1 _ (by omega)]; exact st_l hm2.1 hp
        have e1 := a2 (j + 1 + i) (by omega)
        have e2 := a2 j hj
        rw [mvL_at (by omega), if_pos (by omega)] at e1 e2
        have b := swI_in ((pth s.1 p).getD (j + 1 + i) 0) ((pth s.1 p).getD j 0) q
        have bn := (whyT_s r0 (by omega : j < j + 1 + i) (by omega)).1
        refine Go_ild5 dX12_turn_75 ?_
        refine Go_ald0 dX12_turn_77 ?_
        refine Go_ild1 dX12_turn_78 ?_
        refine Go_cV1 (d' := 0) (bc' := 0) (bs' := 0) rfl dX12_turn_79 mvX12_lengthOf rfl lkX12_70 (by first | assumption | rfl) rfl trivial (by decide) (by decide) (by decide) (Nat.le_of_ble_eq_true rfl) ?_
        refine e_X12_lengthOfR (by omega) e0 ?_
        refine Go_icmp_ge (tgt := 115) dX12_turn_82 (by decide) (by constructor <;> omega) (by constructor <;> omega) (fun h82 => by omega) (fun h82 => ?_)
        refine Go_ald0 dX12_turn_85 ?_
        refine Go_ild1 dX12_turn_86 ?_
        refine Go_ild5 dX12_turn_87 ?_
        refine Go_ald0 dX12_turn_89 ?_
        refine Go_ild1 dX12_turn_90 ?_
        refine Go_ild5 dX12_turn_91 ?_
        refine Go_cV2 (d' := 0) (bc' := 0) (bs' := 0) rfl dX12_turn_93 mvX12_siteOf rfl lkX12_74 (by first | assumption | rfl) rfl trivial (by decide) (by decide) (by decide) (Nat.le_of_ble_eq_true rfl) ?_
        refine e_X12_siteOfR (k0 := j + 1 + i) (by omega) (by omega) (by omega) e1 ?_
        refine Go_ald0 dX12_turn_96 ?_
        refine Go_ild1 dX12_turn_97 ?_
        refine Go_ild2 dX12_turn_98 ?_
        refine Go_cV2 (d' := 0) (bc' := 0) (bs' := 0) rfl dX12_turn_99 mvX12_siteOf rfl lkX12_74 (by first | assumption | rfl) rfl trivial (by decide) (by decide) (by decide) (Nat.le_of_ble_eq_true rfl) ?_
        refine e_X12_siteOfR (k0 := j) (by omega) rfl (by omega) e2 ?_
        refine Go_ild3 dX12_turn_102 ?_
        refine Go_cS3 (d' := 1) (bc' := 0) (bs' := 0) rfl dX12_turn_103 msX12_turned rfl lkX12_127 (by decide) (by decide) (by decide) (Nat.le_of_ble_eq_true rfl) ?_
        refine e_X12_turned (hx.at _) (hx.at _) (by omega) ?_
        refine Go_cVv3 (d' := 0) (bc' := 0) (bs' := 0) rfl dX12_turn_106 mvX12_setSite rfl lkX12_104 (by first | assumption | rfl) rfl trivial (by decide) (by decide) (by decide) (Nat.le_of_ble_eq_true rfl) ?_
        refine e_X12_setSite (k0 := j + 1 + i) (by omega) (by omega) (by omega) ?_
        refine Go_inc5 dX12_turn_109 rfl ?_
        refine Go_goto (tgt := 75) dX12_turn_112 (by decide) ?_
        refine Go_forget (ls' := _) ?_ (kn _ ⟨f3.up (by simp), fun m hm => by rw [up_k (by omega)]; exact a1 m hm, fun m hm => ?_⟩)
        · exact (by repeat' (first | exact Or.inl rfl | exact Or.inr rfl | exact Or.inr (lcg (by omega)) | exact trivial | constructor))
        · rw [mvL_at hm]
          by_cases c2 : m = j + 1 + i
          · subst c2; rw [up_s, if_neg (by omega)]; omega
          · rw [up_k (by omega), a2 m hm, mvL_at hm]
            by_cases c3 : m ≤ j ∨ j + 1 + i ≤ m
            · rw [if_pos c3, if_pos (by omega)]
            · rw [if_neg c3, if_neg (by omega)]
      · try dsimp only at hP
        try dsimp only
        obtain ⟨f3, a1, a2⟩ := hP
        have e0 : v 69 (4 + p) = ((pth s.1 p).length : Int) := by rw [a1 _ (by omega)]; exact st_l hm2.1 hp
        rw [show j + 1 + ((pth s.1 p).length - (j + 1)) = (pth s.1 p).length by omega] at a2
        have tl : (turL (pth s.1 p) j q).length = (pth s.1 p).length := mvL_len _ _ _ _
        refine Go_ild5 dX12_turn_75 ?_
        refine Go_ald0 dX12_turn_77 ?_
        refine Go_ild1 dX12_turn_78 ?_
        refine Go_cV1 (d' := 0) (bc' := 0) (bs' := 0) rfl dX12_turn_79 mvX12_lengthOf rfl lkX12_70 (by first | assumption | rfl) rfl trivial (by decide) (by decide) (by decide) (Nat.le_of_ble_eq_true rfl) ?_
        refine e_X12_lengthOfR (by omega) e0 ?_
        refine Go_icmp_ge (tgt := 115) dX12_turn_82 (by decide) (by constructor <;> omega) (by constructor <;> omega) (fun h82 => ?_) (fun h82 => by omega)
        refine Go_ald0 dX12_turn_115 ?_
        refine gf11_1 dX12_turn_116 flX12_7 ?_
        refine Go_iconst dX12_turn_119 ?_
        refine Go_dup2 dX12_turn_120 ?_
        refine Go_iald dX12_turn_121 (by first | assumption | rfl) trivial (by omega) (by omega) (by decide) ?_
        refine Go_iconst dX12_turn_122 ?_
        refine Go_iadd dX12_turn_123 ?_
        refine Go_iast dX12_turn_124 (by first | assumption | rfl) trivial (by omega) (by omega) (by decide) ?_
        refine Go_iconst dX12_turn_125 ?_
        refine Go_ireturn dX12_turn_126 rfl (by first | rfl | decide | exact nar_b | simp [narrow]) ?_
        rw [show (3 : Int).toNat = 3 from rfl]
        refine kt _ p j q rfl hp rfl hj rfl (by omega) (by omega) r0 (mx_of hm2 f9 t0 (A := [69]) (st_put hm2.1 hp o ⟨by rw [up_k (by omega), tl]; exact e0, by omega, fun m hm => by rw [tl] at hm; rw [up_k (by omega)]; exact a2 m hm⟩ (fun i i1 i2 i3 => by rw [up_k (by omega)]; exact a1 i i2) ?_ ?_ ?_) (f3.up (by decide)) (by decide) (by rw [up_a (by decide), f3.at (by decide)]) (by rw [up_a (by decide), f3.at (by decide)]) (by rw [up_a (by decide), f3.at (by decide)]))
        · rw [up_k (by omega), a1 1 (by omega)]; exact ha.1
        · rw [up_k (by omega), a1 2 (by omega)]; exact ha.2.1
        · rw [up_s, a1 3 (by omega), ha.2.2]
    · have fin : MX w (up w2 69 2 (w2 69 2 + 1)) 0 (s.1, s.2.1, s.2.2.1 + 1, s.2.2.2) (pushS sv s) g tx := mx_of hm2 f9 t0 (A := [69]) (st_mk h.1.1 (by rw [up_k (by decide)]; exact (st_n hm2.1 :)) (by rw [up_k (by decide)]; exact ha.1) (by rw [up_s, ha.2.1]) (by rw [up_k (by decide)]; exact ha.2.2) (fun q hq => by rw [up_k (by omega)]; exact (st_l hm2.1 hq :)) (fun q k hq hk => by rw [up_k (by omega)]; exact (st_s hm2.1 hq hk :))) (frm.rfl.up (by decide)) (by decide) (by rw [up_a (by decide)]) (by rw [up_a (by decide)]) (by rw [up_a (by decide)])
      refine Go_ist4 dX12_turn_50 rfl ?_
      refine Go_ild4 dX12_turn_52 ?_
      refine Go_if_eq (tgt := 70) dX12_turn_54 (by decide) (by constructor <;> omega) (fun h54 => by omega) (fun h54 => ?_)
      refine Go_ald0 dX12_turn_57 ?_
      refine gf11_1 dX12_turn_58 flX12_7 ?_
      refine Go_iconst dX12_turn_61 ?_
      refine Go_dup2 dX12_turn_62 ?_
      refine Go_iald dX12_turn_63 (by first | assumption | rfl) trivial (by omega) (by omega) (by decide) ?_
      refine Go_iconst dX12_turn_64 ?_
      refine Go_iadd dX12_turn_65 ?_
      refine Go_iast dX12_turn_66 (by first | assumption | rfl) trivial (by omega) (by omega) (by decide) ?_
      refine Go_ild4 dX12_turn_67 ?_
      refine Go_ireturn dX12_turn_69 rfl (by first | rfl | decide | exact nar_b | simp [narrow]) ?_
      rw [show (2 : Int).toNat = 2 from rfl]
      exact kf _ p j q rfl hp rfl hj rfl (by omega) (by omega) r0 fin
  · skip
    refine Go_if_ne (tgt := 20) dX12_turn_11 (by decide) (by constructor <;> omega) (fun h11 => by omega) (fun h11 => ?_)
    refine Go_ald0 dX12_turn_14 ?_
    refine Go_iconst dX12_turn_15 ?_
    refine Go_cV1 (d' := 0) (bc' := 0) (bs' := 0) rfl dX12_turn_16 mvX12_fails rfl lkX12_78 (by first | assumption | rfl) rfl trivial (by decide) (by decide) (by decide) (Nat.le_of_ble_eq_true rfl) ?_
    refine e_X12_fails ?_
    refine Go_ireturn dX12_turn_19 rfl (by first | rfl | decide | exact nar_b | simp [narrow]) ?_
    exact x1 _ q (MX_fail h)
theorem e_X12_turnable (h : MInv w s sv g tx) (h1 : inR z1)
    (k : ∀ w' (p : Nat), z1 = p → p < s.1.length → MX w w' 0 s sv g tx → K (vi (smF (fun pl => smF (fun q => if whyT s.1 p pl (q + 1) = 0 then 1 else 0) 3) ((pth s.1 p).length - 1))) none w')
    (x1 : ∀ w', ¬ (0 ≤ z1 ∧ z1 < s.1.length) → MX w w' 1 s sv g tx → K (vi 0) none w') : Ev G yX12_turnable cX12_turnable 5 mX12_turnable none 3 0 0 [vr 68, vi z1] w K X := by
  have hm := thr0.MInv h
  refine Ev_intro mvX12_turnable.1 rfl (fun h => by cases h) (allc1 rfl) (Nat.le_of_ble_eq_true rfl) (Or.inl rfl) ?_
  show Go G cX12_turnable mX12_turnable none 3 0 0 0 [some (vr 68), some (vi z1), none, none, none] [] w K X
  by_cases c : 0 ≤ z1 ∧ z1 < s.1.length
  case neg =>
    refine Go_ald0 dX12_turnable_0 ?_
    refine Go_iconst dX12_turnable_1 ?_
    refine pf11_0 dX12_turnable_2 flX12_59 (by first | assumption | rfl) ?_
    refine Go_ald0 dX12_turnable_5 ?_
    refine Go_ild1 dX12_turnable_6 ?_
    refine Go_cV1 (d' := 1) (bc' := 0) (bs' := 0) rfl dX12_turnable_7 mvX12_isPath rfl lkX12_66 (by first | assumption | rfl) rfl trivial (by decide) (by decide) (by decide) (Nat.le_of_ble_eq_true rfl) ?_
    refine e_X12_isPath hm.1 h1 ?_
    refine Go_ifb_ne (tgt := 19) dX12_turnable_10 (by decide)  (fun h10 => by exact absurd h10 c) (fun h10 => ?_)
    refine Go_ald0 dX12_turnable_13 ?_
    refine Go_iconst dX12_turnable_14 ?_
    refine Go_cV1 (d' := 0) (bc' := 0) (bs' := 0) rfl dX12_turnable_15 mvX12_fails rfl lkX12_78 (by first | assumption | rfl) rfl trivial (by decide) (by decide) (by decide) (Nat.le_of_ble_eq_true rfl) ?_
    refine e_X12_fails ?_
    refine Go_ireturn dX12_turnable_18 rfl (by first | rfl | decide | exact nar_b | simp [narrow]) ?_
    exact x1 _ c (MX_fail h)
  obtain ⟨p, rfl⟩ := Int.eq_ofNat_of_zero_le c.1
  have hp : p < s.1.length := by omega
  have hl := h.1.1.len hp
  refine Go_ald0 dX12_turnable_0 ?_
  refine Go_iconst dX12_turnable_1 ?_
  refine pf11_0 dX12_turnable_2 flX12_59 (by first | assumption | rfl) ?_
  refine Go_ald0 dX12_turnable_5 ?_
  refine Go_ild1 dX12_turnable_6 ?_
  refine Go_cV1 (d' := 1) (bc' := 0) (bs' := 0) rfl dX12_turnable_7 mvX12_isPath rfl lkX12_66 (by first | assumption | rfl) rfl trivial (by decide) (by decide) (by decide) (Nat.le_of_ble_eq_true rfl) ?_
  refine e_X12_isPath hm.1 h1 ?_
  refine Go_ifb_ne (tgt := 19) dX12_turnable_10 (by decide)  (fun h10 => ?_) (fun h10 => by exact absurd c h10)
  refine Go_ald0 dX12_turnable_19 ?_
  refine Go_cVv0 (d' := 1) (bc' := 0) (bs' := 0) rfl dX12_turnable_20 mvX12_lay rfl lkX12_114 (by first | assumption | rfl) rfl trivial (by decide) (by decide) (by decide) (Nat.le_of_ble_eq_true rfl) ?_
  refine e_X12_lay hm.1 (fun w1 m1 f1 => ?_)
  have o := mq_lay (s := s) (sv := sv) (g := g) (tx := tx) f1
  have hs := (o.1.MInv h).1
  refine Go_iconst dX12_turnable_23 ?_
  refine Go_ist2 dX12_turnable_24 rfl ?_
  refine Go_iconst dX12_turnable_25 ?_
  refine Go_ist3 dX12_turnable_26 rfl ?_
  refine Go_upTo (n := (pth s.1 p).length - 1) (L := fun i => [some (vr 68), some (vi (p : Int)), some (vi (smF (fun pl => smF (fun q => if whyT s.1 p pl (q + 1) = 0 then 1 else 0) 3) i)), some (vi (i : Int)), none]) (P := fun i v => v = w1) (by repeat' (first | exact Or.inl rfl | exact Or.inr rfl | exact Or.inr (lcg (by omega)) | exact trivial | constructor)) (rfl) (fun i v hi hP kn => ?_) (fun v hP => ?_)
  · try dsimp only at hP kn
    try dsimp only
    subst hP
    have e : smF (fun pl => smF (fun q => if whyT s.1 p pl (q + 1) = 0 then (1 : Int) else 0) 3) (i + 1) = smF (fun pl => smF (fun q => if whyT s.1 p pl (q + 1) = 0 then (1 : Int) else 0) 3) i + smF (fun q => if whyT s.1 p i (q + 1) = 0 then (1 : Int) else 0) 3 := rfl
    have z0 : smF (fun q => if whyT s.1 p i (q + 1) = 0 then (1 : Int) else 0) 0 = 0 := rfl
    refine Go_ild3 dX12_turnable_27 ?_
    refine Go_ald0 dX12_turnable_28 ?_
    refine Go_ild1 dX12_turnable_29 ?_
    refine Go_cV1 (d' := 0) (bc' := 0) (bs' := 0) rfl dX12_turnable_30 mvX12_lengthOf rfl lkX12_70 (by first | assumption | rfl) rfl trivial (by decide) (by decide) (by decide) (Nat.le_of_ble_eq_true rfl) ?_
    refine e_X12_lengthOf hs hp ?_
    refine Go_iconst dX12_turnable_33 ?_
    refine Go_isub dX12_turnable_34 ?_
    refine Go_icmp_ge (tgt := 78) dX12_turnable_35 (by decide) (by constructor <;> omega) (by constructor <;> omega) (fun h35 => by omega) (fun h35 => ?_)
    refine Go_iconst dX12_turnable_38 ?_
    refine Go_ist4 dX12_turnable_39 rfl ?_
    refine Go_upTo (n := 3) (L := fun i2 => [some (vr 68), some (vi (p : Int)), some (vi (smF (fun pl => smF (fun q => if whyT s.1 p pl (q + 1) = 0 then (1 : Int) else 0) 3) i + smF (fun q => if whyT s.1 p i (q + 1) = 0 then (1 : Int) else 0) i2)), some (vi (i : Int)), some (vi ((i2 : Int) + 1))]) (P := fun i2 v2 => v2 = v) (by repeat' (first | exact Or.inl rfl | exact Or.inr rfl | exact Or.inr (lcg (by omega)) | exact trivial | constructor)) (rfl) (fun i2 v2 hi2 hP2 kn2 => ?_) (fun v2 hP2 => ?_)
    · try dsimp only at hP2 kn2
      try dsimp only
      subst hP2
      have bw := whyT_in s.1 p i (i2 + 1)
      have e2 : smF (fun q => if whyT s.1 p i (q + 1) = 0 then (1 : Int) else 0) (i2 + 1) = smF (fun q => if whyT s.1 p i (q + 1) = 0 then (1 : Int) else 0) i2 + (if whyT s.1 p i (i2 + 1) = 0 then 1 else 0) := rfl
      refine Go_ild4 dX12_turnable_41 ?_
      refine Go_iconst dX12_turnable_43 ?_
      refine Go_icmp_ge (tgt := 72) dX12_turnable_44 (by decide) (by constructor <;> omega) (by constructor <;> omega) (fun h44 => by omega) (fun h44 => ?_)
      refine Go_ild2 dX12_turnable_47 ?_
      refine Go_ald0 dX12_turnable_48 ?_
      refine Go_ild1 dX12_turnable_49 ?_
      refine Go_ild3 dX12_turnable_50 ?_
      refine Go_ild4 dX12_turnable_51 ?_
      rw [show (i2 : Int) + 1 = ((i2 + 1 : Nat) : Int) by omega]
      refine Go_cV3 (d' := 2) (bc' := 0) (bs' := 0) rfl dX12_turnable_53 mvX12_whyNotTurned rfl lkX12_134 (by first | assumption | rfl) rfl trivial (by decide) (by decide) (by decide) (Nat.le_of_ble_eq_true rfl) ?_
      refine e_X12_whyNotTurned hs m1 hp (by omega) (by omega) ?_
      refine Go_if_ne (tgt := 63) dX12_turnable_56 (by decide) (by constructor <;> omega) (fun h56 => ?_) (fun h56 => ?_)
      · refine Go_iconst dX12_turnable_63 ?_
        refine Go_iadd dX12_turnable_64 ?_
        refine Go_ist2 dX12_turnable_65 rfl ?_
        refine Go_inc4 dX12_turnable_66 rfl ?_
        refine Go_goto (tgt := 41) dX12_turnable_69 (by decide) ?_
        refine Go_forget (ls' := _) ?_ (kn2 _ rfl)
        first | rw [if_pos h56] at e2 | rw [if_neg h56] at e2
        rw [e2]
        exact (by repeat' (first | exact Or.inl rfl | exact Or.inr rfl | exact Or.inr (lcg (by omega)) | exact trivial | constructor))
      · refine Go_iconst dX12_turnable_59 ?_
        refine Go_goto (tgt := 64) dX12_turnable_60 (by decide) ?_
        refine Go_iadd dX12_turnable_64 ?_
        refine Go_ist2 dX12_turnable_65 rfl ?_
        refine Go_inc4 dX12_turnable_66 rfl ?_
        refine Go_goto (tgt := 41) dX12_turnable_69 (by decide) ?_
        refine Go_forget (ls' := _) ?_ (kn2 _ rfl)
        first | rw [if_pos h56] at e2 | rw [if_neg h56] at e2
        rw [e2]
        exact (by repeat' (first | exact Or.inl rfl | exact Or.inr rfl | exact Or.inr (lcg (by omega)) | exact trivial | constructor))
    · try dsimp only at hP2
      try dsimp only
      subst hP2
      refine Go_ild4 dX12_turnable_41 ?_
      refine Go_iconst dX12_turnable_43 ?_
      refine Go_icmp_ge (tgt := 72) dX12_turnable_44 (by decide) (by constructor <;> omega) (by constructor <;> omega) (fun h44 => ?_) (fun h44 => by omega)
      refine Go_inc3 dX12_turnable_72 rfl ?_
      refine Go_goto (tgt := 27) dX12_turnable_75 (by decide) ?_
      exact Go_forget (by repeat' (first | exact Or.inl rfl | exact Or.inr rfl | exact Or.inr (lcg (by omega)) | exact trivial | constructor)) (kn _ rfl)
  · try dsimp only at hP
    try dsimp only
    subst hP
    refine Go_ild3 dX12_turnable_27 ?_
    refine Go_ald0 dX12_turnable_28 ?_
    refine Go_ild1 dX12_turnable_29 ?_
    refine Go_cV1 (d' := 0) (bc' := 0) (bs' := 0) rfl dX12_turnable_30 mvX12_lengthOf rfl lkX12_70 (by first | assumption | rfl) rfl trivial (by decide) (by decide) (by decide) (Nat.le_of_ble_eq_true rfl) ?_
    refine e_X12_lengthOf hs hp ?_
    refine Go_iconst dX12_turnable_33 ?_
    refine Go_isub dX12_turnable_34 ?_
    refine Go_icmp_ge (tgt := 78) dX12_turnable_35 (by decide) (by constructor <;> omega) (by constructor <;> omega) (fun h35 => ?_) (fun h35 => by omega)
    refine Go_ild2 dX12_turnable_78 ?_
    refine Go_ireturn dX12_turnable_79 rfl (by first | rfl | decide | exact nar_b | simp [narrow]) ?_
    exact k _ p rfl hp (MX_q h o.1 o.2)
end Model5
