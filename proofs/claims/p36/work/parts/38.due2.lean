theorem hasF_iff {f : Nat → Int} {v : Int} : ∀ {n : Nat}, hasF f v n = 1 ↔ ∃ j, j < n ∧ f j = v
  | 0 => ⟨fun h => absurd (show (0 : Int) = 1 from h) (by decide), fun ⟨j, hj, _⟩ => absurd hj (by omega)⟩
  | n + 1 => by
    have ih := hasF_iff (f := f) (v := v) (n := n)
    show (if hasF f v n = 1 ∨ f n = v then (1 : Int) else 0) = 1 ↔ _
    by_cases c : hasF f v n = 1 ∨ f n = v
    · rw [if_pos c]
      refine ⟨fun _ => ?_, fun _ => rfl⟩
      rcases c with c | c
      · obtain ⟨j, hj, e⟩ := ih.mp c
        exact ⟨j, by omega, e⟩
      · exact ⟨n, by omega, c⟩
    · rw [if_neg c]
      refine ⟨fun h => absurd h (by decide), fun ⟨j, hj, e⟩ => ?_⟩
      exfalso
      by_cases q : j = n
      · subst q; exact c (Or.inr e)
      · exact c (Or.inl (ih.mpr ⟨j, by omega, e⟩))
section Due2
variable {G : Gm} {w : Wd} {K : Kt} {X : Xt} {s : Sta}
theorem e_L_joined {p o : Nat} (h : RS w s) (ho : OKp s.1) (hp : p < s.1.length) (hq : o < s.1.length) (hpo : p ≠ o) (h48 : (pth s.1 p).length + (pth s.1 o).length ≤ 48)
    (k1 : sqD (hdL (pth s.1 p)) (hdL (pth s.1 o)) = 1 → ∀ w', RS w' (weldP s.1 p o, s.2.1, s.2.2.1, s.2.2.2) → frm w w' [68, 69] → K (vi (((pth s.1 p).length : Int) + (pth s.1 o).length)) none w')
    (k0 : ¬ sqD (hdL (pth s.1 p)) (hdL (pth s.1 o)) = 1 → K (vi (-103)) none w) : Ev G yL_joined cL_joined 7 mL_joined none 1 0 0 [vi (p : Int), vi (o : Int), vr 68, vr 69] w K X := by
  have h5 := ho.1
  have hP := h.1.2.2 p hp
  have hO := h.1.2.2 o hq
  have hlp := ho.len hp
  have hlo := ho.len hq
  have hlenp : w 68 (Int.toNat (p : Int)) = ((pth s.1 p).length : Int) := hP.1
  have hleno : w 68 (Int.toNat (o : Int)) = ((pth s.1 o).length : Int) := hO.1
  have bp : hdL (pth s.1 p) < 100 := (ho.lt p).at ((pth s.1 p).length - 1)
  have bo : hdL (pth s.1 o) < 100 := (ho.lt o).at ((pth s.1 o).length - 1)
  obtain ⟨f, hf⟩ : ∃ f : Nat → Int, f = fun d : Nat => nbI (hdL (pth s.1 p) : Int) (d : Int) := ⟨_, rfl⟩
  have hs : sqD (hdL (pth s.1 p)) (hdL (pth s.1 o)) = 1 ↔ hasF f (hdL (pth s.1 o) : Int) 4 = 1 := by
    rw [sqD_nbr bp bo, hasF_iff, hf]
    exact Iff.rfl
  rw [hs] at k1 k0
  refine Ev_intro msL_joined.1 rfl (fun h => by cases h) (allc1 rfl) (Nat.le_of_ble_eq_true rfl) (Or.inl rfl) ?_
  show Go G cL_joined mL_joined none 1 0 0 0 [some (vi (p : Int)), some (vi (o : Int)), some (vr 68), some (vr 69), none, none, none] [] w K X
  refine Go_ild0 dL_joined_0 ?_
  refine Go_ald2 dL_joined_1 ?_
  refine Go_ild0 dL_joined_2 ?_
  refine Go_iald dL_joined_3 (by first | assumption | rfl) trivial (by omega) (by omega) (by decide) ?_
  refine Go_iconst dL_joined_4 ?_
  refine Go_isub dL_joined_5 ?_
  refine Go_ald3 dL_joined_6 ?_
  rw [hlenp, show ((pth s.1 p).length : Int) - 1 = (((pth s.1 p).length - 1 : Nat) : Int) by omega]
  refine Go_cS3 (d' := 0) (bc' := 0) (bs' := 0) rfl dL_joined_7 msL_at rfl lkL_70 (by decide) (by omega) (by omega) (Nat.le_of_ble_eq_true rfl) ?_
  refine e_L_at h.1.1 (by omega) (by omega) ?_
  rw [hP.2.2 _ (by omega), show (pth s.1 p).getD ((pth s.1 p).length - 1) 0 = hdL (pth s.1 p) from rfl]
  refine Go_ist4 dL_joined_10 rfl ?_
  refine Go_iconst dL_joined_12 ?_
  refine Go_ist5 dL_joined_13 rfl ?_
  refine Go_iconst dL_joined_15 ?_
  refine Go_ist6 dL_joined_16 rfl ?_
  refine Go_upTo (n := 4) (L := fun i => [some (vi (p : Int)), some (vi (o : Int)), some (vr 68), some (vr 69), some (vi (hdL (pth s.1 p) : Int)), some (vi (hasF f (hdL (pth s.1 o) : Int) i)), some (vi (i : Int))]) (P := fun i v => v = w) (by repeat' (first | exact Or.inl rfl | exact Or.inr rfl | exact Or.inr (lcg (by omega)) | exact trivial | constructor)) (rfl) (fun i v hi hP kn => ?_) (fun v hP => ?_)
  · try dsimp only at hP kn
    try dsimp only
    subst hP
    have i1 := hasF_in f (hdL (pth s.1 o) : Int) i
    have e1 : hasF f (hdL (pth s.1 o) : Int) (i + 1) = if hasF f (hdL (pth s.1 o) : Int) i = 1 ∨ f i = (hdL (pth s.1 o) : Int) then 1 else 0 := rfl
    have ef : f i = nbI (hdL (pth s.1 p) : Int) (i : Int) := by rw [hf]
    have bn := nbI_in (hdL (pth s.1 p) : Int) (i : Int)
    have bo' : hdL (pth s.1 o) < 100 := bo
    have kA : ∀ z : Int, z = hasF f (hdL (pth s.1 o) : Int) (i + 1) → Go G cL_joined mL_joined none 1 0 0 54 [some (vi (p : Int)), some (vi (o : Int)), some (vr 68), some (vr 69), some (vi (hdL (pth s.1 p) : Int)), some (vi (hasF f (hdL (pth s.1 o) : Int) i)), some (vi (i : Int))] [vi z] v K X := fun z hz => by
      subst hz
      refine Go_ist5 dL_joined_54 rfl ?_
      refine Go_inc6 dL_joined_56 rfl ?_
      refine Go_goto (tgt := 18) dL_joined_59 (by decide) ?_
      exact Go_forget (by repeat' (first | exact Or.inl rfl | exact Or.inr rfl | exact Or.inr (lcg (by omega)) | exact trivial | constructor)) (kn _ rfl)
    refine Go_ild6 dL_joined_18 ?_
    refine Go_iconst dL_joined_20 ?_
    refine Go_icmp_ge (tgt := 62) dL_joined_21 (by decide) (by constructor <;> omega) (by constructor <;> omega) (fun h21 => by omega) (fun h21 => ?_)
    refine Go_ild5 dL_joined_24 ?_
    refine Go_if_ne (tgt := 49) dL_joined_26 (by decide) (by constructor <;> omega) (fun h26 => ?_) (fun h26 => ?_)
    · refine Go_iconst dL_joined_49 ?_
      refine Go_goto (tgt := 54) dL_joined_50 (by decide) ?_
      refine kA _ ?_
      rw [e1]
      split <;> omega
    · refine Go_ild4 dL_joined_29 ?_
      refine Go_ild6 dL_joined_31 ?_
      refine Go_cS2 (d' := 0) (bc' := 0) (bs' := 0) rfl dL_joined_33 msL_go rfl lkL_114 (by decide) (by omega) (by omega) (Nat.le_of_ble_eq_true rfl) ?_
      refine e_L_go bp hi ?_
      rw [← ef]
      refine Go_ild1 dL_joined_36 ?_
      refine Go_ald2 dL_joined_37 ?_
      refine Go_ild1 dL_joined_38 ?_
      refine Go_iald dL_joined_39 (by first | assumption | rfl) trivial (by omega) (by omega) (by decide) ?_
      refine Go_iconst dL_joined_40 ?_
      refine Go_isub dL_joined_41 ?_
      refine Go_ald3 dL_joined_42 ?_
      rw [hleno, show ((pth s.1 o).length : Int) - 1 = (((pth s.1 o).length - 1 : Nat) : Int) by omega]
      refine Go_cS3 (d' := 0) (bc' := 0) (bs' := 0) rfl dL_joined_43 msL_at rfl lkL_70 (by decide) (by omega) (by omega) (Nat.le_of_ble_eq_true rfl) ?_
      refine e_L_at h.1.1 (by omega) (by omega) ?_
      rw [hO.2.2 _ (by omega), show (pth s.1 o).getD ((pth s.1 o).length - 1) 0 = hdL (pth s.1 o) from rfl]
      refine Go_icmp_ne (tgt := 53) dL_joined_46 (by decide) (by constructor <;> omega) (by constructor <;> omega) (fun h46 => ?_) (fun h46 => ?_)
      · refine Go_iconst dL_joined_53 ?_
        refine kA _ ?_
        rw [e1]
        split <;> omega
      · refine Go_iconst dL_joined_49 ?_
        refine Go_goto (tgt := 54) dL_joined_50 (by decide) ?_
        refine kA _ ?_
        rw [e1]
        split <;> omega
  · try dsimp only at hP
    try dsimp only
    subst hP
    have i1 := hasF_in f (hdL (pth s.1 o) : Int) 4
    by_cases c1 : hasF f (hdL (pth s.1 o) : Int) 4 = 1
    · have k1 := k1 c1
      refine Go_ild6 dL_joined_18 ?_
      refine Go_iconst dL_joined_20 ?_
      refine Go_icmp_ge (tgt := 62) dL_joined_21 (by decide) (by constructor <;> omega) (by constructor <;> omega) (fun h21 => ?_) (fun h21 => by omega)
      refine Go_ild5 dL_joined_62 ?_
      refine Go_if_ne (tgt := 70) dL_joined_64 (by decide) (by constructor <;> omega) (fun h64 => ?_) (fun h64 => by omega)
      refine Go_ald2 dL_joined_70 ?_
      refine Go_ild1 dL_joined_71 ?_
      refine Go_iald dL_joined_72 (by first | assumption | rfl) trivial (by omega) (by omega) (by decide) ?_
      refine Go_iconst dL_joined_73 ?_
      refine Go_isub dL_joined_74 ?_
      rw [hleno]
      refine Go_ist6 dL_joined_75 rfl ?_
      refine Go_upTo (n := (pth s.1 o).length) (L := fun i2 => [some (vi (p : Int)), some (vi (o : Int)), some (vr 68), some (vr 69), some (vi (hdL (pth s.1 p) : Int)), some (vi (hasF f (hdL (pth s.1 o) : Int) 4)), some (vi (((pth s.1 o).length : Int) - 1 - (i2 : Int)))]) (P := fun i2 v2 => PA v2 ∧ frm v v2 [68, 69] ∧ v2 68 p = ((pth s.1 p).length : Int) + i2 ∧ (∀ j, j ≠ p → v2 68 j = v 68 j) ∧ ∀ r m, r < 5 → m < 48 → PK v2 r m = if r = p ∧ (pth s.1 p).length ≤ m ∧ m < (pth s.1 p).length + i2 then PK v o ((pth s.1 o).length - 1 - (m - (pth s.1 p).length)) else PK v r m) (by repeat' (first | exact Or.inl rfl | exact Or.inr rfl | exact Or.inr (lcg (by omega)) | exact trivial | constructor)) (⟨h.1.1, frm.rfl, by rw [hP.1]; omega, fun _ _ => rfl, fun r m _ _ => by rw [if_neg (by omega)]⟩) (fun i2 v2 hi2 hP2 kn2 => ?_) (fun v2 hP2 => ?_)
      · try dsimp only at hP2 kn2
        try dsimp only
        obtain ⟨pa, fr, hn, hj, hk⟩ := hP2
        have hn' : v2 68 (Int.toNat (p : Int)) = (((pth s.1 p).length + i2 : Nat) : Int) := by rw [Int.toNat_natCast, hn]; omega
        have e1 : PK v2 o ((pth s.1 o).length - 1 - i2) = PK v o ((pth s.1 o).length - 1 - i2) := by rw [hk o _ (by omega) (by omega), if_neg (fun z => hpo z.1.symm)]
        refine Go_ild6 dL_joined_77 ?_
        refine Go_if_lt (tgt := 110) dL_joined_79 (by decide) (by constructor <;> omega) (fun h79 => by omega) (fun h79 => ?_)
        refine Go_ild0 dL_joined_82 ?_
        refine Go_ald2 dL_joined_83 ?_
        refine Go_ild0 dL_joined_84 ?_
        refine Go_iald dL_joined_85 (by first | assumption | rfl) trivial (by omega) (by omega) (by decide) ?_
        rw [hn']
        refine Go_ild1 dL_joined_86 ?_
        refine Go_ild6 dL_joined_87 ?_
        refine Go_ald3 dL_joined_89 ?_
        rw [show ((pth s.1 o).length : Int) - 1 - (i2 : Int) = (((pth s.1 o).length - 1 - i2 : Nat) : Int) by omega]
        refine Go_cS3 (d' := 0) (bc' := 0) (bs' := 0) rfl dL_joined_90 msL_at rfl lkL_70 (by decide) (by omega) (by omega) (Nat.le_of_ble_eq_true rfl) ?_
        refine e_L_at pa (by omega) (by omega) ?_
        rw [e1]
        refine Go_ald3 dL_joined_93 ?_
        refine Go_cSv4 (d' := 0) (bc' := 0) (bs' := 0) rfl dL_joined_94 msL_puts rfl lkL_121 (by decide) (by omega) (by omega) (Nat.le_of_ble_eq_true rfl) ?_
        refine e_L_puts pa (by omega) (by omega) (PK_lt _ _ _) (fun w1 a1 f1 g1 => ?_)
        refine Go_ald2 dL_joined_97 ?_
        refine Go_ild0 dL_joined_98 ?_
        refine Go_dup2 dL_joined_99 ?_
        refine Go_iald dL_joined_100 (by first | assumption | rfl) trivial (by omega) (by omega) (by decide) ?_
        rw [f1.at (by simp), hn']
        refine Go_iconst dL_joined_101 ?_
        refine Go_iadd dL_joined_102 ?_
        refine Go_iast dL_joined_103 (by first | assumption | rfl) trivial (by omega) (by omega) (by decide) ?_
        rw [Int.toNat_natCast]
        refine Go_inc6 dL_joined_104 rfl ?_
        refine Go_goto (tgt := 77) dL_joined_107 (by decide) ?_
        refine Go_forget (ls' := _) ?_ (kn2 _ ⟨a1.frm (A := [68]) (frm.rfl.up (by simp)) (by simp), (fr.trans (f1.mono (B := [68, 69]) (by simp)) (by simp)).up (by simp), by rw [up_s]; omega, fun j hjp => by rw [up_k hjp, f1.at (by simp)]; exact hj j hjp, fun r m hr hm => ?_⟩)
        · rw [show ((pth s.1 o).length : Int) - 1 - ((i2 + 1 : Nat) : Int) = (((pth s.1 o).length - 1 - i2 : Nat) : Int) + -1 by omega]
          exact (by repeat' (first | exact Or.inl rfl | exact Or.inr rfl | exact Or.inr (lcg (by omega)) | exact trivial | constructor))
        · rw [PK.frm (A := [68]) (frm.rfl.up (by simp)) (by simp), g1 r m hr hm, hk r m hr hm]
          by_cases c : r = p ∧ m = (pth s.1 p).length + i2
          · rw [if_pos c, if_pos (by omega), c.2, show (pth s.1 p).length + i2 - (pth s.1 p).length = i2 by omega]
          · rw [if_neg c]
            by_cases c2 : r = p ∧ (pth s.1 p).length ≤ m ∧ m < (pth s.1 p).length + i2
            · rw [if_pos c2, if_pos (by omega)]
            · rw [if_neg c2, if_neg (by omega)]
      · try dsimp only at hP2
        try dsimp only
        obtain ⟨pa, fr, hn, hj, hk⟩ := hP2
        have hn' : v2 68 (Int.toNat (p : Int)) = ((pth s.1 p).length : Int) + (pth s.1 o).length := by rw [Int.toNat_natCast, hn]
        have lw : (weldL s.1 p o).length = (pth s.1 p).length + (pth s.1 o).length := by unfold weldL; rw [List.length_append, List.length_reverse]
        have rS : RP v2 (s.1.set p (weldL s.1 p o)) := RP_set h.1 h5 pa (hj 5 (by omega)) (fun r hr hrp => ⟨hj r hrp, fun m hm => by rw [hk r m hr hm, if_neg (fun z => hrp z.1)]⟩) (by rw [hn, lw]; omega) (by rw [lw]; exact h48) (fun m hm => by
          rw [lw] at hm
          rw [hk p m (by omega) (by omega)]
          unfold weldL
          rw [gD_app]
          by_cases c : m < (pth s.1 p).length
          · rw [if_neg (by omega), if_pos c]; exact hP.2.2 m c
          · rw [if_pos (by omega), if_neg c, gD_rev (by omega)]; exact hO.2.2 _ (by omega))
        refine Go_ild6 dL_joined_77 ?_
        refine Go_if_lt (tgt := 110) dL_joined_79 (by decide) (by constructor <;> omega) (fun h79 => ?_) (fun h79 => by omega)
        refine Go_ald2 dL_joined_110 ?_
        refine Go_ild0 dL_joined_111 ?_
        refine Go_iald dL_joined_112 (by first | assumption | rfl) trivial (by omega) (by omega) (by decide) ?_
        rw [hn']
        refine Go_ist6 dL_joined_113 rfl ?_
        refine Go_ild1 dL_joined_115 ?_
        refine Go_ald2 dL_joined_116 ?_
        refine Go_ald3 dL_joined_117 ?_
        refine Go_cSv3 (d' := 0) (bc' := 0) (bs' := 0) rfl dL_joined_118 msL_drops rfl lkL_128 (by decide) (by omega) (by omega) (Nat.le_of_ble_eq_true rfl) ?_
        refine e_L_drops pa (by omega) rfl (fun w1 a1 f1 n5 n6 hd => ?_)
        refine Go_ild6 dL_joined_121 ?_
        refine Go_ireturn dL_joined_123 rfl (by first | rfl | decide | exact nar_b | simp [narrow]) ?_
        refine k1 _ ⟨?_, ?_, ?_, ?_⟩ (fr.trans f1 (by simp))
        · exact RP_erase rS (by rw [List.length_set]; exact h5) (by rw [List.length_set]; exact hq) a1 n5 hd
        · rw [n6 6 (by decide), hj 6 (by omega)]; exact h.2.1
        · rw [n6 7 (by decide), hj 7 (by omega)]; exact h.2.2.1
        · rw [n6 8 (by decide), hj 8 (by omega)]; exact h.2.2.2
    · skip
      refine Go_ild6 dL_joined_18 ?_
      refine Go_iconst dL_joined_20 ?_
      refine Go_icmp_ge (tgt := 62) dL_joined_21 (by decide) (by constructor <;> omega) (by constructor <;> omega) (fun h21 => ?_) (fun h21 => by omega)
      refine Go_ild5 dL_joined_62 ?_
      refine Go_if_ne (tgt := 70) dL_joined_64 (by decide) (by constructor <;> omega) (fun h64 => by omega) (fun h64 => ?_)
      refine Go_bipush dL_joined_67 (by decide +kernel) ?_
      refine Go_ireturn dL_joined_69 rfl (by first | rfl | decide | exact nar_b | simp [narrow]) ?_
      exact k0 c1
theorem tot_set : ∀ {ps : List (List Nat)} {p : Nat} {l : List Nat}, p < ps.length → tot (ps.set p l) + (pth ps p).length = tot ps + l.length
  | [], _, _, h => absurd h (by simp)
  | a :: r, 0, l, _ => by show l.length + tot r + a.length = a.length + tot r + l.length; omega
  | a :: r, p + 1, l, h => by
    have ih := tot_set (ps := r) (p := p) (l := l) (by simpa using h)
    show a.length + tot (r.set p l) + (pth r p).length = a.length + tot r + l.length
    omega
theorem tot_erase : ∀ {ps : List (List Nat)} {p : Nat}, p < ps.length → tot (ps.eraseIdx p) + (pth ps p).length = tot ps
  | [], _, h => absurd h (by simp)
  | a :: r, 0, _ => by show tot r + a.length = a.length + tot r; omega
  | a :: r, p + 1, h => by
    have ih := tot_erase (ps := r) (p := p) (by simpa using h)
    show a.length + tot (r.eraseIdx p) + (pth r p).length = a.length + tot r
    omega
theorem tot_ge {ps : List (List Nat)} {p : Nat} (h : p < ps.length) : (pth ps p).length ≤ tot ps := by
  have := tot_erase h
  omega
theorem tot_two {ps : List (List Nat)} {p o : Nat} (hp : p < ps.length) (hq : o < ps.length) (hpo : p ≠ o) : (pth ps p).length + (pth ps o).length ≤ tot ps := by
  have e1 := tot_set (l := []) hp
  have e2 := tot_ge (ps := ps.set p []) (p := o) (by rw [List.length_set]; exact hq)
  rw [pth_set hp, if_neg (fun z => hpo z.symm)] at e2
  simp only [List.length_nil] at e1
  omega
/-- a call makes at most one site more -/
theorem cA_tot {kd a b c : Nat} (ho : OKp s.1) : tot (cA s kd a b c).2.1 ≤ tot s.1 + 1 := by
  have key : (fun r : Int × Sta => tot r.2.1 ≤ tot s.1 + 1) (cA s kd a b c) := by
    unfold cA
    refine iteP (P := fun r : Int × Sta => tot r.2.1 ≤ tot s.1 + 1) (fun _ => ?_) (fun _ => ?_)
    · refine iteP (P := fun r : Int × Sta => tot r.2.1 ≤ tot s.1 + 1) (fun _ => ?_) (fun _ => Nat.le_succ _)
      show tot (s.1 ++ [[10 * b + a]]) ≤ _
      rw [tot_app]
      exact Nat.le_refl _
    refine iteP (P := fun r : Int × Sta => tot r.2.1 ≤ tot s.1 + 1) (fun _ => Nat.le_succ _) (fun ha => ?_)
    have ha : a < s.1.length := by omega
    have st := fun l => tot_set (l := l) ha
    refine iteP (P := fun r : Int × Sta => tot r.2.1 ≤ tot s.1 + 1) (fun _ => ?_) (fun _ => ?_)
    · show tot (stepS s a b).1 ≤ _
      unfold stepS
      split
      · have := st (pth s.1 a ++ [(stepT s.1 a b).toNat])
        rw [List.length_append, List.length_singleton] at this
        show tot (s.1.set a (pth s.1 a ++ [(stepT s.1 a b).toNat])) ≤ _
        omega
      · exact Nat.le_succ _
    refine iteP (P := fun r : Int × Sta => tot r.2.1 ≤ tot s.1 + 1) (fun _ => ?_) (fun _ => ?_)
    · refine iteP (P := fun r : Int × Sta => tot r.2.1 ≤ tot s.1 + 1) (fun _ => Nat.le_succ _) (fun _ => ?_)
      have := st ((pth s.1 a).take ((pth s.1 a).length - 1))
      rw [List.length_take] at this
      show tot (s.1.set a ((pth s.1 a).take ((pth s.1 a).length - 1))) ≤ _
      omega
    refine iteP (P := fun r : Int × Sta => tot r.2.1 ≤ tot s.1 + 1) (fun _ => ?_) (fun _ => ?_)
    · show tot (slithS s a b).1 ≤ _
      unfold slithS
      split
      · have := st ((pth s.1 a).drop 1 ++ [(stepT s.1 a b).toNat])
        rw [List.length_append, List.length_drop, List.length_singleton] at this
        show tot (s.1.set a ((pth s.1 a).drop 1 ++ [(stepT s.1 a b).toNat])) ≤ _
        omega
      · exact Nat.le_succ _
    refine iteP (P := fun r : Int × Sta => tot r.2.1 ≤ tot s.1 + 1) (fun _ => ?_) (fun _ => ?_)
    · refine iteP (P := fun r : Int × Sta => tot r.2.1 ≤ tot s.1 + 1) (fun _ => Nat.le_succ _) (fun _ => ?_)
      refine iteP (P := fun r : Int × Sta => tot r.2.1 ≤ tot s.1 + 1) (fun _ => ?_) (fun _ => Nat.le_succ _)
      have := st (turL (pth s.1 a) b c)
      unfold turL at this
      rw [mvL_len] at this
      show tot (s.1.set a (mvL (pth s.1 a) b c (pth s.1 a).length)) ≤ _
      omega
    refine iteP (P := fun r : Int × Sta => tot r.2.1 ≤ tot s.1 + 1) (fun _ => ?_) (fun _ => ?_)
    · have := st (pth s.1 a).reverse
      rw [List.length_reverse] at this
      show tot (s.1.set a (pth s.1 a).reverse) ≤ _
      omega
    refine iteP (P := fun r : Int × Sta => tot r.2.1 ≤ tot s.1 + 1) (fun _ => ?_) (fun _ => ?_)
    · refine iteP (P := fun r : Int × Sta => tot r.2.1 ≤ tot s.1 + 1) (fun _ => Nat.le_succ _) (fun hb => ?_)
      refine iteP (P := fun r : Int × Sta => tot r.2.1 ≤ tot s.1 + 1) (fun _ => Nat.le_succ _) (fun hab => ?_)
      refine iteP (P := fun r : Int × Sta => tot r.2.1 ≤ tot s.1 + 1) (fun _ => ?_) (fun _ => Nat.le_succ _)
      have hb : b < s.1.length := by omega
      have e1 := st (weldL s.1 a b)
      have e2 := tot_erase (ps := s.1.set a (weldL s.1 a b)) (p := b) (by rw [List.length_set]; exact hb)
      rw [pth_set ha, if_neg (fun z => hab z.symm)] at e2
      have lw : (weldL s.1 a b).length = (pth s.1 a).length + (pth s.1 b).length := by unfold weldL; rw [List.length_append, List.length_reverse]
      show tot (weldP s.1 a b) ≤ _
      unfold weldP
      omega
    refine iteP (P := fun r : Int × Sta => tot r.2.1 ≤ tot s.1 + 1) (fun _ => ?_) (fun _ => ?_)
    · refine iteP (P := fun r : Int × Sta => tot r.2.1 ≤ tot s.1 + 1) (fun _ => Nat.le_succ _) (fun _ => ?_)
      refine iteP (P := fun r : Int × Sta => tot r.2.1 ≤ tot s.1 + 1) (fun _ => Nat.le_succ _) (fun _ => ?_)
      have := st ((pth s.1 a).take (b + 1))
      rw [List.length_take] at this
      show tot (s.1.set a ((pth s.1 a).take (b + 1)) ++ [(pth s.1 a).drop (b + 1)]) ≤ _
      rw [tot_app]
      show _ + (((pth s.1 a).drop (b + 1)).length + 0) ≤ _
      rw [List.length_drop]
      omega
    · have := tot_erase ha
      show tot (s.1.eraseIdx a) ≤ _
      omega
  exact key
theorem l_due_rev {a kd b c : Nat} (h : RS w s) (ho : OKp s.1) (ha : a < s.1.length) (k : ∀ w', RS w' (s.1.set a (pth s.1 a).reverse, s.2.1, s.2.2.1, s.2.2.2) → frm w w' [68, 69] → K (vi (hdL (pth s.1 a).reverse : Int)) none w') : Go G cL_due mL_due none 4 0 0 208 [some (vi (kd : Int)), some (vi (a : Int)), some (vi (b : Int)), some (vi (c : Int)), some (vr 68), some (vr 69), none, none] [] w K X := by
  have h5 := ho.1
  have hA := h.1.2.2 a ha
  have hla := ho.len ha
  have hlen : w 68 (Int.toNat (a : Int)) = ((pth s.1 a).length : Int) := hA.1
  refine Go_iconst dL_due_208 ?_
  refine Go_ist6 dL_due_209 rfl ?_
  refine Go_upTo (n := (pth s.1 a).length / 2) (L := fun i => [some (vi (kd : Int)), some (vi (a : Int)), some (vi (b : Int)), some (vi (c : Int)), some (vr 68), some (vr 69), some (vi (i : Int)), none]) (P := fun i v => PA v ∧ frm w v [69] ∧ ∀ r m, r < 5 → m < 48 → PK v r m = if r = a ∧ (m < i ∨ (pth s.1 a).length - i ≤ m ∧ m < (pth s.1 a).length) then PK w a ((pth s.1 a).length - 1 - m) else PK w r m) (by repeat' (first | exact Or.inl rfl | exact Or.inr rfl | exact Or.inr (lcg (by omega)) | exact trivial | constructor)) (⟨h.1.1, frm.rfl, fun r m _ _ => by rw [if_neg (by omega)]⟩) (fun i v hi hP kn => ?_) (fun v hP => ?_)
  · try dsimp only at hP kn
    try dsimp only
    obtain ⟨pa, fr, hk⟩ := hP
    have e1 : PK v a i = PK w a i := by rw [hk a i (by omega) (by omega), if_neg (by omega)]
    have e2 : PK v a ((pth s.1 a).length - 1 - i) = PK w a ((pth s.1 a).length - 1 - i) := by rw [hk a _ (by omega) (by omega), if_neg (by omega)]
    refine Go_ild6 dL_due_211 ?_
    refine Go_ald4 dL_due_213 ?_
    refine Go_ild1 dL_due_215 ?_
    refine Go_iald dL_due_216 (by first | assumption | rfl) trivial (by omega) (by omega) (by decide) ?_
    rw [fr.at (by simp), hlen]
    refine Go_iconst dL_due_217 ?_
    refine Go_isub dL_due_218 ?_
    refine Go_ild6 dL_due_219 ?_
    refine Go_isub dL_due_221 ?_
    refine Go_icmp_ge (tgt := 281) dL_due_222 (by decide) (by constructor <;> omega) (by constructor <;> omega) (fun h222 => by omega) (fun h222 => ?_)
    refine Go_ild1 dL_due_225 ?_
    refine Go_ild6 dL_due_226 ?_
    refine Go_ald5 dL_due_228 ?_
    refine Go_cS3 (d' := 0) (bc' := 0) (bs' := 0) rfl dL_due_230 msL_at rfl lkL_70 (by decide) (by omega) (by omega) (Nat.le_of_ble_eq_true rfl) ?_
    refine e_L_at pa (by omega) (by omega) ?_
    rw [e1]
    refine Go_ist7 dL_due_233 rfl ?_
    refine Go_ild1 dL_due_235 ?_
    refine Go_ild6 dL_due_236 ?_
    refine Go_ild1 dL_due_238 ?_
    refine Go_ald4 dL_due_239 ?_
    refine Go_ild1 dL_due_241 ?_
    refine Go_iald dL_due_242 (by first | assumption | rfl) trivial (by omega) (by omega) (by decide) ?_
    rw [fr.at (by simp), hlen]
    refine Go_iconst dL_due_243 ?_
    refine Go_isub dL_due_244 ?_
    refine Go_ild6 dL_due_245 ?_
    refine Go_isub dL_due_247 ?_
    refine Go_ald5 dL_due_248 ?_
    rw [show ((pth s.1 a).length : Int) - 1 - (i : Int) = (((pth s.1 a).length - 1 - i : Nat) : Int) by omega]
    refine Go_cS3 (d' := 0) (bc' := 0) (bs' := 0) rfl dL_due_250 msL_at rfl lkL_70 (by decide) (by omega) (by omega) (Nat.le_of_ble_eq_true rfl) ?_
    refine e_L_at pa (by omega) (by omega) ?_
    rw [e2]
    refine Go_ald5 dL_due_253 ?_
    refine Go_cSv4 (d' := 0) (bc' := 0) (bs' := 0) rfl dL_due_255 msL_puts rfl lkL_121 (by decide) (by omega) (by omega) (Nat.le_of_ble_eq_true rfl) ?_
    refine e_L_puts pa (by omega) (by omega) (PK_lt _ _ _) (fun w1 a1 f1 g1 => ?_)
    refine Go_ild1 dL_due_258 ?_
    refine Go_ald4 dL_due_259 ?_
    refine Go_ild1 dL_due_261 ?_
    refine Go_iald dL_due_262 (by first | assumption | rfl) trivial (by omega) (by omega) (by decide) ?_
    rw [f1.at (by simp), fr.at (by simp), hlen]
    refine Go_iconst dL_due_263 ?_
    refine Go_isub dL_due_264 ?_
    refine Go_ild6 dL_due_265 ?_
    refine Go_isub dL_due_267 ?_
    refine Go_ild7 dL_due_268 ?_
    refine Go_ald5 dL_due_270 ?_
    rw [show ((pth s.1 a).length : Int) - 1 - (i : Int) = (((pth s.1 a).length - 1 - i : Nat) : Int) by omega]
    refine Go_cSv4 (d' := 0) (bc' := 0) (bs' := 0) rfl dL_due_272 msL_puts rfl lkL_121 (by decide) (by omega) (by omega) (Nat.le_of_ble_eq_true rfl) ?_
    refine e_L_puts a1 (by omega) (by omega) (PK_lt _ _ _) (fun w2 a2 f2 g2 => ?_)
    refine Go_inc6 dL_due_275 rfl ?_
    refine Go_goto (tgt := 211) dL_due_278 (by decide) ?_
    refine Go_forget (by repeat' (first | exact Or.inl rfl | exact Or.inr rfl | exact Or.inr (lcg (by omega)) | exact trivial | constructor)) (kn _ ⟨a2, (fr.trans f1 (by simp)).trans f2 (by simp), fun r m hr hm => ?_⟩)
    rw [g2 r m hr hm, g1 r m hr hm, hk r m hr hm]
    by_cases c1 : r = a ∧ m = (pth s.1 a).length - 1 - i
    · rw [if_pos c1, if_pos (by omega), c1.2, show (pth s.1 a).length - 1 - ((pth s.1 a).length - 1 - i) = i by omega]
    · rw [if_neg c1]
      by_cases c3 : r = a ∧ m = i
      · rw [if_pos c3, if_pos (by omega), c3.2]
      · rw [if_neg c3]
        by_cases c2 : r = a ∧ (m < i ∨ (pth s.1 a).length - i ≤ m ∧ m < (pth s.1 a).length)
        · rw [if_pos c2, if_pos (by omega)]
        · rw [if_neg c2, if_neg (by omega)]
  · try dsimp only at hP
    try dsimp only
    obtain ⟨pa, fr, hk⟩ := hP
    have hR : ∀ m, m < (pth s.1 a).length → PK v a m = (pth s.1 a).reverse.getD m 0 := fun m hm => by
      rw [hk a m (by omega) (by omega), gD_rev hm]
      by_cases c2 : m < (pth s.1 a).length / 2 ∨ (pth s.1 a).length - (pth s.1 a).length / 2 ≤ m ∧ m < (pth s.1 a).length
      · rw [if_pos ⟨rfl, c2⟩]; exact hA.2.2 _ (by omega)
      · rw [if_neg (fun z => c2 z.2), show (pth s.1 a).length - 1 - m = m by omega]; exact hA.2.2 _ hm
    refine Go_ild6 dL_due_211 ?_
    refine Go_ald4 dL_due_213 ?_
    refine Go_ild1 dL_due_215 ?_
    refine Go_iald dL_due_216 (by first | assumption | rfl) trivial (by omega) (by omega) (by decide) ?_
    rw [fr.at (by simp), hlen]
    refine Go_iconst dL_due_217 ?_
    refine Go_isub dL_due_218 ?_
    refine Go_ild6 dL_due_219 ?_
    refine Go_isub dL_due_221 ?_
    refine Go_icmp_ge (tgt := 281) dL_due_222 (by decide) (by constructor <;> omega) (by constructor <;> omega) (fun h222 => ?_) (fun h222 => by omega)
    refine Go_ild1 dL_due_281 ?_
    refine Go_ald4 dL_due_282 ?_
    refine Go_ild1 dL_due_284 ?_
    refine Go_iald dL_due_285 (by first | assumption | rfl) trivial (by omega) (by omega) (by decide) ?_
    refine Go_iconst dL_due_286 ?_
    refine Go_isub dL_due_287 ?_
    rw [fr.at (by simp), hlen, show ((pth s.1 a).length : Int) - 1 = (((pth s.1 a).length - 1 : Nat) : Int) by omega]
    refine Go_ald5 dL_due_288 ?_
    refine Go_cS3 (d' := 0) (bc' := 0) (bs' := 0) rfl dL_due_290 msL_at rfl lkL_70 (by decide) (by omega) (by omega) (Nat.le_of_ble_eq_true rfl) ?_
    refine e_L_at pa (by omega) (by omega) ?_
    rw [hR _ (by omega)]
    refine Go_ireturn dL_due_293 rfl (by first | rfl | decide | exact nar_b | simp [narrow]) ?_
    refine kI ?_ (k v ⟨?_, ?_, ?_, ?_⟩ (fr.mono (by simp)))
    · unfold hdL; rw [List.length_reverse]
    · exact RP_set h.1 h5 pa (fr.at (by simp) _) (fun r hr hra => ⟨fr.at (by simp) _, fun m hm => by rw [hk r m hr hm, if_neg (fun z => hra z.1)]⟩) (by rw [fr.at (by simp), List.length_reverse]; exact hA.1) (by rw [List.length_reverse]; exact hA.2.1) (fun m hm => hR m (by rw [List.length_reverse] at hm; exact hm))
    · rw [fr.at (by simp)]; exact h.2.1
    · rw [fr.at (by simp)]; exact h.2.2.1
    · rw [fr.at (by simp)]; exact h.2.2.2
end Due2
