section Ops3
variable {G : Gm} {w : Wd} {K : Kt} {X : Xt} {s : Sta} {p o : Nat}
theorem e_X0_contacts (h : BD w s.1) (ho : OKp s.1) (hp : p < s.1.length) (k : K (vi (cnC s.1 p)) none w) : Ev G yX0_contacts cX0_contacts 7 mX0_contacts none 2 0 0 [vr 2, vi (p : Int)] w K X := by
  obtain ⟨hb, hm, ht⟩ := h
  have h5 := hb.2.1
  have h3 := hb.2.2.1 p (by omega)
  have hT := hb.2.2.2.2 p hp
  have hl := hT.2.2.1
  have hts := (bts_sh h3.1)
  have hts1 := hts.1
  unfold cnC at k
  refine Ev_intro mvX0_contacts.1 rfl (fun h => by cases h) (allc1 rfl) (Nat.le_of_ble_eq_true rfl) (Or.inl rfl) ?_
  show Go G cX0_contacts mX0_contacts none 2 0 0 0 [some (vr 2), some (vi (p : Int)), none, none, none, none, none] [] w K X
  refine Go_iconst dX0_contacts_0 ?_
  refine Go_ist2 dX0_contacts_1 rfl ?_
  refine Go_ald0 dX0_contacts_2 ?_
  refine gf0_0 dX0_contacts_3 flX0_11 ?_
  refine Go_ild1 dX0_contacts_6 ?_
  refine Go_aald5 dX0_contacts_7 rfl trivial (by omega) (by omega) (by decide) (by rw [Int.toNat_natCast]; exact h3.2) hts.2.1 ?_
  refine Go_ast3 dX0_contacts_8 rfl ?_
  refine Go_iconst dX0_contacts_9 ?_
  refine Go_ist4 dX0_contacts_10 rfl ?_
  refine Go_upTo (n := (pth s.1 p).length) (L := fun i => [some (vr 2), some (vi (p : Int)), some (vi (smF (fun k => smF (cnG s.1 p k) 2) i)), some (vr (tA w p)), some (vi (i : Int)), none, none]) (P := fun i v => v = w) (by repeat' (first | exact Or.inl rfl | exact Or.inr rfl | exact Or.inr (lcg (by omega)) | exact trivial | constructor)) (rfl) (fun i v hi hP kn => ?_) (fun v hP => ?_)
  · try dsimp only at hP kn
    try dsimp only
    subst hP
    have hx := (ho.lt p).at i
    have eo : smF (fun k => smF (cnG s.1 p k) 2) (i + 1) = smF (fun k => smF (cnG s.1 p k) 2) i + smF (cnG s.1 p i) 2 := rfl
    have z0 : smF (cnG s.1 p i) 0 = 0 := rfl
    refine Go_ild4 dX0_contacts_12 ?_
    refine Go_ald3 dX0_contacts_14 ?_
    refine Go_cV0 (d' := 0) (bc' := 0) (bs' := 0) rfl dX0_contacts_15 mvX9_length rfl lkX0_38 (by first | assumption | rfl) rfl trivial (by decide) (by decide) (by decide) (Nat.le_of_ble_eq_true rfl) ?_
    refine e_X9_length hT ?_
    refine Go_icmp_ge (tgt := 84) dX0_contacts_18 (by decide) (by constructor <;> omega) (by constructor <;> omega) (fun h18 => by omega) (fun h18 => ?_)
    refine Go_iconst dX0_contacts_21 ?_
    refine Go_ist5 dX0_contacts_22 rfl ?_
    refine Go_upTo (n := 2) (L := fun i2 => [some (vr 2), some (vi (p : Int)), some (vi (smF (fun k => smF (cnG s.1 p k) 2) i + smF (cnG s.1 p i) i2)), some (vr (tA v p)), some (vi (i : Int)), some (vi ((i2 : Int) + 1)), none]) (P := fun i2 v2 => v2 = v) (by repeat' (first | exact Or.inl rfl | exact Or.inr rfl | exact Or.inr (lcg (by omega)) | exact trivial | constructor)) (rfl) (fun i2 v2 hi2 hP2 kn2 => ?_) (fun v2 hP2 => ?_)
    · try dsimp only at hP2 kn2
      try dsimp only
      subst hP2
      have b := nbI_in ((pth s.1 p).getD i 0) ((i2 : Int) + 1)
      have b2 := owI_in h5 (nbI ((pth s.1 p).getD i 0) ((i2 : Int) + 1))
      have b3 := plI_in ho (nbI ((pth s.1 p).getD i 0) ((i2 : Int) + 1))
      have e : smF (cnG s.1 p i) (i2 + 1) = smF (cnG s.1 p i) i2 + (if owI s.1 (nbI ((pth s.1 p).getD i 0) ((i2 : Int) + 1)) = p ∧ (plI s.1 (nbI ((pth s.1 p).getD i 0) ((i2 : Int) + 1)) - i > 1 ∨ i - plI s.1 (nbI ((pth s.1 p).getD i 0) ((i2 : Int) + 1)) > 1) then 1 else 0) := rfl
      refine Go_ild5 dX0_contacts_24 ?_
      refine Go_iconst dX0_contacts_26 ?_
      refine Go_icmp_gt (tgt := 78) dX0_contacts_27 (by decide) (by constructor <;> omega) (by constructor <;> omega) (fun h27 => by omega) (fun h27 => ?_)
      refine Go_ald3 dX0_contacts_30 ?_
      refine Go_ild4 dX0_contacts_31 ?_
      refine Go_cV1 (d' := 1) (bc' := 0) (bs' := 0) rfl dX0_contacts_33 mvX9_at rfl lkX0_42 (by first | assumption | rfl) rfl trivial (by decide) (by decide) (by decide) (Nat.le_of_ble_eq_true rfl) ?_
      refine e_X9_atN (j := i) hT rfl hi ?_
      refine Go_ild5 dX0_contacts_36 ?_
      refine Go_cS2 (d' := 1) (bc' := 0) (bs' := 0) rfl dX0_contacts_38 msX2_neighbour rfl lkX0_75 (by decide) (by decide) (by decide) (Nat.le_of_ble_eq_true rfl) ?_
      refine e_X2_neighbour (by omega) (by omega) (by constructor <;> omega) ?_
      refine Go_ist6 dX0_contacts_41 rfl ?_
      refine Go_ald0 dX0_contacts_43 ?_
      refine Go_ild6 dX0_contacts_44 ?_
      refine Go_cV1 (d' := 1) (bc' := 0) (bs' := 0) rfl dX0_contacts_46 mvX0_pathAt rfl lkX0_99 (by first | assumption | rfl) rfl trivial (by decide) (by decide) (by decide) (Nat.le_of_ble_eq_true rfl) ?_
      refine e_X0_pathAt hm (by constructor <;> omega) ?_
      refine Go_ild1 dX0_contacts_49 ?_
      refine Go_icmp_ne (tgt := 72) dX0_contacts_50 (by decide) (by constructor <;> omega) (by constructor <;> omega) (fun h50 => ?_) (fun h50 => ?_)
      · refine Go_inc5 dX0_contacts_72 rfl ?_
        refine Go_goto (tgt := 24) dX0_contacts_75 (by decide) ?_
        refine Go_forget (ls' := _) ?_ (kn2 _ rfl)
        first | rw [if_neg (by omega), Int.add_zero] at e | rw [if_pos (by omega)] at e
        rw [e]
        exact (by repeat' (first | exact Or.inl rfl | exact Or.inr rfl | exact Or.inr (lcg (by omega)) | exact trivial | constructor))
      · refine Go_ald0 dX0_contacts_53 ?_
        refine Go_ild6 dX0_contacts_54 ?_
        refine Go_cV1 (d' := 1) (bc' := 0) (bs' := 0) rfl dX0_contacts_56 mvX0_placeAt rfl lkX0_113 (by first | assumption | rfl) rfl trivial (by decide) (by decide) (by decide) (Nat.le_of_ble_eq_true rfl) ?_
        refine e_X0_placeAt hm (by constructor <;> omega) ?_
        refine Go_ild4 dX0_contacts_59 ?_
        refine Go_isub dX0_contacts_61 ?_
        refine Go_mabs dX0_contacts_62 lkX0_115 (by decide) (by constructor <;> omega) (Nat.le_of_ble_eq_true rfl) ?_
        refine Go_iconst dX0_contacts_65 ?_
        refine Go_icmp_le (tgt := 72) dX0_contacts_66 (by decide) (by split <;> constructor <;> omega) (by constructor <;> omega) (fun h66 => ?_) (fun h66 => ?_)
        · refine Go_inc5 dX0_contacts_72 rfl ?_
          refine Go_goto (tgt := 24) dX0_contacts_75 (by decide) ?_
          refine Go_forget (ls' := _) ?_ (kn2 _ rfl)
          first | rw [if_neg (by omega), Int.add_zero] at e | rw [if_pos (by omega)] at e
          rw [e]
          exact (by repeat' (first | exact Or.inl rfl | exact Or.inr rfl | exact Or.inr (lcg (by omega)) | exact trivial | constructor))
        · refine Go_inc2 dX0_contacts_69 rfl ?_
          refine Go_inc5 dX0_contacts_72 rfl ?_
          refine Go_goto (tgt := 24) dX0_contacts_75 (by decide) ?_
          refine Go_forget (ls' := _) ?_ (kn2 _ rfl)
          first | rw [if_neg (by omega), Int.add_zero] at e | rw [if_pos (by omega)] at e
          rw [e]
          exact (by repeat' (first | exact Or.inl rfl | exact Or.inr rfl | exact Or.inr (lcg (by omega)) | exact trivial | constructor))
    · try dsimp only at hP2
      try dsimp only
      subst hP2
      refine Go_ild5 dX0_contacts_24 ?_
      refine Go_iconst dX0_contacts_26 ?_
      refine Go_icmp_gt (tgt := 78) dX0_contacts_27 (by decide) (by constructor <;> omega) (by constructor <;> omega) (fun h27 => ?_) (fun h27 => by omega)
      refine Go_inc4 dX0_contacts_78 rfl ?_
      refine Go_goto (tgt := 12) dX0_contacts_81 (by decide) ?_
      refine Go_forget (ls' := _) ?_ (kn _ rfl)
      rw [eo]
      exact (by repeat' (first | exact Or.inl rfl | exact Or.inr rfl | exact Or.inr (lcg (by omega)) | exact trivial | constructor))
  · try dsimp only at hP
    try dsimp only
    subst hP
    refine Go_ild4 dX0_contacts_12 ?_
    refine Go_ald3 dX0_contacts_14 ?_
    refine Go_cV0 (d' := 0) (bc' := 0) (bs' := 0) rfl dX0_contacts_15 mvX9_length rfl lkX0_38 (by first | assumption | rfl) rfl trivial (by decide) (by decide) (by decide) (Nat.le_of_ble_eq_true rfl) ?_
    refine e_X9_length hT ?_
    refine Go_icmp_ge (tgt := 84) dX0_contacts_18 (by decide) (by constructor <;> omega) (by constructor <;> omega) (fun h18 => ?_) (fun h18 => by omega)
    refine Go_ild2 dX0_contacts_84 ?_
    refine Go_ireturn dX0_contacts_85 rfl (by first | rfl | decide | exact nar_b | simp [narrow]) ?_
    exact k
def weldL (ps : List (List Nat)) (p o : Nat) : List Nat := pth ps p ++ (pth ps o).reverse
def weldP (ps : List (List Nat)) (p o : Nat) : List (List Nat) := (ps.set p (weldL ps p o)).eraseIdx o
theorem weldP_eq {ps : List (List Nat)} (hpo : p ≠ o) : weldP ps p o = (ps.eraseIdx o).set (if p < o then p else p - 1) (weldL ps p o) := by
  unfold weldP
  by_cases h : p < o
  · rw [if_pos h, List.eraseIdx_set_gt h]
  · rw [if_neg h, List.eraseIdx_set_lt (by omega)]
theorem OKp.weld {ps : List (List Nat)} (h : OKp ps) (hp : p < ps.length) (hq : o < ps.length) (hpo : p ≠ o) (hn : nbr (hdL (pth ps p)) (hdL (pth ps o))) (h60 : (pth ps p).length + (pth ps o).length ≤ 60) : OKp (weldP ps p o) := by
  have h1 := h.len hp
  have h2 := h.len hq
  have e0 : (ps.eraseIdx o).length = ps.length - 1 := List.length_eraseIdx_of_lt hq
  rw [weldP_eq hpo]
  refine (h.erase hq).set (by rw [e0]; split <;> omega) ?_ ?_ ?_ ((h.lt p).app (h.lt o).rev) ?_ (fun x hx q hne => ?_)
  · unfold weldL; rw [List.length_append]; omega
  · unfold weldL; rw [List.length_append, List.length_reverse]; omega
  · refine (h.adj hp).app ((h.adj hq).rev (h.lt o)) (fun _ _ => ?_)
    rw [gD_rev (by omega)]
    exact hn
  · refine List.nodup_append.mpr ⟨(h.nd p).1, List.pairwise_reverse.mpr ((h.nd o).1.imp (fun h => Ne.symm h)), fun a ha b hb e => ?_⟩
    rw [e] at ha
    exact (h.nd p).2 o hpo b ha (List.mem_reverse.mp hb)
  · rw [pth_erase]
    have key : ∀ r, r ≠ p → r ≠ o → x ∉ pth ps r := fun r r1 r2 => by
      rcases List.mem_append.mp hx with c | c
      · exact (h.nd p).2 r (Ne.symm r1) x c
      · exact (h.nd o).2 r (Ne.symm r2) x (List.mem_reverse.mp c)
    by_cases h3 : p < o
    · rw [if_pos h3] at hne
      by_cases h4 : q < o
      · rw [if_pos h4]; exact key q hne (by omega)
      · rw [if_neg h4]; exact key (q + 1) (by omega) (by omega)
    · rw [if_neg h3] at hne
      by_cases h4 : q < o
      · rw [if_pos h4]; exact key q (by omega) (by omega)
      · rw [if_neg h4]; exact key (q + 1) (by omega) (by omega)
theorem e_X0_weld (h : BS w s) (ho : OKp s.1) (hp : p < s.1.length) (hq : o < s.1.length) (hpo : p ≠ o) (h60 : (pth s.1 p).length + (pth s.1 o).length ≤ 60) (hO : OKp (weldP s.1 p o)) (k : ∀ w', BS w' (weldP s.1 p o, s.2.1, s.2.2.1, s.2.2.2) → frm w w' bcs → K (vi (((pth s.1 p).length : Int) + (pth s.1 o).length)) none w') : Ev G yX0_weld cX0_weld 6 mX0_weld none 4 0 0 [vr 2, vi (p : Int), vi (o : Int)] w K X := by
  have h0 := h
  obtain ⟨⟨hb, hm, ht0⟩, c1, c2, c3⟩ := h
  have h5 := hb.2.1
  have h3 := hb.2.2.1 p (by omega)
  have h4 := hb.2.2.1 o (by omega)
  have hT := hb.2.2.2.2 p hp
  have hU := hb.2.2.2.2 o hq
  have hts := bts_sh h3.1
  have hts1 := hts.1
  have hus := bts_sh h4.1
  have hus1 := hus.1
  have hne : tA w p ≠ tA w o := fun x => hpo (hb.2.2.2.1 p o (by omega) (by omega) x)
  have hl := ho.len hq
  refine Ev_intro mvX0_weld.1 rfl (fun h => by cases h) (allc1 rfl) (Nat.le_of_ble_eq_true rfl) (Or.inl rfl) ?_
  show Go G cX0_weld mX0_weld none 4 0 0 0 [some (vr 2), some (vi (p : Int)), some (vi (o : Int)), none, none, none] [] w K X
  refine Go_ald0 dX0_weld_0 ?_
  refine gf0_0 dX0_weld_1 flX0_11 ?_
  refine Go_ild1 dX0_weld_4 ?_
  refine Go_aald5 dX0_weld_5 rfl trivial (by omega) (by omega) (by decide) (by rw [Int.toNat_natCast]; exact h3.2) hts.2.1 ?_
  refine Go_ast3 dX0_weld_6 rfl ?_
  refine Go_ald0 dX0_weld_7 ?_
  refine gf0_0 dX0_weld_8 flX0_11 ?_
  refine Go_ild2 dX0_weld_11 ?_
  refine Go_aald5 dX0_weld_12 rfl trivial (by omega) (by omega) (by decide) (by rw [Int.toNat_natCast]; exact h4.2) hus.2.1 ?_
  refine Go_ast4 dX0_weld_13 rfl ?_
  refine Go_ald4 dX0_weld_15 ?_
  refine Go_cV0 (d' := 0) (bc' := 0) (bs' := 0) rfl dX0_weld_17 mvX9_length rfl lkX0_38 (by first | assumption | rfl) rfl trivial (by decide) (by decide) (by decide) (Nat.le_of_ble_eq_true rfl) ?_
  refine e_X9_length hU ?_
  refine Go_iconst dX0_weld_20 ?_
  refine Go_isub dX0_weld_21 ?_
  refine Go_ist5 dX0_weld_22 rfl ?_
  refine Go_upTo (n := (pth s.1 o).length) (L := fun i => [some (vr 2), some (vi (p : Int)), some (vi (o : Int)), some (vr (tA w p)), some (vr (tA w o)), some (vi (((pth s.1 o).length : Int) - 1 - i))]) (P := fun i v => TR v (tA w p) (pth s.1 p ++ (pth s.1 o).reverse.take i) ∧ frm w v [tA w p, tA w p + 1]) (by repeat' (first | exact Or.inl rfl | exact Or.inr rfl | exact Or.inr (lcg (by omega)) | exact trivial | constructor)) (⟨by rw [List.take_zero, List.append_nil]; exact hT, frm.rfl⟩) (fun i v hi hP kn => ?_) (fun v hP => ?_)
  · try dsimp only at hP kn
    try dsimp only
    obtain ⟨t1, f1⟩ := hP
    have hU1 := hU.frm f1 (by simp; omega) (by simp; omega)
    have er : (pth s.1 o).reverse.getD i 0 = (pth s.1 o).getD ((pth s.1 o).length - 1 - i) 0 := gD_rev hi
    have el : ((pth s.1 o).reverse.take i).length = i := by rw [List.length_take, List.length_reverse]; omega
    refine Go_ild5 dX0_weld_24 ?_
    refine Go_if_lt (tgt := 46) dX0_weld_26 (by decide) (by constructor <;> omega) (fun h26 => by omega) (fun h26 => ?_)
    refine Go_ald3 dX0_weld_29 ?_
    refine Go_ald4 dX0_weld_30 ?_
    refine Go_ild5 dX0_weld_32 ?_
    refine Go_cV1 (d' := 1) (bc' := 0) (bs' := 0) rfl dX0_weld_34 mvX9_at rfl lkX0_42 (by first | assumption | rfl) rfl trivial (by decide) (by decide) (by decide) (Nat.le_of_ble_eq_true rfl) ?_
    refine e_X9_atN (j := (pth s.1 o).length - 1 - i) hU1 (by omega) (by omega) ?_
    refine Go_cVv1 (d' := 1) (bc' := 0) (bs' := 0) rfl dX0_weld_37 mvX9_push rfl lkX0_86 (by first | assumption | rfl) rfl trivial (by decide) (by decide) (by decide) (Nat.le_of_ble_eq_true rfl) ?_
    refine e_X9_push t1 (by rw [List.length_append, el]; omega) (fun w2 t2 f2 => ?_)
    refine Go_inc5 dX0_weld_40 rfl ?_
    refine Go_goto (tgt := 24) dX0_weld_43 (by decide) ?_
    refine Go_forget (by repeat' (first | exact Or.inl rfl | exact Or.inr rfl | exact Or.inr (lcg (by omega)) | exact trivial | constructor)) (kn _ ⟨?_, f1.trans f2 (fun _ h => h)⟩)
    rw [← take_getD (by rw [List.length_reverse]; exact hi), er, ← List.append_assoc]
    exact t2
  · try dsimp only at hP
    try dsimp only
    obtain ⟨t1, f1⟩ := hP
    rw [List.take_of_length_le (by rw [List.length_reverse]; exact Nat.le_refl _)] at t1
    have e3 : v 3 = w 3 := f1 3 (by simp; omega)
    have e2 : v 2 = w 2 := f1 2 (by simp; omega)
    have hb1 := BT_put hb hp rfl f1 t1
    refine Go_ild5 dX0_weld_24 ?_
    refine Go_if_lt (tgt := 46) dX0_weld_26 (by decide) (by constructor <;> omega) (fun h26 => ?_) (fun h26 => by omega)
    refine Go_ald0 dX0_weld_46 ?_
    refine Go_ild2 dX0_weld_47 ?_
    refine Go_cVv1 (d' := 3) (bc' := 0) (bs' := 0) rfl dX0_weld_48 mvX0_drop rfl lkX0_110 (by first | assumption | rfl) rfl trivial (by decide) (by decide) (by decide) (Nat.le_of_ble_eq_true rfl) ?_
    refine e_X0_drop hb1 (by rw [List.length_set]; exact hq) hO.2.2.1 hO.2.2.2 (fun w2 d2 f2 g2 => ?_)
    refine Go_ald3 dX0_weld_51 ?_
    refine Go_cV0 (d' := 0) (bc' := 0) (bs' := 0) rfl dX0_weld_52 mvX9_length rfl lkX0_38 (by first | assumption | rfl) rfl trivial (by decide) (by decide) (by decide) (Nat.le_of_ble_eq_true rfl) ?_
    refine e_X9_length (t1.frm f2 (by simp; omega) (by simp; omega)) ?_
    refine Go_ireturn dX0_weld_55 rfl (by first | rfl | decide | exact nar_b | simp [narrow]) ?_
    refine kI ?_ (k _ ⟨d2, by rw [g2 2 (by decide) (by decide), e2]; exact c1, by rw [g2 3 (by decide) (by decide), e2]; exact c2, by rw [g2 4 (by decide) (by decide), e2]; exact c3⟩ ((f1.mono (bcs_t h3.1)).trans f2 (by decide)))
    rw [List.length_append, List.length_reverse]; omega
end Ops3
/-- distinct numbers below n are at most n -/
theorem nodup_le : ∀ (n : Nat) (l : List Nat), l.Nodup → (∀ x ∈ l, x < n) → l.length ≤ n
  | 0, l, _, h => by
    cases l with
    | nil => simp
    | cons a r => have := h a (by simp); omega
  | n + 1, l, hn, h => by
    by_cases q : n ∈ l
    · have h1 := nodup_le n (l.erase n) (hn.erase n) (fun x hx => by
        have := (hn.mem_erase_iff).mp hx
        have h2 := h x this.2
        have h3 := this.1
        omega)
      rw [List.length_erase_of_mem q] at h1
      omega
    · exact Nat.le_succ_of_le (nodup_le n l hn (fun x hx => by
        have h2 := h x hx
        have : x ≠ n := fun e => q (by rw [← e]; exact hx)
        omega))
theorem tot_flat : ∀ (ps : List (List Nat)), tot ps = ps.flatten.length
  | [] => rfl
  | l :: r => by show l.length + tot r = _; rw [tot_flat r, List.flatten_cons, List.length_append]
theorem OKp.tot {ps : List (List Nat)} (h : OKp ps) : tot ps ≤ 100 := by
  rw [tot_flat]
  refine nodup_le 100 _ (List.pairwise_flatten.mpr ⟨fun l hl => ?_, ?_⟩) (fun x hx => ?_)
  · obtain ⟨p, -, e⟩ := mem_pth hl
    rw [← e]
    exact (h.nd p).1
  · rw [List.pairwise_iff_getElem]
    intro i j hi hj hij x hx y hy e
    rw [← pth_lt hi] at hx
    rw [← pth_lt hj, ← e] at hy
    exact (h.nd i).2 j (by omega) x hx hy
  · obtain ⟨l, hl, hx2⟩ := List.mem_flatten.mp hx
    obtain ⟨p, -, e⟩ := mem_pth hl
    rw [← e] at hx2
    exact h.lt p x hx2
theorem tot_succ {ps : List (List Nat)} {p : Nat} (h : p < ps.length) : tot (ps.take (p + 1)) = tot (ps.take p) + (pth ps p).length := by
  rw [← take_pth h, tot_app]
  simp [tot]
theorem tot_mono {ps : List (List Nat)} {p q : Nat} (h : p ≤ q) (hq : q ≤ ps.length) : tot (ps.take p) ≤ tot (ps.take q) := by
  induction q with
  | zero => have : p = 0 := by omega
            subst this; exact Nat.le_refl _
  | succ q ih =>
    by_cases e : p = q + 1
    · rw [e]; exact Nat.le_refl _
    · have := ih (by omega) (by omega)
      have h2 := tot_succ (ps := ps) (p := q) (by omega)
      omega
/-- a saved state at a -/
def SVs (w : Wd) (a : Nat) (ps : List (List Nat)) (i i2 : Nat) : Prop := ∀ p j, (p < i ∧ j < (pth ps p).length) ∨ (p = i ∧ j < i2) → w (a + 1) (tot (ps.take p) + j) = ((pth ps p).getD j 0 : Int)
def SV (w : Wd) (a : Nat) (s : Sta) : Prop := OKp s.1 ∧ w a 2 = (s.1.length : Int) ∧ w a 3 = s.2.1 ∧ w a 4 = s.2.2.1 ∧ w a 5 = s.2.2.2 ∧ (∀ p, p < s.1.length → w (a + 2) p = ((pth s.1 p).length : Int)) ∧ SVs w a s.1 s.1.length 0
theorem SV.frm {w w' : Wd} {a : Nat} {s : Sta} {A : List Nat} (h : SV w a s) (f : frm w w' A) (h0 : a ∉ A) (h1 : a + 1 ∉ A) (h2 : a + 2 ∉ A) : SV w' a s := by
  obtain ⟨a0, a1, a2, a3, a4, a5, a6⟩ := h
  exact ⟨a0, by rw [f.at h0]; exact a1, by rw [f.at h0]; exact a2, by rw [f.at h0]; exact a3, by rw [f.at h0]; exact a4, fun p hp => by rw [f.at h2]; exact a5 p hp, fun p j hj => by rw [f.at h1]; exact a6 p j hj⟩
def svs : List Nat := [18, 21, 24, 27, 30, 33, 39, 42]
theorem svs_sh {a : Nat} (h : a ∈ svs) : SH a = (1, 4) ∧ SH (a + 1) = (2, 100) ∧ SH (a + 2) = (2, 5) ∧ 18 ≤ a ∧ a ≤ 42 := by
  have key : ∀ a ∈ svs, SH a = (1, 4) ∧ SH (a + 1) = (2, 100) ∧ SH (a + 2) = (2, 5) ∧ 18 ≤ a ∧ a ≤ 42 := by decide +kernel
  exact key a h
theorem SVs.put {w : Wd} {a i i2 : Nat} {ps : List (List Nat)} (h : SVs w a ps i i2) (hi : i < ps.length) (h2 : i2 < (pth ps i).length) : SVs (up w (a + 1) (tot (ps.take i) + i2) ((pth ps i).getD i2 0 : Int)) a ps i (i2 + 1) := by
  intro p j hj
  by_cases e : p = i ∧ j = i2
  · obtain ⟨rfl, rfl⟩ := e
    rw [up_s]
  · have hne : tot (ps.take p) + j ≠ tot (ps.take i) + i2 := by
      rcases hj with ⟨q1, q2⟩ | ⟨q1, q2⟩
      · have m := tot_mono (ps := ps) (p := p + 1) (q := i) (by omega) (by omega)
        have m2 := tot_succ (ps := ps) (p := p) (by omega)
        omega
      · subst q1
        omega
    rw [up_k hne]
    refine h p j ?_
    rcases hj with q | ⟨q1, q2⟩
    · exact Or.inl q
    · refine Or.inr ⟨q1, ?_⟩
      rcases Nat.lt_or_ge j i2 with q | q
      · exact q
      · exact absurd ⟨q1, by omega⟩ e
theorem SVs.next {w : Wd} {a i : Nat} {ps : List (List Nat)} (h : SVs w a ps i (pth ps i).length) : SVs w a ps (i + 1) 0 := by
  intro p j hj
  refine h p j ?_
  rcases hj with ⟨q1, q2⟩ | ⟨q1, q2⟩
  · by_cases e : p = i
    · exact Or.inr ⟨e, by rw [← e]; exact q2⟩
    · exact Or.inl ⟨by omega, q2⟩
  · omega
section Saved
variable {G : Gm} {w : Wd} {K : Kt} {X : Xt} {s : Sta} {a : Nat}
theorem e_X5_take (h : BS w s) (ho : OKp s.1) (ha : a ∈ svs) (k : ∀ w', SV w' a s → frm w w' [a, a + 1, a + 2] → K (vi 0) none w') : Ev G yX5_take cX5_take 6 mX5_take none 2 0 0 [vr a, vr 2] w K X := by
  obtain ⟨⟨hb, hm, ht0⟩, c1, c2, c3⟩ := h
  obtain ⟨s0, s1, s2, s3, s4⟩ := svs_sh ha
  have h5 := hb.2.1
  have h1 := hb.1
  have h100 := ho.tot
  refine Ev_intro mvX5_take.1 rfl (fun h => by cases h) (allc1 rfl) (Nat.le_of_ble_eq_true rfl) (Or.inl rfl) ?_
  show Go G cX5_take mX5_take none 2 0 0 0 [some (vr a), some (vr 2), none, none, none, none] [] w K X
  refine Go_iconst dX5_take_0 ?_
  refine Go_ist2 dX5_take_1 rfl ?_
  refine Go_ald0 dX5_take_2 ?_
  refine Go_ald1 dX5_take_3 ?_
  refine gfN_18 dX5_take_4 rfl ?_
  rw [h1]
  refine pf4_2 dX5_take_7 flX5_24 (by first | assumption | rfl) ?_
  refine Go_iconst dX5_take_10 ?_
  refine Go_ist3 dX5_take_11 rfl ?_
  refine Go_upTo (n := s.1.length) (L := fun i => [some (vr a), some (vr 2), some (vi (tot (s.1.take i) : Int)), some (vi (i : Int)), none, none]) (P := fun i v => frm w v [a, a + 1, a + 2] ∧ v a 2 = (s.1.length : Int) ∧ (∀ p, p < i → v (a + 2) p = ((pth s.1 p).length : Int)) ∧ SVs v a s.1 i 0) (by repeat' (first | exact Or.inl rfl | exact Or.inr rfl | exact Or.inr (lcg (by omega)) | exact trivial | constructor)) (⟨frm.rfl.up (by simp), up_s, fun p hp => by omega, fun p j hj => by omega⟩) (fun i v hi hP kn => ?_) (fun v hP => ?_)
  · try dsimp only at hP kn
    try dsimp only
    obtain ⟨f1, g1, l1, v1⟩ := hP
    have e3 : v 3 = w 3 := f1 3 (by simp; omega)
    have h3 := hb.2.2.1 i (by omega)
    have hts := bts_sh h3.1
    have hts1 := hts.1
    have hT := (hb.2.2.2.2 i hi).frm f1 (by simp; omega) (by simp; omega)
    have hl := ho.len hi
    have m1 := tot_mono (ps := s.1) (p := i + 1) (q := s.1.length) (by omega) (by omega)
    rw [tot_succ hi, List.take_length] at m1
    refine Go_ild3 dX5_take_12 ?_
    refine Go_ald0 dX5_take_13 ?_
    refine gf4_2 dX5_take_14 flX5_24 (by first | assumption | rfl) ?_
    refine Go_icmp_ge (tgt := 86) dX5_take_17 (by decide) (by constructor <;> omega) (by constructor <;> omega) (fun h17 => by omega) (fun h17 => ?_)
    refine Go_ald1 dX5_take_20 ?_
    refine gfN_25 dX5_take_21 rfl ?_
    refine Go_ild3 dX5_take_24 ?_
    refine Go_aald5 dX5_take_25 rfl trivial (by omega) (by omega) (by decide) (by rw [Int.toNat_natCast, e3]; exact h3.2) hts.2.1 ?_
    refine Go_ast4 dX5_take_26 rfl ?_
    refine Go_ald0 dX5_take_28 ?_
    refine gf4_1 dX5_take_29 flX5_15 (by first | assumption | rfl) ?_
    refine Go_ild3 dX5_take_32 ?_
    refine Go_ald4 dX5_take_33 ?_
    refine Go_cV0 (d' := 0) (bc' := 0) (bs' := 0) rfl dX5_take_35 mvX9_length rfl lkX5_29 (by first | assumption | rfl) rfl trivial (by decide) (by decide) (by decide) (Nat.le_of_ble_eq_true rfl) ?_
    refine e_X9_length hT ?_
    refine Go_iast dX5_take_38 s2 trivial (by omega) (by omega) (by decide) ?_
    rw [Int.toNat_natCast]
    have fa : frm v (up v (a + 2) i ((pth s.1 i).length : Int)) [a + 2] := frm.rfl.up (by simp)
    have va : SVs (up v (a + 2) i ((pth s.1 i).length : Int)) a s.1 i 0 := fun p j hj => by rw [up_a (by omega)]; exact v1 p j hj
    refine Go_iconst dX5_take_39 ?_
    refine Go_ist5 dX5_take_40 rfl ?_
    refine Go_upTo (n := (pth s.1 i).length) (L := fun i2 => [some (vr a), some (vr 2), some (vi ((tot (s.1.take i) + i2 : Nat) : Int)), some (vi (i : Int)), some (vr (tA w i)), some (vi (i2 : Int))]) (P := fun i2 v2 => frm (up v (a + 2) i ((pth s.1 i).length : Int)) v2 [a + 1] ∧ SVs v2 a s.1 i i2) (by repeat' (first | exact Or.inl rfl | exact Or.inr rfl | exact Or.inr (lcg (by omega)) | exact trivial | constructor)) (⟨frm.rfl, va⟩) (fun i2 v2 hi2 hP2 kn2 => ?_) (fun v2 hP2 => ?_)
    · try dsimp only at hP2 kn2
      try dsimp only
      obtain ⟨f2, v3⟩ := hP2
      have hT2 := (hT.frm fa (by simp; omega) (by simp; omega)).frm f2 (by simp; omega) (by simp; omega)
      refine Go_ild5 dX5_take_42 ?_
      refine Go_ald4 dX5_take_44 ?_
      refine Go_cV0 (d' := 0) (bc' := 0) (bs' := 0) rfl dX5_take_46 mvX9_length rfl lkX5_29 (by first | assumption | rfl) rfl trivial (by decide) (by decide) (by decide) (Nat.le_of_ble_eq_true rfl) ?_
      refine e_X9_length hT2 ?_
      refine Go_icmp_ge (tgt := 80) dX5_take_49 (by decide) (by constructor <;> omega) (by constructor <;> omega) (fun h49 => by omega) (fun h49 => ?_)
      refine Go_ild2 dX5_take_52 ?_
      refine Go_bipush dX5_take_53 (by decide +kernel) ?_
      refine Go_icmp_ge (tgt := 80) dX5_take_55 (by decide) (by constructor <;> omega) (by constructor <;> omega) (fun h55 => by omega) (fun h55 => ?_)
      refine Go_ald0 dX5_take_58 ?_
      refine gf4_0 dX5_take_59 flX5_9 (by first | assumption | rfl) ?_
      refine Go_ild2 dX5_take_62 ?_
      refine Go_ald4 dX5_take_63 ?_
      refine Go_ild5 dX5_take_65 ?_
      refine Go_cV1 (d' := 1) (bc' := 0) (bs' := 0) rfl dX5_take_67 mvX9_at rfl lkX5_35 (by first | assumption | rfl) rfl trivial (by decide) (by decide) (by decide) (Nat.le_of_ble_eq_true rfl) ?_
      refine e_X9_atN (j := i2) hT2 rfl hi2 ?_
      refine Go_iast dX5_take_70 s1 trivial (by omega) (by omega) (by decide) ?_
      refine Go_inc2 dX5_take_71 rfl ?_
      refine Go_inc5 dX5_take_74 rfl ?_
      refine Go_goto (tgt := 42) dX5_take_77 (by decide) ?_
      rw [Int.toNat_natCast]
      exact Go_forget (by repeat' (first | exact Or.inl rfl | exact Or.inr rfl | exact Or.inr (lcg (by omega)) | exact trivial | constructor)) (kn2 _ ⟨f2.up (by simp), v3.put hi hi2⟩)
    · try dsimp only at hP2
      try dsimp only
      obtain ⟨f2, v3⟩ := hP2
      have hT2 := (hT.frm fa (by simp; omega) (by simp; omega)).frm f2 (by simp; omega) (by simp; omega)
      refine Go_ild5 dX5_take_42 ?_
      refine Go_ald4 dX5_take_44 ?_
      refine Go_cV0 (d' := 0) (bc' := 0) (bs' := 0) rfl dX5_take_46 mvX9_length rfl lkX5_29 (by first | assumption | rfl) rfl trivial (by decide) (by decide) (by decide) (Nat.le_of_ble_eq_true rfl) ?_
      refine e_X9_length hT2 ?_
      refine Go_icmp_ge (tgt := 80) dX5_take_49 (by decide) (by constructor <;> omega) (by constructor <;> omega) (fun h49 => ?_) (fun h49 => by omega)
      refine Go_inc3 dX5_take_80 rfl ?_
      refine Go_goto (tgt := 12) dX5_take_83 (by decide) ?_
      refine Go_forget (ls' := _) ?_ (kn _ ⟨(f1.trans fa (by simp)).trans f2 (by simp), ?_, fun p hp => ?_, v3.next⟩)
      · rw [tot_succ hi]; exact (by repeat' (first | exact Or.inl rfl | exact Or.inr rfl | exact Or.inr (lcg (by omega)) | exact trivial | constructor))
      · rw [f2.at (by simp), up_a (by omega)]; exact g1
      · rw [f2.at (by simp)]
        by_cases e : p = i
        · rw [e, up_s]
        · rw [up_k e]; exact l1 p (by omega)
  · try dsimp only at hP
    try dsimp only
    obtain ⟨f1, g1, l1, v1⟩ := hP
    have e2 : v 2 = w 2 := f1 2 (by simp; omega)
    refine Go_ild3 dX5_take_12 ?_
    refine Go_ald0 dX5_take_13 ?_
    refine gf4_2 dX5_take_14 flX5_24 (by first | assumption | rfl) ?_
    refine Go_icmp_ge (tgt := 86) dX5_take_17 (by decide) (by constructor <;> omega) (by constructor <;> omega) (fun h17 => ?_) (fun h17 => by omega)
    refine Go_ald0 dX5_take_86 ?_
    refine Go_ald1 dX5_take_87 ?_
    refine gfN_39 dX5_take_88 rfl ?_
    refine pf4_3 dX5_take_91 flX5_42 (by first | assumption | rfl) ?_
    refine Go_ald0 dX5_take_94 ?_
    refine Go_ald1 dX5_take_95 ?_
    refine gfN_43 dX5_take_96 rfl ?_
    refine pf4_4 dX5_take_99 flX5_46 (by first | assumption | rfl) ?_
    refine Go_ald0 dX5_take_102 ?_
    refine Go_ald1 dX5_take_103 ?_
    refine gfN_47 dX5_take_104 rfl ?_
    refine pf4_5 dX5_take_107 flX5_50 (by first | assumption | rfl) ?_
    refine Go_return dX5_take_110 rfl ?_
    rw [up_a (a := a) (b := 2) (by omega), up_a (a := a) (b := 2) (by omega), up_a (a := a) (b := 2) (by omega), e2]
    refine k _ ⟨ho, ?_, ?_, ?_, ?_, ?_, ?_⟩ (((f1.up (by simp)).up (by simp)).up (by simp))
    · rw [up_k (by decide), up_k (by decide), up_k (by decide)]; exact g1
    · rw [up_k (by decide), up_k (by decide), up_s]; exact c1
    · rw [up_k (by decide), up_s]; exact c2
    · rw [up_s]; exact c3
    · intro p hp; rw [up_a (by omega), up_a (by omega), up_a (by omega)]; exact l1 p hp
    · intro p j hj; rw [up_a (by omega), up_a (by omega), up_a (by omega)]; exact v1 p j hj
end Saved
